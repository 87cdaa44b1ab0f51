/-- the judgement over any world P and any set A, κ cells and ν slots used -/
def gg_G (P : Heap → Prop) (A : Nat → Prop) (κ ν : Nat) (p : Program) (l : Launch) (e : Env) (R : Room) (s : State) (m : MethodId) (args : Array Value) (below : List Frame) (meth : Method) (c : Code) (nL : Nat) (Q : State → Prop) (pc : Nat) (lv : List (Option Value)) (st : List Value) : Prop :=
  ∀ (H : Heap) (locs : List Loc) (ls : Array Slot), P H → va_S A s.heap H locs → hg_LV ls nL lv → W p l e R s m args below meth c H locs κ ν Q (F0 m pc ls st)
def gg_Cx (p : Program) (c : Code) (cc : ByteArray) : Prop := p.tables.exec = Jvm.exec ∧ c.code = cc
section GGR
variable {P : Heap → Prop} {A : Nat → Prop} {κ ν : Nat} {p : Program} {l : Launch} {e : Env} {R : Room} {s : State} {m : MethodId} {args : Array Value} {below : List Frame} {meth : Method} {c : Code} {cc : ByteArray} {nL : Nat} {Q : State → Prop} {pc pc' : Nat} {st : List Value}
theorem gg_iadd (cx : gg_Cx p c cc) {lv : List (Option Value)} {x y : Int32} (hd : decode cc pc = .ok (.iadd, 1)) (hp : pc + 1 = pc') (k : gg_G P A κ ν p l e R s m args below meth c nL Q pc' lv (.int (x + y) :: st)) : gg_G P A κ ν p l e R s m args below meth c nL Q pc lv (.int y :: .int x :: st) := by
  subst hp; intro H locs ls hP hS hL; exact lv_iadd cx.1 cx.2 hd (k H locs ls hP hS hL)
theorem gg_isub (cx : gg_Cx p c cc) {lv : List (Option Value)} {x y : Int32} (hd : decode cc pc = .ok (.isub, 1)) (hp : pc + 1 = pc') (k : gg_G P A κ ν p l e R s m args below meth c nL Q pc' lv (.int (x - y) :: st)) : gg_G P A κ ν p l e R s m args below meth c nL Q pc lv (.int y :: .int x :: st) := by
  subst hp; intro H locs ls hP hS hL; exact lv_isub cx.1 cx.2 hd (k H locs ls hP hS hL)
theorem gg_iand (cx : gg_Cx p c cc) {lv : List (Option Value)} {x y : Int32} (hd : decode cc pc = .ok (.iand, 1)) (hp : pc + 1 = pc') (k : gg_G P A κ ν p l e R s m args below meth c nL Q pc' lv (.int (x &&& y) :: st)) : gg_G P A κ ν p l e R s m args below meth c nL Q pc lv (.int y :: .int x :: st) := by
  subst hp; intro H locs ls hP hS hL; exact lv_iand cx.1 cx.2 hd (k H locs ls hP hS hL)
theorem gg_lor (cx : gg_Cx p c cc) {lv : List (Option Value)} {x y : Int64} (hd : decode cc pc = .ok (.lor, 1)) (hp : pc + 1 = pc') (k : gg_G P A κ ν p l e R s m args below meth c nL Q pc' lv (.long (x ||| y) :: st)) : gg_G P A κ ν p l e R s m args below meth c nL Q pc lv (.long y :: .long x :: st) := by
  subst hp; intro H locs ls hP hS hL; exact lv_lor cx.1 cx.2 hd (k H locs ls hP hS hL)
theorem gg_land (cx : gg_Cx p c cc) {lv : List (Option Value)} {x y : Int64} (hd : decode cc pc = .ok (.land, 1)) (hp : pc + 1 = pc') (k : gg_G P A κ ν p l e R s m args below meth c nL Q pc' lv (.long (x &&& y) :: st)) : gg_G P A κ ν p l e R s m args below meth c nL Q pc lv (.long y :: .long x :: st) := by
  subst hp; intro H locs ls hP hS hL; exact lv_land cx.1 cx.2 hd (k H locs ls hP hS hL)
theorem gg_lshl (cx : gg_Cx p c cc) {lv : List (Option Value)} {x : Int64} {y : Int32} (hd : decode cc pc = .ok (.lshl, 1)) (hp : pc + 1 = pc') (k : gg_G P A κ ν p l e R s m args below meth c nL Q pc' lv (.long (x <<< (y.toInt64 &&& 63)) :: st)) : gg_G P A κ ν p l e R s m args below meth c nL Q pc lv (.int y :: .long x :: st) := by
  subst hp; intro H locs ls hP hS hL; exact lv_lshl cx.1 cx.2 hd rfl (k H locs ls hP hS hL)
theorem gg_i2l (cx : gg_Cx p c cc) {lv : List (Option Value)} {x : Int32} (hd : decode cc pc = .ok (.i2l, 1)) (hp : pc + 1 = pc') (k : gg_G P A κ ν p l e R s m args below meth c nL Q pc' lv (.long x.toInt64 :: st)) : gg_G P A κ ν p l e R s m args below meth c nL Q pc lv (.int x :: st) := by
  subst hp; intro H locs ls hP hS hL; exact lv_i2l cx.1 cx.2 hd rfl (k H locs ls hP hS hL)
theorem gg_lcmp (cx : gg_Cx p c cc) {lv : List (Option Value)} {x y : Int64} (hd : decode cc pc = .ok (.lcmp, 1)) (hp : pc + 1 = pc') (k : gg_G P A κ ν p l e R s m args below meth c nL Q pc' lv (.int (lg_cmp x y) :: st)) : gg_G P A κ ν p l e R s m args below meth c nL Q pc lv (.long y :: .long x :: st) := by
  subst hp; intro H locs ls hP hS hL; exact W.lcmp cx.1 cx.2 hd (k H locs ls hP hS hL)
theorem gg_dup (cx : gg_Cx p c cc) {lv : List (Option Value)} {v : Value} (hv : v.category = 1) (hd : decode cc pc = .ok (.dup, 1)) (hp : pc + 1 = pc') (k : gg_G P A κ ν p l e R s m args below meth c nL Q pc' lv (v :: v :: st)) : gg_G P A κ ν p l e R s m args below meth c nL Q pc lv (v :: st) := by
  subst hp; intro H locs ls hP hS hL; exact lv_dup cx.1 cx.2 hd hv (k H locs ls hP hS hL)
theorem gg_iconst (cx : gg_Cx p c cc) {lv : List (Option Value)} {n : Int} (v : Int32) (hd : decode cc pc = .ok (.iconst n, 1)) (hv : Int32.ofInt n = v) (hp : pc + 1 = pc') (k : gg_G P A κ ν p l e R s m args below meth c nL Q pc' lv (.int v :: st)) : gg_G P A κ ν p l e R s m args below meth c nL Q pc lv st := by
  subst hp; intro H locs ls hP hS hL; exact lv_iconst cx.1 cx.2 hd hv (k H locs ls hP hS hL)
theorem gg_bipush (cx : gg_Cx p c cc) {lv : List (Option Value)} {n : Int} (v : Int32) (hd : decode cc pc = .ok (.bipush n, 2)) (hv : (Int8.ofInt n).toInt32 = v) (hp : pc + 2 = pc') (k : gg_G P A κ ν p l e R s m args below meth c nL Q pc' lv (.int v :: st)) : gg_G P A κ ν p l e R s m args below meth c nL Q pc lv st := by
  subst hp; intro H locs ls hP hS hL; exact lv_bipush cx.1 cx.2 hd hv (k H locs ls hP hS hL)
theorem gg_sipush (cx : gg_Cx p c cc) {lv : List (Option Value)} {n : Int} (v : Int32) (hd : decode cc pc = .ok (.sipush n, 3)) (hv : (Int16.ofInt n).toInt32 = v) (hp : pc + 3 = pc') (k : gg_G P A κ ν p l e R s m args below meth c nL Q pc' lv (.int v :: st)) : gg_G P A κ ν p l e R s m args below meth c nL Q pc lv st := by
  subst hp; intro H locs ls hP hS hL; exact lv_sipush cx.1 cx.2 hd hv (k H locs ls hP hS hL)
theorem gg_iload1 (cx : gg_Cx p c cc) {a0 : Option Value} {r : List (Option Value)} {x : Int32} (hd : decode cc pc = .ok (.iload_n 1, 1)) (hp : pc + 1 = pc') (k : gg_G P A κ ν p l e R s m args below meth c nL Q pc' (a0 :: some (.int x) :: r) (.int x :: st)) : gg_G P A κ ν p l e R s m args below meth c nL Q pc (a0 :: some (.int x) :: r) st := by
  subst hp; intro H locs ls hP hS hL; exact lv_iload_n cx.1 cx.2 hd rfl (hL.2.2.2 1 _ rfl) (k H locs ls hP hS hL)
theorem gg_iload3 (cx : gg_Cx p c cc) {a0 a1 a2 : Option Value} {r : List (Option Value)} {x : Int32} (hd : decode cc pc = .ok (.iload_n 3, 1)) (hp : pc + 1 = pc') (k : gg_G P A κ ν p l e R s m args below meth c nL Q pc' (a0 :: a1 :: a2 :: some (.int x) :: r) (.int x :: st)) : gg_G P A κ ν p l e R s m args below meth c nL Q pc (a0 :: a1 :: a2 :: some (.int x) :: r) st := by
  subst hp; intro H locs ls hP hS hL; exact lv_iload_n cx.1 cx.2 hd rfl (hL.2.2.2 3 _ rfl) (k H locs ls hP hS hL)
theorem gg_aload0 (cx : gg_Cx p c cc) {r : List (Option Value)} {x : Nat} (hd : decode cc pc = .ok (.aload_n 0, 1)) (hp : pc + 1 = pc') (k : gg_G P A κ ν p l e R s m args below meth c nL Q pc' (some (.ref x) :: r) (.ref x :: st)) : gg_G P A κ ν p l e R s m args below meth c nL Q pc (some (.ref x) :: r) st := by
  subst hp; intro H locs ls hP hS hL; exact lv_aload_n cx.1 cx.2 hd rfl (hL.2.2.2 0 _ rfl) (k H locs ls hP hS hL)
theorem gg_aload1 (cx : gg_Cx p c cc) {a0 : Option Value} {r : List (Option Value)} {x : Nat} (hd : decode cc pc = .ok (.aload_n 1, 1)) (hp : pc + 1 = pc') (k : gg_G P A κ ν p l e R s m args below meth c nL Q pc' (a0 :: some (.ref x) :: r) (.ref x :: st)) : gg_G P A κ ν p l e R s m args below meth c nL Q pc (a0 :: some (.ref x) :: r) st := by
  subst hp; intro H locs ls hP hS hL; exact lv_aload_n cx.1 cx.2 hd rfl (hL.2.2.2 1 _ rfl) (k H locs ls hP hS hL)
theorem gg_aload2 (cx : gg_Cx p c cc) {a0 a1 : Option Value} {r : List (Option Value)} {x : Nat} (hd : decode cc pc = .ok (.aload_n 2, 1)) (hp : pc + 1 = pc') (k : gg_G P A κ ν p l e R s m args below meth c nL Q pc' (a0 :: a1 :: some (.ref x) :: r) (.ref x :: st)) : gg_G P A κ ν p l e R s m args below meth c nL Q pc (a0 :: a1 :: some (.ref x) :: r) st := by
  subst hp; intro H locs ls hP hS hL; exact lv_aload_n cx.1 cx.2 hd rfl (hL.2.2.2 2 _ rfl) (k H locs ls hP hS hL)
theorem gg_istore1 (cx : gg_Cx p c cc) {a0 : Option Value} {r : List (Option Value)} {o : Option Value} {x : Int32} (hq : hg_c1 a0 = true)  (hd : decode cc pc = .ok (.istore_n 1, 1)) (hp : pc + 1 = pc') (k : gg_G P A κ ν p l e R s m args below meth c nL Q pc' (a0 :: some (.int x) :: r) st) : gg_G P A κ ν p l e R s m args below meth c nL Q pc (a0 :: o :: r) (.int x :: st) := by
  subst hp; intro H locs ls hP hS hL; exact lv_istore_n cx.1 cx.2 hd rfl hL.has (by have := hL.2.1; simp at this; omega) rfl (fun ls2 h2 => k H locs ls2 hP hS (hL.put1 h2 (fun j w hj hw => by obtain rfl : j = 0 := (by omega); exact hg_c1_of hq hw) (show 1 < _ by simp only [List.length_cons]; omega)))
theorem gg_istore3 (cx : gg_Cx p c cc) {a0 a1 a2 : Option Value} {r : List (Option Value)} {o : Option Value} {x : Int32} (hq : hg_c1 a2 = true)  (hd : decode cc pc = .ok (.istore_n 3, 1)) (hp : pc + 1 = pc') (k : gg_G P A κ ν p l e R s m args below meth c nL Q pc' (a0 :: a1 :: a2 :: some (.int x) :: r) st) : gg_G P A κ ν p l e R s m args below meth c nL Q pc (a0 :: a1 :: a2 :: o :: r) (.int x :: st) := by
  subst hp; intro H locs ls hP hS hL; exact lv_istore_n cx.1 cx.2 hd rfl hL.has (by have := hL.2.1; simp at this; omega) rfl (fun ls2 h2 => k H locs ls2 hP hS (hL.put1 h2 (fun j w hj hw => by obtain rfl : j = 2 := (by omega); exact hg_c1_of hq hw) (show 3 < _ by simp only [List.length_cons]; omega)))
theorem gg_astore1 (cx : gg_Cx p c cc) {a0 : Option Value} {r : List (Option Value)} {o : Option Value} {x : Nat} (hq : hg_c1 a0 = true)  (hd : decode cc pc = .ok (.astore_n 1, 1)) (hp : pc + 1 = pc') (k : gg_G P A κ ν p l e R s m args below meth c nL Q pc' (a0 :: some (.ref x) :: r) st) : gg_G P A κ ν p l e R s m args below meth c nL Q pc (a0 :: o :: r) (.ref x :: st) := by
  subst hp; intro H locs ls hP hS hL; exact lv_astore_n cx.1 cx.2 hd rfl hL.has (by have := hL.2.1; simp at this; omega) rfl (fun ls2 h2 => k H locs ls2 hP hS (hL.put1 h2 (fun j w hj hw => by obtain rfl : j = 0 := (by omega); exact hg_c1_of hq hw) (show 1 < _ by simp only [List.length_cons]; omega)))
theorem gg_astore2 (cx : gg_Cx p c cc) {a0 a1 : Option Value} {r : List (Option Value)} {o : Option Value} {x : Nat} (hq : hg_c1 a1 = true)  (hd : decode cc pc = .ok (.astore_n 2, 1)) (hp : pc + 1 = pc') (k : gg_G P A κ ν p l e R s m args below meth c nL Q pc' (a0 :: a1 :: some (.ref x) :: r) st) : gg_G P A κ ν p l e R s m args below meth c nL Q pc (a0 :: a1 :: o :: r) (.ref x :: st) := by
  subst hp; intro H locs ls hP hS hL; exact lv_astore_n cx.1 cx.2 hd rfl hL.has (by have := hL.2.1; simp at this; omega) rfl (fun ls2 h2 => k H locs ls2 hP hS (hL.put1 h2 (fun j w hj hw => by obtain rfl : j = 1 := (by omega); exact hg_c1_of hq hw) (show 2 < _ by simp only [List.length_cons]; omega)))
theorem gg_iinc1p (cx : gg_Cx p c cc) {a0 : Option Value} {r : List (Option Value)} {x : Int32} (hq : hg_c1 a0 = true) (hd : decode cc pc = .ok (.iinc 1 1, 3)) (hp : pc + 3 = pc') (k : gg_G P A κ ν p l e R s m args below meth c nL Q pc' (a0 :: some (.int (x + 1)) :: r) st) : gg_G P A κ ν p l e R s m args below meth c nL Q pc (a0 :: some (.int x) :: r) st := by
  subst hp; intro H locs ls hP hS hL
  obtain ⟨j, hj⟩ := List.getElem?_of_mem (hg_toL_mem.mpr (show (a0 :: some (.int x) :: r)[1]? = some (some (.int x)) from rfl))
  exact lv_iinc cx.1 cx.2 hd hL.has hj rfl (by have := hL.2.1; simp at this; omega) rfl (fun ls2 h2 => k H locs ls2 hP hS (hL.put1 h2 (fun j w hj hw => by obtain rfl : j = 0 := (by omega); exact hg_c1_of hq hw) (show 1 < _ by simp only [List.length_cons]; omega)))
theorem gg_iinc3s (cx : gg_Cx p c cc) {a0 a1 a2 : Option Value} {r : List (Option Value)} {x : Int32} (hq : hg_c1 a2 = true) (hd : decode cc pc = .ok (.iinc 3 6, 3)) (hp : pc + 3 = pc') (k : gg_G P A κ ν p l e R s m args below meth c nL Q pc' (a0 :: a1 :: a2 :: some (.int (x + 6)) :: r) st) : gg_G P A κ ν p l e R s m args below meth c nL Q pc (a0 :: a1 :: a2 :: some (.int x) :: r) st := by
  subst hp; intro H locs ls hP hS hL
  obtain ⟨j, hj⟩ := List.getElem?_of_mem (hg_toL_mem.mpr (show (a0 :: a1 :: a2 :: some (.int x) :: r)[3]? = some (some (.int x)) from rfl))
  exact lv_iinc cx.1 cx.2 hd hL.has hj rfl (by have := hL.2.1; simp at this; omega) rfl (fun ls2 h2 => k H locs ls2 hP hS (hL.put1 h2 (fun j w hj hw => by obtain rfl : j = 2 := (by omega); exact hg_c1_of hq hw) (show 3 < _ by simp only [List.length_cons]; omega)))
theorem gg_if_eq (cx : gg_Cx p c cc) {lv : List (Option Value)} {x : Int32} {off : Int} (tgt : Nat) (hd : decode cc pc = .ok (.ifCond .eq off, 3)) (ht : (pc : Int) + off = (tgt : Int)) (hp : pc + 3 = pc') (kt : x = 0 → gg_G P A κ ν p l e R s m args below meth c nL Q tgt lv st) (kf : ¬ x = 0 → gg_G P A κ ν p l e R s m args below meth c nL Q pc' lv st) : gg_G P A κ ν p l e R s m args below meth c nL Q pc lv (.int x :: st) := by
  subst hp; intro H locs ls hP hS hL; exact lv_if_eq cx.1 cx.2 hd ht (fun h => kt h H locs ls hP hS hL) (fun h => kf h H locs ls hP hS hL)
theorem gg_if_ne (cx : gg_Cx p c cc) {lv : List (Option Value)} {x : Int32} {off : Int} (tgt : Nat) (hd : decode cc pc = .ok (.ifCond .ne off, 3)) (ht : (pc : Int) + off = (tgt : Int)) (hp : pc + 3 = pc') (kt : ¬ x = 0 → gg_G P A κ ν p l e R s m args below meth c nL Q tgt lv st) (kf : x = 0 → gg_G P A κ ν p l e R s m args below meth c nL Q pc' lv st) : gg_G P A κ ν p l e R s m args below meth c nL Q pc lv (.int x :: st) := by
  subst hp; intro H locs ls hP hS hL; exact lv_if_ne cx.1 cx.2 hd ht (fun h => kt h H locs ls hP hS hL) (fun h => kf h H locs ls hP hS hL)
theorem gg_icmp_ge (cx : gg_Cx p c cc) {lv : List (Option Value)} {x y : Int32} {off : Int} (tgt : Nat) (hd : decode cc pc = .ok (.if_icmp .ge off, 3)) (ht : (pc : Int) + off = (tgt : Int)) (hp : pc + 3 = pc') (kt : y ≤ x → gg_G P A κ ν p l e R s m args below meth c nL Q tgt lv st) (kf : ¬ y ≤ x → gg_G P A κ ν p l e R s m args below meth c nL Q pc' lv st) : gg_G P A κ ν p l e R s m args below meth c nL Q pc lv (.int y :: .int x :: st) := by
  subst hp; intro H locs ls hP hS hL; exact lv_icmp_ge cx.1 cx.2 hd ht (fun h => kt h H locs ls hP hS hL) (fun h => kf h H locs ls hP hS hL)
theorem gg_icmp_gt (cx : gg_Cx p c cc) {lv : List (Option Value)} {x y : Int32} {off : Int} (tgt : Nat) (hd : decode cc pc = .ok (.if_icmp .gt off, 3)) (ht : (pc : Int) + off = (tgt : Int)) (hp : pc + 3 = pc') (kt : y < x → gg_G P A κ ν p l e R s m args below meth c nL Q tgt lv st) (kf : ¬ y < x → gg_G P A κ ν p l e R s m args below meth c nL Q pc' lv st) : gg_G P A κ ν p l e R s m args below meth c nL Q pc lv (.int y :: .int x :: st) := by
  subst hp; intro H locs ls hP hS hL; exact lv_icmp_gt cx.1 cx.2 hd ht (fun h => kt h H locs ls hP hS hL) (fun h => kf h H locs ls hP hS hL)
theorem gg_icmp_eq (cx : gg_Cx p c cc) {lv : List (Option Value)} {x y : Int32} {off : Int} (tgt : Nat) (hd : decode cc pc = .ok (.if_icmp .eq off, 3)) (ht : (pc : Int) + off = (tgt : Int)) (hp : pc + 3 = pc') (kt : x = y → gg_G P A κ ν p l e R s m args below meth c nL Q tgt lv st) (kf : ¬ x = y → gg_G P A κ ν p l e R s m args below meth c nL Q pc' lv st) : gg_G P A κ ν p l e R s m args below meth c nL Q pc lv (.int y :: .int x :: st) := by
  subst hp; intro H locs ls hP hS hL; exact lv_icmp_eq cx.1 cx.2 hd ht (fun h => kt h H locs ls hP hS hL) (fun h => kf h H locs ls hP hS hL)
theorem gg_goto (cx : gg_Cx p c cc) {lv : List (Option Value)} {off : Int} (tgt : Nat) (hd : decode cc pc = .ok (.goto off, 3)) (ht : (pc : Int) + off = (tgt : Int)) (k : gg_G P A κ ν p l e R s m args below meth c nL Q tgt lv st) : gg_G P A κ ν p l e R s m args below meth c nL Q pc lv st := by
  intro H locs ls hP hS hL; exact lv_goto cx.1 cx.2 hd ht (k H locs ls hP hS hL)
theorem gg_tsw (cx : gg_Cx p c cc) {lv : List (Option Value)} {x : Int32} {dflt lo hi : Int} {offs : Array Int} {len : Nat} (ks : List Int32) (tg : List Nat) (dt : Nat) (hd : decode cc pc = .ok (.tableswitch dflt lo hi offs, len)) (h1 : (List.range ks.length).all (fun i => decide ((ks.getD i 0).toInt = lo + i) && decide ((offs[i]?).map (fun o => (pc : Int) + o) = some ((tg.getD i 0 : Nat) : Int))) = true) (h2 : hi = lo + (ks.length : Int) - 1 ∧ (pc : Int) + dflt = (dt : Int)) (kd : (∀ v ∈ ks, ¬ x = v) → gg_G P A κ ν p l e R s m args below meth c nL Q dt lv st) (kc : ∀ (i : Nat) (v : Int32) (t : Nat), ks[i]? = some v → tg.getD i 0 = t → x = v → gg_G P A κ ν p l e R s m args below meth c nL Q t lv st) : gg_G P A κ ν p l e R s m args below meth c nL Q pc lv (.int x :: st) := by
  intro H locs ls hP hS hL
  have hall := fun i (hi : i < ks.length) => List.all_eq_true.mp h1 i (List.mem_range.mpr hi)
  simp only [Bool.and_eq_true, decide_eq_true_eq] at hall
  by_cases hin : x.toInt < lo ∨ hi < x.toInt
  · refine lv_tableOut cx.1 cx.2 hd hin h2.2 (kd (fun v hv hx => ?_) H locs ls hP hS hL)
    obtain ⟨i, hi⟩ := List.getElem?_of_mem hv
    have hl : i < ks.length := (List.getElem?_eq_some_iff.mp hi).1
    have h3 := (hall i hl).1
    rw [List.getD_eq_getElem?_getD, hi] at h3
    simp only [Option.getD_some] at h3
    rw [hx, h3] at hin
    omega
  · have hl : (x.toInt - lo).toNat < ks.length := by omega
    obtain ⟨h3, h4⟩ := hall _ hl
    have hv : ks[(x.toInt - lo).toNat]? = some x := by
      rw [List.getElem?_eq_getElem hl]
      congr 1
      apply Int32.toInt_inj.mp
      rw [List.getD_eq_getElem?_getD, List.getElem?_eq_getElem hl, Option.getD_some] at h3
      rw [h3]; omega
    cases ho : offs[(x.toInt - lo).toNat]? with
    | none => rw [ho] at h4; cases h4
    | some off =>
      rw [ho] at h4
      exact lv_tableIn cx.1 cx.2 hd (by omega) (by omega) ho (Option.some.inj h4) (kc _ x _ hv rfl rfl H locs ls hP hS hL)
end GGR
/-! CONSTRUCTORS: worlds are lists that grow at their head -/
def ni_A (n0 : Nat) : Nat → Prop := fun q => n0 ≤ q
def ni_tys (cA : Nat → ClassId) : List (ClassId × FieldType) := [(cA 0, .int), (cA 1, .long), (cA 2, .object "HatCongress$Delegate"), (cA 3, .object "HatCongress$Sheet")]
def ni_K (D : va_G) (cA : Nat → ClassId) (U : State) : Prop := va_K D vwCl (ni_tys cA) U ∧ va_AO "HatCongress$Delegate" U ∧ va_AO "HatCongress$Sheet" U ∧ hg_KN U
theorem ni_K.warm {D : va_G} {cA : Nat → ClassId} {s U : State} (h : ni_K D cA s) (hW : s.WarmedH U.vm) : ni_K D cA U := ⟨h.1.moved hW.alike, h.2.1.moved hW.alike, h.2.2.1.moved hW.alike, fun q hq => (h.2.2.2 q hq).warmM hW⟩
theorem ni_K.calling {D : va_G} {cA : Nat → ClassId} {U : State} {g : JFrame} {mk : MethodId} {a : Array Value} (h : ni_K D cA U) : ni_K D cA (U.calling g mk a) := ⟨h.1.moved (Vm.Alike.refl U.vm), h.2.1.moved (Vm.Alike.refl U.vm), h.2.2.1.moved (Vm.Alike.refl U.vm), fun q hq => (h.2.2.2 q hq).same rfl rfl⟩
def ni_P (D : va_G) (n0 : Nat) (ws : va_W) (H : Heap) : Prop := va_P D vwCl ws H ∧ va_D (ni_A n0) ws
theorem ni_rotP {D : va_G} {cl : List vw_C} {ws : va_W} {x : Nat × va_E} {H : Heap} (h : va_P D cl (ws ++ [x]) H) : va_P D cl (x :: ws) H := by
  intro k q hk
  cases k with
  | zero => cases hk; exact h ws.length x (by rw [List.getElem?_append_right (Nat.le_refl _), Nat.sub_self]; rfl)
  | succ k =>
    have hk2 : ws[k]? = some q := hk
    exact h k q (by rw [List.getElem?_append_left (List.getElem?_eq_some_iff.mp hk2).1]; exact hk2)
theorem ni_rotD {A : Nat → Prop} {ws : va_W} {x : Nat × va_E} (h : va_D A (ws ++ [x])) : va_D A (x :: ws) := by
  have key : ∀ (k : Nat) (q : Nat × va_E), (x :: ws)[k]? = some q → (ws ++ [x])[if k = 0 then ws.length else k - 1]? = some q := by
    intro k q hk
    cases k with
    | zero => cases hk; rw [if_pos rfl, List.getElem?_append_right (Nat.le_refl _), Nat.sub_self]; rfl
    | succ k =>
      have hk2 : ws[k]? = some q := hk
      rw [if_neg (by omega), Nat.add_sub_cancel, List.getElem?_append_left (List.getElem?_eq_some_iff.mp hk2).1]; exact hk2
  have len : ∀ (k : Nat) (q : Nat × va_E), (x :: ws)[k]? = some q → k < ws.length + 1 := fun k q hk => by
    have := (List.getElem?_eq_some_iff.mp hk).1
    simpa using this
  refine ⟨fun i j p q hi hj e => ?_, fun k q hk => h.2 _ q (key k q hk)⟩
  have e2 := h.1 _ _ p q (key i p hi) (key j q hj) e
  have l1 := len i p hi
  have l2 := len j q hj
  by_cases c1 : i = 0 <;> by_cases c2 : j = 0
  · omega
  · rw [if_pos c1, if_neg c2] at e2; omega
  · rw [if_neg c1, if_pos c2] at e2; omega
  · rw [if_neg c1, if_neg c2] at e2; omega
def ni_Cx (D : va_G) (cA : Nat → ClassId) (n0 : Nat) (p : Program) (s : State) (m : MethodId) (args : Array Value) (c : Code) (cc : ByteArray) (nL : Nat) (own : String) : Prop :=
  p.tables.exec = Jvm.exec ∧ c.code = cc ∧ c.maxLocals = nL ∧ s.vm.findClass own = some m.cls ∧ (∀ w ∈ hg_U, w.before args s = true) ∧ ni_K D cA s ∧ n0 ≤ s.heap.size
theorem ni_Cx.g {D : va_G} {cA : Nat → ClassId} {n0 : Nat} {p : Program} {s : State} {m : MethodId} {args : Array Value} {c : Code} {cc : ByteArray} {nL : Nat} {own : String} (cx : ni_Cx D cA n0 p s m args c cc nL own) : gg_Cx p c cc := ⟨cx.1, cx.2.1⟩
/-- a constructor's contract: what becomes of the world -/
def ni_C (l : Launch) (D : va_G) (cA : Nat → ClassId) (n0 : Nat) (y : MethodName) (cc : ByteArray) (nL : Nat) (rm : Room) (av : List Value) (ws : va_W) (post : va_W → Prop) : Prop :=
  Met l y (hg_wU y cc nL none) rm (va_Pc av (fun U => ni_P D n0 ws U.heap ∧ ni_K D cA U ∧ n0 ≤ U.heap.size)) (va_Qv post (fun ws' t => ni_P D n0 ws' t.heap) (ni_A n0)) rm.cells rm.slots (ni_A n0)
section NIR
variable {D : va_G} {cA : Nat → ClassId} {n0 : Nat} {κ ν : Nat} {p : Program} {l : Launch} {e : Env} {R : Room} {s : State} {m : MethodId} {args : Array Value} {below : List Frame} {meth : Method} {c : Code} {cc : ByteArray} {nL : Nat} {own : String} {Q : State → Prop} {ws ws' : va_W} {pc pc' : Nat} {st : List Value} {lv : List (Option Value)}
theorem ni_new (cx : ni_Cx D cA n0 p s m args c cc nL own) {C : String} {T : u_T} {N ci idx : Nat} (hin : ∀ w ∈ u_ws C T N, w ∈ hg_U) (ty : Nat → FieldType) (hty : ∀ k, k < N → parseFieldDescriptor (T k).2.2.1 = some (ty k)) (hcl : Cond.classLink own idx C ∈ hg_U) (hinst : Cond.instantiable C N ∈ hg_U) (hini : Cond.initialized C ∈ hg_U) (hc : vwCl[ci]? = some (C, T, N)) (fs : List Value) (hfs : ∀ j, j < N → defaultValue (ty j) = vp_V fs j) (hcells : κ + 1 ≤ R.cells) (hslots : ν + N ≤ R.slots) (hd : decode cc pc = .ok (.new idx, 3)) (hp : pc + 3 = pc')
    (kk : ∀ q, gg_G (ni_P D n0 ((q, .inr (ci, fs)) :: ws)) (ni_A n0) (κ + 1) (ν + N) p l e R s m args below meth c nL Q pc' lv (.ref q :: st)) : gg_G (ni_P D n0 ws) (ni_A n0) κ ν p l e R s m args below meth c nL Q pc lv st := by
  subst hp; intro H locs ls hP hS hL
  exact va_new cx.1 cx.2.1 cx.2.2.2.2.1 hin ty hty cx.2.2.2.1 (cx.2.2.2.2.1 _ hcl) (cx.2.2.2.2.1 _ hinst) (cx.2.2.2.2.1 _ hini) cx.2.2.2.2.2.1.1 hP.1 hP.2 hS (fun q h => Nat.le_trans cx.2.2.2.2.2.2 h) hc hfs hcells hslots hd (fun q H1 hP1 hD1 hS1 => kk q H1 locs ls ⟨ni_rotP hP1, ni_rotD hD1⟩ hS1 hL)
theorem ni_newI (cx : ni_Cx D cA n0 p s m args c cc nL own) {n : Int32} (N : Nat) (hn : ¬ n < 0) (hN : n.toNatClampNeg = N) (hby : N * componentBytes .int ≤ 536870912) (hcells : κ + 1 ≤ R.cells) (hslots : ν + N ≤ R.slots) (hd : decode cc pc = .ok (.newarray .int, 2)) (hp : pc + 2 = pc')
    (kk : ∀ q, gg_G (ni_P D n0 ((q, .inl (cA 0, N, .inl (fun _ => 0))) :: ws)) (ni_A n0) (κ + 1) (ν + N) p l e R s m args below meth c nL Q pc' lv (.ref q :: st)) : gg_G (ni_P D n0 ws) (ni_A n0) κ ν p l e R s m args below meth c nL Q pc lv (.int n :: st) := by
  subst hp; intro H locs ls hP hS hL
  refine va_newa (atype := .int) (a0 := (N, .inl (fun _ => 0))) cx.1 cx.2.1 (cx.2.2.2.2.1 _ (hg_Uin (List.mem_of_getElem? (i := 180) (by decide +kernel)) (by decide +kernel))) rfl cx.2.2.2.2.2.1.1 hP.1 hP.2 hS (fun q h => Nat.le_trans cx.2.2.2.2.2.2 h) (fun _ => rfl) hn hN hby hcells hslots hd (fun q cA' H1 hK1 hP1 hD1 hS1 => ?_)
  have e1 : s.vm.findClass ("[" ++ (FieldType.int).toString) = some cA' := (hK1.2 4 _ rfl).2
  have e2 : s.vm.findClass ("[" ++ (FieldType.int).toString) = some (cA 0) := (cx.2.2.2.2.2.1.1.2 0 _ rfl).2
  obtain rfl : cA' = cA 0 := Option.some.inj (e1.symm.trans e2)
  exact kk q H1 locs ls ⟨ni_rotP hP1, ni_rotD hD1⟩ hS1 hL
theorem ni_newL (cx : ni_Cx D cA n0 p s m args c cc nL own) {n : Int32} (N : Nat) (hn : ¬ n < 0) (hN : n.toNatClampNeg = N) (hby : N * componentBytes .long ≤ 536870912) (hcells : κ + 1 ≤ R.cells) (hslots : ν + N ≤ R.slots) (hd : decode cc pc = .ok (.newarray .long, 2)) (hp : pc + 2 = pc')
    (kk : ∀ q, gg_G (ni_P D n0 ((q, .inl (cA 1, N, .inr (.inl (fun _ => 0)))) :: ws)) (ni_A n0) (κ + 1) (ν + N) p l e R s m args below meth c nL Q pc' lv (.ref q :: st)) : gg_G (ni_P D n0 ws) (ni_A n0) κ ν p l e R s m args below meth c nL Q pc lv (.int n :: st) := by
  subst hp; intro H locs ls hP hS hL
  refine va_newa (atype := .long) (a0 := (N, .inr (.inl (fun _ => 0)))) cx.1 cx.2.1 (cx.2.2.2.2.1 _ (hg_Uin (List.mem_of_getElem? (i := 218) (by decide +kernel)) (by decide +kernel))) rfl cx.2.2.2.2.2.1.1 hP.1 hP.2 hS (fun q h => Nat.le_trans cx.2.2.2.2.2.2 h) (fun _ => rfl) hn hN hby hcells hslots hd (fun q cA' H1 hK1 hP1 hD1 hS1 => ?_)
  have e1 : s.vm.findClass ("[" ++ (FieldType.long).toString) = some cA' := (hK1.2 4 _ rfl).2
  have e2 : s.vm.findClass ("[" ++ (FieldType.long).toString) = some (cA 1) := (cx.2.2.2.2.2.1.1.2 1 _ rfl).2
  obtain rfl : cA' = cA 1 := Option.some.inj (e1.symm.trans e2)
  exact kk q H1 locs ls ⟨ni_rotP hP1, ni_rotD hD1⟩ hS1 hL
theorem ni_newq (cx : ni_Cx D cA n0 p s m args c cc nL own) {C : String} {idx : Nat} (t0 : Nat) (ht : t0 < 4) (hC : (ni_tys cA)[t0]? = some (cA t0, .object C)) (hao : va_AO C s) (hcl : Cond.classLink own idx C ∈ hg_U) {n : Int32} (N : Nat) (hn : ¬ n < 0) (hN : n.toNatClampNeg = N) (hby : N * 4 ≤ 536870912) (hcells : κ + 1 ≤ R.cells) (hslots : ν + N ≤ R.slots) (hd : decode cc pc = .ok (.anewarray idx, 3)) (hp : pc + 3 = pc')
    (kk : ∀ q, gg_G (ni_P D n0 ((q, .inl (cA t0, N, .inr (.inr (.inr (.inr (fun _ => none)))))) :: ws)) (ni_A n0) (κ + 1) (ν + N) p l e R s m args below meth c nL Q pc' lv (.ref q :: st)) : gg_G (ni_P D n0 ws) (ni_A n0) κ ν p l e R s m args below meth c nL Q pc lv (.int n :: st) := by
  subst hp; intro H locs ls hP hS hL
  refine va_newq cx.1 cx.2.1 cx.2.2.2.1 (cx.2.2.2.2.1 _ hcl) hao cx.2.2.2.2.2.1.1 hP.1 hP.2 hS (fun q h => Nat.le_trans cx.2.2.2.2.2.2 h) hn hN hby hcells hslots hd (fun q cA' H1 hK1 hP1 hD1 hS1 => ?_)
  obtain ⟨-, -, -, -, -, e1⟩ : va_RA s cA' (.object C) := (hK1.2 4 _ rfl).2
  obtain ⟨-, -, -, -, -, e2⟩ : va_RA s (cA t0) (.object C) := (cx.2.2.2.2.2.1.1.2 t0 _ hC).2
  obtain rfl : cA' = cA t0 := Option.some.inj (e1.symm.trans e2)
  exact kk q H1 locs ls ⟨ni_rotP hP1, ni_rotD hD1⟩ hS1 hL
theorem ni_obj (cx : ni_Cx D cA n0 p s m args c cc nL own) {P : Heap → Prop} {A : Nat → Prop} {a idx : Nat} (hl : Cond.methodLink own idx Lib.objectInit ∈ hg_U) (hf : 1 ≤ R.frames) (hlo : (st.map fun v => v.category).sum + 12 ≤ R.locals) (hd : decode cc pc = .ok (.invokespecial idx, 3)) (hp : pc + 3 = pc')
    (kk : gg_G P A κ ν p l e R s m args below meth c nL Q pc' lv st) : gg_G P A κ ν p l e R s m args below meth c nL Q pc lv (.ref a :: st) := by
  subst hp; intro H locs ls hP hS hL
  refine W.objInit cx.1 cx.2.1 cx.2.2.2.1 (cx.2.2.2.2.1 _ hl) (cx.2.2.2.2.1 _ (hg_Uin (List.mem_of_getElem? (i := 78) (by decide +kernel)) (by decide +kernel))) (cx.2.2.2.2.1 _ (hg_Uin (List.mem_of_getElem? (i := 79) (by decide +kernel)) (by decide +kernel))) rfl (by rw [cx.2.2.1]; exact hL.1) rfl hd hf (by simpa using hlo) ?_
  exact kk H locs ls hP hS hL
theorem ni_putF (cx : ni_Cx D cA n0 p s m args c cc nL own) (hini : meth.name = "<init>") {ref C : String} {T : u_T} {N ci idx a : Nat} {v : Value} {fs : List Value} (hin : ∀ w ∈ u_ws C T N, w ∈ hg_U) (ty0 : Nat → FieldType) (hty : ∀ k, k < N → parseFieldDescriptor (T k).2.2.1 = some (ty0 k)) (hnm : ∀ a, a < N → ∀ b, b < N → a ≠ b → (T a).2.1 ≠ (T b).2.1) (q0 : Nat) (he : ws[q0]? = some (a, .inr (ci, fs))) (hc : vwCl[ci]? = some (C, T, N)) (k : Nat) (hk : k < N) (hr : ref = (T k).1) (hlink : Cond.fieldLink own idx ref (T k).2.1 (T k).2.2.1 ∈ hg_U) (hfin : (T k).2.2.2 = true) (hdecl : (T k).1 = own) {ty : FieldType} (hdd : parseFieldDescriptor (T k).2.2.1 = some ty) (hn : narrow ty v = v) (hfit : fits ty v = true) (hl : k < fs.length) (hw : ws.set q0 (a, .inr (ci, fs.set k v)) = ws')
    (hd : decode cc pc = .ok (.putfield idx, 3)) (hp : pc + 3 = pc') (kk : gg_G (ni_P D n0 ws') (ni_A n0) κ ν p l e R s m args below meth c nL Q pc' lv st) : gg_G (ni_P D n0 ws) (ni_A n0) κ ν p l e R s m args below meth c nL Q pc lv (v :: .ref a :: st) := by
  subst hp hw hr; intro H locs ls hP hS hL
  exact va_putF cx.1 cx.2.1 cx.2.2.2.2.1 hin ty0 hty hnm cx.2.2.2.1 cx.2.2.2.2.2.1.1 hP.1 hP.2 hS q0 he hc k hk (cx.2.2.2.2.1 _ hlink) (fun _ h => h) hfin hini hdecl hdd hn hfit hl hd (fun H1 locs1 hP1 hD1 hS1 => kk H1 locs1 ls ⟨hP1, hD1⟩ hS1 hL)
theorem ni_put (cx : ni_Cx D cA n0 p s m args c cc nL own) {ref C : String} {T : u_T} {N ci idx a : Nat} {v : Value} {fs : List Value} (hin : ∀ w ∈ u_ws C T N, w ∈ hg_U) (ty0 : Nat → FieldType) (hty : ∀ k, k < N → parseFieldDescriptor (T k).2.2.1 = some (ty0 k)) (hnm : ∀ a, a < N → ∀ b, b < N → a ≠ b → (T a).2.1 ≠ (T b).2.1) (q0 : Nat) (he : ws[q0]? = some (a, .inr (ci, fs))) (hc : vwCl[ci]? = some (C, T, N)) (k : Nat) (hk : k < N) (hr : ref = (T k).1) (hlink : Cond.fieldLink own idx ref (T k).2.1 (T k).2.2.1 ∈ hg_U) (hfin : (T k).2.2.2 = false) {ty : FieldType} (hdd : parseFieldDescriptor (T k).2.2.1 = some ty) (hn : narrow ty v = v) (hfit : fits ty v = true) (hl : k < fs.length) (hw : ws.set q0 (a, .inr (ci, fs.set k v)) = ws')
    (hd : decode cc pc = .ok (.putfield idx, 3)) (hp : pc + 3 = pc') (kk : gg_G (ni_P D n0 ws') (ni_A n0) κ ν p l e R s m args below meth c nL Q pc' lv st) : gg_G (ni_P D n0 ws) (ni_A n0) κ ν p l e R s m args below meth c nL Q pc lv (v :: .ref a :: st) := by
  subst hp hw hr; intro H locs ls hP hS hL
  exact va_put cx.1 cx.2.1 cx.2.2.2.2.1 hin ty0 hty hnm cx.2.2.2.1 cx.2.2.2.2.2.1.1 hP.1 hP.2 hS q0 he hc k hk (cx.2.2.2.2.1 _ hlink) (fun _ h => h) hfin hdd hn hfit hl hd (fun H1 locs1 hP1 hD1 hS1 => kk H1 locs1 ls ⟨hP1, hD1⟩ hS1 hL)
theorem ni_get (cx : ni_Cx D cA n0 p s m args c cc nL own) {ref C : String} {T : u_T} {N ci idx a : Nat} {v : Value} {fs : List Value} (hin : ∀ w ∈ u_ws C T N, w ∈ hg_U) (q0 : Nat) (he : ws[q0]? = some (a, .inr (ci, fs))) (hc : vwCl[ci]? = some (C, T, N)) (k : Nat) (hk : k < N) (hr : ref = (T k).1) (hlink : Cond.fieldLink own idx ref (T k).2.1 (T k).2.2.1 ∈ hg_U) (hv : fs[k]? = some v)
    (hd : decode cc pc = .ok (.getfield idx, 3)) (hp : pc + 3 = pc') (kk : gg_G (ni_P D n0 ws) (ni_A n0) κ ν p l e R s m args below meth c nL Q pc' lv (v :: st)) : gg_G (ni_P D n0 ws) (ni_A n0) κ ν p l e R s m args below meth c nL Q pc lv (.ref a :: st) := by
  subst hp hr; intro H locs ls hP hS hL
  exact va_get cx.1 cx.2.1 cx.2.2.2.2.1 hin cx.2.2.2.1 cx.2.2.2.2.2.1.1 hP.1 q0 he hc k hk (cx.2.2.2.2.1 _ hlink) (fun _ h => h) hv hd (kk H locs ls hP hS hL)
theorem ni_astq (cx : ni_Cx D cA n0 p s m args c cc nL own) (q0 t0 qk ci : Nat) {a : Nat} {cB : ClassId} {r : vw_C} {n v : Nat} {vs : List Value} {f : Nat → Option Nat} (ha : ws[q0]? = some (a, .inl (cB, n, .inr (.inr (.inr (.inr f)))))) (ht : (ni_tys cA)[t0]? = some (cB, .object r.1)) (hv : ws[qk]? = some (v, .inr (ci, vs))) (hc : vwCl[ci]? = some r) {i : Nat} (hi : i < n) (hn : n < 1000) (hw : ws.set q0 (a, .inl (cB, n, .inr (.inr (.inr (.inr (va_up f i (some v))))))) = ws')
    (hd : decode cc pc = .ok (.aastore, 1)) (hp : pc + 1 = pc') (kk : gg_G (ni_P D n0 ws') (ni_A n0) κ ν p l e R s m args below meth c nL Q pc' lv st) : gg_G (ni_P D n0 ws) (ni_A n0) κ ν p l e R s m args below meth c nL Q pc lv (.ref v :: .int (nI i) :: .ref a :: st) := by
  subst hp hw; intro H locs ls hP hS hL
  refine va_astq cx.1 cx.2.1 cx.2.2.2.2.2.1.1 hP.1 hP.2 hS q0 t0 qk ci ha ht hv hc (nI_in hi (by omega)) hd (fun H1 locs1 hP1 hD1 hS1 => ?_)
  rw [nI_clamp (by omega)] at hP1 hD1
  exact kk H1 locs1 ls ⟨hP1, hD1⟩ hS1 hL
theorem ni_iast (cx : ni_Cx D cA n0 p s m args c cc nL own) (q0 : Nat) {a n : Nat} {f : Nat → Int32} {x : Int32} (ha : ws[q0]? = some (a, .inl (cA 0, n, .inl f))) {i : Nat} (hi : i < n) (hn : n < 1000) (hw : ws.set q0 (a, .inl (cA 0, n, .inl (upd f i x))) = ws')
    (hd : decode cc pc = .ok (.iastore, 1)) (hp : pc + 1 = pc') (kk : gg_G (ni_P D n0 ws') (ni_A n0) κ ν p l e R s m args below meth c nL Q pc' lv st) : gg_G (ni_P D n0 ws) (ni_A n0) κ ν p l e R s m args below meth c nL Q pc lv (.int x :: .int (nI i) :: .ref a :: st) := by
  subst hp hw; intro H locs ls hP hS hL
  refine va_iast cx.1 cx.2.1 cx.2.2.2.2.2.1.1 hP.1 hP.2 hS q0 0 ha rfl (nI_in hi (by omega)) hd (fun H1 locs1 hP1 hD1 hS1 => ?_)
  rw [nI_clamp (by omega)] at hP1 hD1
  exact kk H1 locs1 ls ⟨hP1, hD1⟩ hS1 hL
theorem ni_call (cx : ni_Cx D cA n0 p s m args c cc nL own) {idx maxL n b : Nat} {y : MethodName} {bytes : ByteArray} {rm : Room} {post : va_W → Prop} {As : List Value} {st0 : List Value} (lk : hg_Lk own idx y bytes maxL none n) (hname : y.name = "<init>") (hinst : Cond.instanceMethod y ∈ hg_U) (K : ni_C l D cA n0 y bytes maxL rm (.ref b :: As) ws post) (hrm : rm.frames + 1 ≤ R.frames ∧ 8 + (maxL + 11) + rm.locals ≤ R.locals) (hlen : As.length = n) (hst : st0 = As.reverse ++ .ref b :: st) (hcat : (st.map fun v => v.category).sum ≤ 8) (hcells : κ + rm.cells ≤ R.cells) (hslots : ν + rm.slots ≤ R.slots)
    (hd : decode cc pc = .ok (.invokespecial idx, 3)) (hp : pc + 3 = pc') (kk : ∀ ws', post ws' → gg_G (ni_P D n0 ws') (ni_A n0) (κ + rm.cells) (ν + rm.slots) p l e R s m args below meth c nL Q pc' lv st) : gg_G (ni_P D n0 ws) (ni_A n0) κ ν p l e R s m args below meth c nL Q pc lv st0 := by
  subst hp; intro H locs ls hP hS hL
  exact va_callv (va_runI ⟨cx.1, cx.2.1, cx.2.2.1, cx.2.2.2.1, cx.2.2.2.2.1⟩ K ⟨callB_of n cx.2.2.2.2.1 (hg_goodIn lk.2.1) rfl rfl rfl (cx.2.2.2.2.1 _ lk.2.2.1) (cx.2.2.2.2.1 _ lk.1) lk.2.2.2 hrm, hname, cx.2.2.2.2.1 _ hinst⟩ ⟨fun a U g mk q => ⟨q.1, q.2.1, q.2.2.1.calling, q.2.2.2⟩, fun U hU hW => ⟨rfl, by rw [hU]; exact hP, cx.2.2.2.2.2.1.warm hW, by rw [hU]; exact Nat.le_trans cx.2.2.2.2.2.2 hS.1⟩⟩ rfl hlen hL.1 hst (lv_room hcat) hd ⟨hcells, hslots⟩) hS (fun q _ h => h) (fun q h => h) (fun u t H1 locs1 ht hvm hw hB hz hk hS1 => kk u hw H1 locs1 ls (by rw [← ht]; exact hB) hS1 hL)
theorem ni_callN (cx : ni_Cx D cA n0 p s m args c cc nL own) {idx maxL n b : Nat} {y : MethodName} {bytes : ByteArray} {host : String} {rm : Room} {post : va_W → Prop} {As : List Value} {st0 : List Value} (lk : hg_LkN own idx y bytes maxL none n host) (hname : y.name = "<init>") (hinst : Cond.instanceMethod y ∈ hg_U) (K : ni_C l D cA n0 y bytes maxL rm (.ref b :: As) ws post) (hrm : rm.frames + 1 ≤ R.frames ∧ 8 + (maxL + 11) + rm.locals ≤ R.locals) (hlen : As.length = n) (hst : st0 = As.reverse ++ .ref b :: st) (hcat : (st.map fun v => v.category).sum ≤ 8) (hcells : κ + rm.cells ≤ R.cells) (hslots : ν + rm.slots ≤ R.slots)
    (hd : decode cc pc = .ok (.invokespecial idx, 3)) (hp : pc + 3 = pc') (kk : ∀ ws', post ws' → gg_G (ni_P D n0 ws') (ni_A n0) (κ + rm.cells) (ν + rm.slots) p l e R s m args below meth c nL Q pc' lv st) : gg_G (ni_P D n0 ws) (ni_A n0) κ ν p l e R s m args below meth c nL Q pc lv st0 := by
  subst hp; intro H locs ls hP hS hL
  exact va_callv (va_runIN ⟨cx.1, cx.2.1, cx.2.2.1, cx.2.2.2.1, cx.2.2.2.2.1⟩ K ⟨va_cnB n cx.2.2.2.2.1 (hg_goodIn lk.2.1) rfl rfl rfl (cx.2.2.2.2.2.1.2.2.2 _ lk.1) (cx.2.2.2.2.1 _ lk.2.2.1) lk.2.2.2 hrm, hname, cx.2.2.2.2.1 _ hinst⟩ ⟨fun a U g mk q => ⟨q.1, q.2.1, q.2.2.1.calling, q.2.2.2⟩, fun U hU hW => ⟨rfl, by rw [hU]; exact hP, cx.2.2.2.2.2.1.warm hW, by rw [hU]; exact Nat.le_trans cx.2.2.2.2.2.2 hS.1⟩⟩ rfl hlen hL.1 hst (lv_room hcat) hd ⟨hcells, hslots⟩) hS (fun q _ h => h) (fun q h => h) (fun u t H1 locs1 ht hvm hw hB hz hk hS1 => kk u hw H1 locs1 ls (by rw [← ht]; exact hB) hS1 hL)
theorem ni_ret (cx : ni_Cx D cA n0 p s m args c cc nL own) (hr : meth.sig.returnType = none) (hlk : meth.locks = false) {post : va_W → Prop} (hq : post ws) (hd : decode cc pc = .ok (.return_, 1)) : gg_G (ni_P D n0 ws) (ni_A n0) κ ν p l e R s m args below meth c nL (MQ below (va_Qv post (fun ws' t => ni_P D n0 ws' t.heap) (ni_A n0)) args s κ ν (ni_A n0)) pc lv [] := by
  intro H locs ls hP hS hL
  exact W.vret cx.1 cx.2.1 hr (fun t ht hW => ⟨⟨ws, rfl, hq, by show ni_P D n0 ws t.heap; rw [ht]; exact hP⟩, hS.F ht⟩) hS.2.2 hd hlk
end NIR
/-- a constructor's contract out of its walk -/
theorem ni_intro {l : Launch} {D : va_G} {cA : Nat → ClassId} {n0 : Nat} {y : MethodName} {cc : ByteArray} {nL : Nat} {rm : Room} {av : List Value} {ws : va_W} {post : va_W → Prop} (hy : plainName y.cls = true) (hnm : y.name = "<init>") (lv : List (Option Value)) (hlv : hg_lvs av nL = lv) (hle : (lg_sl av).length ≤ nL)
    (body : ∀ (p : Program) (e : Env) (s : State) (m : MethodId) (args : Array Value) (below : List Frame) (meth : Method) (c : Code), ni_Cx D cA n0 p s m args c cc nL y.cls → meth.sig.returnType = none → meth.locks = false → meth.name = "<init>" → gg_G (ni_P D n0 ws) (ni_A n0) 0 0 p l e rm s m args below meth c nL (MQ below (va_Qv post (fun ws' t => ni_P D n0 ws' t.heap) (ni_A n0)) args s rm.cells rm.slots (ni_A n0)) 0 lv []) : ni_C l D cA n0 y cc nL rm av ws post := by
  refine Met.ofW (cc := cc) (maxL := nL) (ret := none) hy rfl ?_
  intro p e s m args below meth c s₁ B hml hv
  obtain ⟨rfl, hP, hK, hn⟩ := hv
  have hts := atoms_spec (ws := hg_wU y cc nL none) B.pre
  have hown : s.vm.findClass y.cls = some m.cls := findClass_of_methodNamed B.named
  have hin : meth.name = y.name := (name_of_methodNamed B.named B.method).1
  rw [lg_entry_eq]
  subst hlv
  have hlen : (hg_lvs av nL).length = nL := by
    have h1 := hg_sl_len av
    unfold hg_lvs
    rw [List.length_append, List.length_replicate, ← h1]
    omega
  refine body p e s m _ below meth c ⟨B.exec, B.bytes, hml, hown, fun w hw => hts w (List.mem_cons_of_mem _ hw), hK, hn⟩ B.returns B.notSynchronized (hin.trans hnm) s.heap [] _ hP va_S.rf (hg_LVof av rfl hlen hle (fun i v h => ?_))
  unfold hg_lvs at h
  rcases Nat.lt_or_ge i (av.flatMap (fun v : Value => if v.category = 2 then [some v, none] else [some v])).length with q | q
  · rw [List.getElem?_append_left q] at h
    have h2 := hg_lvs_args av 0 i v h
    rwa [Nat.zero_add] at h2
  · rw [List.getElem?_append_right q] at h
    have h3 := List.eq_of_mem_replicate (List.mem_of_getElem? h)
    cases h3
