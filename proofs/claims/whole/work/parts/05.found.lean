/-! THE FOUNDATION: one world for class and reference (60 cells whose addresses and references never change), memory = their numbers; the judgement hg_G; a row an instruction -/
/-- the numbers: ints by (cell, place), longs by (cell, place) -/
abbrev hg_Mem : Type := (Nat → Nat → Int32) × (Nat → Nat → Int64)
/-- where things are: the tables, the cells' addresses, the array classes, the addresses of constants -/
abbrev hg_Wd : Type := va_G × (Nat → Nat) × (Nat → ClassId) × (Nat → Nat)
def hg_ad (E : hg_Wd) (i : Nat) : Nat := E.2.1 i
def hg_cA (E : hg_Wd) (i : Nat) : ClassId := E.2.2.1 i
def hg_sa (E : hg_Wd) (i : Nat) : Nat := E.2.2.2 i
def hg_sI (σ : hg_Mem) (i k : Nat) (v : Int32) : hg_Mem := (va_up σ.1 i (va_up (σ.1 i) k v), σ.2)
def hg_sL (σ : hg_Mem) (i k : Nat) (v : Int64) : hg_Mem := (σ.1, va_up σ.2 i (va_up (σ.2 i) k v))
/-- what cell i holds -/
def hg_ce (E : hg_Wd) (i : Nat) (f : Nat → Int32) (g : Nat → Int64) : va_E :=
  if i = 0 then .inr (5, [.ref (hg_ad E 1), .ref (hg_ad E 2), .ref (hg_ad E 3), .int (f 3), .ref (hg_ad E 9), .ref (hg_ad E 10), .ref (hg_ad E 11)])
  else if i < 4 then .inr (3, [.int (f 0), .int (f 1), .int (f 2), .int (f 3), .ref (hg_ad E (i + 3)), .int (f 5), .int (f 6)])
  else if i < 7 then .inl (hg_cA E 2, 10, .inr (.inr (.inr (.inr (fun j => some (hg_ad E (10 + 10 * (i - 3) + j)))))))
  else if i = 7 then .inr (4, [.ref (hg_ad E 8), .int (f 1)])
  else if i = 8 then .inl (hg_cA E 0, 120, .inl f)
  else if i = 9 then .inr (0, [.ref (hg_ad E 7), .int (f 1), .int (f 2), .int (f 3), .int (f 4)])
  else if i = 10 then .inl (hg_cA E 3, 4, .inr (.inr (.inr (.inr (fun j => some (hg_ad E (12 + j)))))))
  else if i = 11 then .inl (hg_cA E 0, 7, .inl f)
  else if i < 16 then .inr (2, [.ref (hg_ad E (i + 4)), .int (f 1), .int (f 2)])
  else if i < 20 then .inl (hg_cA E 1, 40, .inr (.inl g))
  else if i < 50 then .inr (1, [.int (f 0), .int (f 1), .int (f 2), .int (f 3), .int (f 4), .int (f 5), .int (f 6)])
  else if i = 50 then .inr (6, [.ref (hg_ad E 51), .ref (hg_ad E 52), .ref (hg_ad E 53), .int (f 3), .ref (hg_ad E 54), .ref (hg_ad E 55), .ref (hg_ad E 56), .int (f 7), .int (f 8), .int (f 9), .int (f 10), .int (f 11), .int (f 12), .ref (hg_ad E 57), .ref (hg_ad E 58), .ref (hg_ad E 59)])
  else if i < 54 then .inl (hg_cA E 0, 64, .inl f)
  else if i = 54 then .inl (hg_cA E 0, 7, .inl f)
  else if i = 55 then .inl (hg_cA E 0, 10, .inl f)
  else if i = 56 then .inl (hg_cA E 0, 120, .inl f)
  else if i < 59 then .inl (hg_cA E 0, 4, .inl f)
  else .inl (hg_cA E 1, 160, .inr (.inl g))
theorem hg_ceTab (E : hg_Wd) {i : Nat} (f : Nat → Int32) (g : Nat → Int64) (h1 : 1 ≤ i) (h2 : i < 4) : hg_ce E i f g = .inr (3, [.int (f 0), .int (f 1), .int (f 2), .int (f 3), .ref (hg_ad E (i + 3)), .int (f 5), .int (f 6)]) := by
  unfold hg_ce; rw [if_neg (by omega), if_pos h2]
theorem hg_ceSeat (E : hg_Wd) {t : Nat} (f : Nat → Int32) (g : Nat → Int64) (h1 : 1 ≤ t) (h2 : t < 4) : hg_ce E (t + 3) f g = .inl (hg_cA E 2, 10, .inr (.inr (.inr (.inr (fun j => some (hg_ad E (10 + 10 * t + j))))))) := by
  unfold hg_ce; rw [if_neg (by omega), if_neg (by omega), if_pos (by omega), Nat.add_sub_cancel]
theorem hg_ceShe (E : hg_Wd) {i : Nat} (f : Nat → Int32) (g : Nat → Int64) (h1 : 12 ≤ i) (h2 : i < 16) : hg_ce E i f g = .inr (2, [.ref (hg_ad E (i + 4)), .int (f 1), .int (f 2)]) := by
  unfold hg_ce; rw [if_neg (by omega), if_neg (by omega), if_neg (by omega), if_neg (by omega), if_neg (by omega), if_neg (by omega), if_neg (by omega), if_neg (by omega), if_pos h2]
theorem hg_ceNum (E : hg_Wd) {i : Nat} (f : Nat → Int32) (g : Nat → Int64) (h1 : 16 ≤ i) (h2 : i < 20) : hg_ce E i f g = .inl (hg_cA E 1, 40, .inr (.inl g)) := by
  unfold hg_ce; rw [if_neg (by omega), if_neg (by omega), if_neg (by omega), if_neg (by omega), if_neg (by omega), if_neg (by omega), if_neg (by omega), if_neg (by omega), if_neg (by omega), if_pos h2]
theorem hg_ceDel (E : hg_Wd) {i : Nat} (f : Nat → Int32) (g : Nat → Int64) (h1 : 20 ≤ i) (h2 : i < 50) : hg_ce E i f g = .inr (1, [.int (f 0), .int (f 1), .int (f 2), .int (f 3), .int (f 4), .int (f 5), .int (f 6)]) := by
  unfold hg_ce; rw [if_neg (by omega), if_neg (by omega), if_neg (by omega), if_neg (by omega), if_neg (by omega), if_neg (by omega), if_neg (by omega), if_neg (by omega), if_neg (by omega), if_neg (by omega), if_pos h2]
/-- the world: 60 cells -/
def hg_wl (E : hg_Wd) (σ : hg_Mem) : va_W := (List.range 60).map (fun i => (hg_ad E i, hg_ce E i (σ.1 i) (σ.2 i)))
theorem hg_wl_at (E : hg_Wd) (σ : hg_Mem) {i : Nat} (h : i < 60) : (hg_wl E σ)[i]? = some (hg_ad E i, hg_ce E i (σ.1 i) (σ.2 i)) := by
  simp [hg_wl, h]
theorem hg_wl_set (E : hg_Wd) (σ τ : hg_Mem) (i : Nat) {x : va_E} (hx : x = hg_ce E i (τ.1 i) (τ.2 i)) (h1 : ∀ j, j ≠ i → τ.1 j = σ.1 j) (h2 : ∀ j, j ≠ i → τ.2 j = σ.2 j) : (hg_wl E σ).set i (hg_ad E i, x) = hg_wl E τ := by
  subst hx
  apply List.ext_getElem?
  intro j
  by_cases hj : j = i
  · subst hj
    by_cases hl : j < 60
    · rw [List.getElem?_set_self (by simp [hg_wl]; exact hl), hg_wl_at E τ hl]
    · rw [List.getElem?_eq_none (by simp [hg_wl]; omega), List.getElem?_eq_none (by simp [hg_wl]; omega)]
  · rw [List.getElem?_set_ne (fun h => hj h.symm)]
    by_cases hl : j < 60
    · rw [hg_wl_at E σ hl, hg_wl_at E τ hl, h1 j hj, h2 j hj]
    · rw [List.getElem?_eq_none (by simp [hg_wl]; omega), List.getElem?_eq_none (by simp [hg_wl]; omega)]
/-- the cells' addresses -/
def hg_AW (E : hg_Wd) : Nat → Prop := fun q => ∃ i, i < 60 ∧ q = hg_ad E i
def hg_tys (E : hg_Wd) : List (ClassId × FieldType) := [(hg_cA E 0, .int), (hg_cA E 1, .long), (hg_cA E 2, .object "HatCongress$Delegate"), (hg_cA E 3, .object "HatCongress$Sheet")]
def hg_inj (E : hg_Wd) : Prop := ∀ i j, i < 60 → j < 60 → hg_ad E i = hg_ad E j → i = j
theorem hg_wl_D {E : hg_Wd} (h : hg_inj E) (σ : hg_Mem) : va_D (hg_AW E) (hg_wl E σ) := by
  have lt : ∀ {k : Nat} {q : Nat × va_E}, (hg_wl E σ)[k]? = some q → k < 60 ∧ q.1 = hg_ad E k := by
    intro k q hq
    have hk : k < 60 := by
      rcases Nat.lt_or_ge k 60 with q1 | q1
      · exact q1
      · rw [List.getElem?_eq_none (by simp [hg_wl]; omega)] at hq; cases hq
    rw [hg_wl_at E σ hk] at hq
    cases hq
    exact ⟨hk, rfl⟩
  refine ⟨fun i j x y hx hy e => ?_, fun k q hq => ?_⟩
  · obtain ⟨a1, a2⟩ := lt hx
    obtain ⟨b1, b2⟩ := lt hy
    exact h i j a1 b1 (by rw [← a2, ← b2, e])
  · obtain ⟨a1, a2⟩ := lt hq
    exact ⟨k, a1, a2⟩
/-- the reference's table of names -/
def hg_names : List Int32 := [104, 97, 116, 0, 0, 0, 0, 98, 111, 119, 108, 101, 114, 0, 99, 97, 112, 0, 0, 0, 0, 116, 111, 112, 112, 101, 114, 0, 100, 101, 114, 98, 121, 0, 0, 98, 101, 114, 101, 116, 0, 0, 118, 105, 101, 119, 0, 0, 0, 102, 97, 105, 116, 104, 0, 0, 111, 102, 102, 0, 0, 0, 0, 116, 114, 117, 116, 104, 0, 0, 104, 111, 108, 100, 115, 0, 0, 121, 101, 115, 0, 0, 0, 0, 110, 111, 0, 0, 0, 0, 0, 108, 105, 102, 116, 0, 0, 0]
/-- the class's texts: places in the pool, texts, lengths, bytes -/
def hg_stx : List (Nat × String) := [(123, "bowler"), (125, "cap"), (127, "topper"), (129, "derby"), (131, "beret"), (133, "hat"), (82, "view"), (95, "faith"), (99, "off"), (46, "truth"), (55, "holds"), (106, "yes"), (111, "no"), (60, "lift")]
def hg_slen : List Nat := [6, 3, 6, 5, 5, 3, 4, 5, 3, 5, 5, 3, 2, 4]
def hg_sbyt : List (List Int32) := [[98, 111, 119, 108, 101, 114], [99, 97, 112], [116, 111, 112, 112, 101, 114], [100, 101, 114, 98, 121], [98, 101, 114, 101, 116], [104, 97, 116], [118, 105, 101, 119], [102, 97, 105, 116, 104], [111, 102, 102], [116, 114, 117, 116, 104], [104, 111, 108, 100, 115], [121, 101, 115], [110, 111], [108, 105, 102, 116]]
/-- constants of the heap: statics and texts -/
def hg_KS (E : hg_Wd) (U : State) (H : Heap) : Prop :=
  va_Z "HatCongressModel" "NAMES" "[I" (.ref (hg_sa E 0)) (hg_AW E) U H ∧ va_T .int (hg_sa E 0) 98 (fun j => .int (hg_names.getD j 0)) (hg_AW E) U H ∧ va_Z "java/lang/String" "COMPACT_STRINGS" "Z" (.int 1) (hg_AW E) U H ∧
  va_Zq "jdk/internal/util/Preconditions" "SIOOBE_FORMATTER" "Ljava/util/function/BiFunction;" (hg_AW E) U H ∧
  vk_S 14 hg_slen hg_sbyt (fun i => hg_sa E (1 + i)) (fun i => hg_sa E (101 + i)) (hg_AW E) U H
def hg_KR (E : hg_Wd) (U : State) : Prop := ∀ (i k : Nat) (tx : String), hg_stx[i]? = some (k, tx) → vk_R "HatCongress$Clerk" k tx (hg_sa E (1 + i)) U
def hg_nests : List (String × Nat × MethodName × String) := [("HatCongress$Table", 21, ⟨"HatCongress$Delegate", "<init>", "()V"⟩, "HatCongress"), ("HatCongress", 24, ⟨"HatCongress$Clerk", "<init>", "()V"⟩, "HatCongress"), ("HatCongress$Clerk", 11, ⟨"HatCongress$Tape", "<init>", "()V"⟩, "HatCongress"), ("HatCongress", 39, ⟨"HatCongress$Sheet", "<init>", "()V"⟩, "HatCongress"), ("HatCongress$Delegate", 38, ⟨"HatCongress", "bit", "(II)I"⟩, "HatCongress"), ("HatCongress$Table", 74, ⟨"HatCongress", "bit", "(II)I"⟩, "HatCongress")]
def hg_KN (U : State) : Prop := ∀ q ∈ hg_nests, va_Nw (.methodLinkNest q.1 q.2.1 q.2.2.1 q.2.2.2) U
def hg_KW (E : hg_Wd) (U : State) : Prop := va_K E.1 vwCl (hg_tys E) U ∧ hg_inj E ∧ hg_KS E U U.heap ∧ hg_KR E U ∧ hg_KN U
theorem hg_KW.warm {E : hg_Wd} {s U : State} (hW : s.WarmedH U.vm) (hq : ∀ a : Nat, a < s.heap.size → ¬ hg_AW E a → U.heap[a]? = s.heap[a]?) (h : hg_KW E s) : hg_KW E U := by
  obtain ⟨h1, h2, ⟨a, b, c, d, e⟩, h4, h5⟩ := h
  have al := hW.alike
  exact ⟨h1.moved al, h2, ⟨(a.moved al).kept hq, (b.moved al).kept hq, (c.moved al).kept hq, (d.moved al).kept hq, (e.moved al).kept hq⟩, fun i k tx hi => (h4 i k tx hi).warm hW, fun q hq2 => (h5 q hq2).warmM hW⟩
theorem hg_KW.calling {E : hg_Wd} {U : State} {g : JFrame} {mk : MethodId} {a : Array Value} (h : hg_KW E U) : hg_KW E (U.calling g mk a) := by
  obtain ⟨h1, h2, ⟨x, b, c, d, e⟩, h4, h5⟩ := h
  have al : U.vm.Alike (U.calling g mk a).vm := Vm.Alike.refl U.vm
  exact ⟨h1.moved al, h2, ⟨x.moved al, b.moved al, c.moved al, d.moved al, e.moved al⟩, fun i k tx hi => (h4 i k tx hi).same rfl, fun q hq2 => (h5 q hq2).same rfl rfl⟩
/-- the locals, place by place -/
def hg_LV (ls : Array Slot) (nL : Nat) (lv : List (Option Value)) : Prop := ls.size = nL ∧ lv.length = nL ∧ lv_wf ls ∧ ∀ (i : Nat) (v : Value), lv[i]? = some (some v) → ls[i]? = some (.val v)
def hg_toL (lv : List (Option Value)) : List (Nat × Value) := (List.range lv.length).filterMap (fun i => (lv[i]?.bind id).map (fun v => (i, v)))
theorem hg_toL_mem {lv : List (Option Value)} {i : Nat} {v : Value} : (i, v) ∈ hg_toL lv ↔ lv[i]? = some (some v) := by
  unfold hg_toL
  rw [List.mem_filterMap]
  constructor
  · rintro ⟨j, hj, h⟩
    cases hx : lv[j]? with
    | none => rw [hx] at h; cases h
    | some w =>
      cases w with
      | none => rw [hx] at h; cases h
      | some w =>
        rw [hx] at h
        simp at h
        obtain ⟨rfl, rfl⟩ := h
        exact hx
  · intro h
    have hl : i < lv.length := (List.getElem?_eq_some_iff.mp h).1
    exact ⟨i, List.mem_range.mpr hl, by rw [h]; rfl⟩
theorem hg_LV.has {ls : Array Slot} {nL : Nat} {lv : List (Option Value)} (h : hg_LV ls nL lv) : lv_has ls nL (hg_toL lv) := ⟨h.1, h.2.2.1, fun q hq => h.2.2.2 q.1 q.2 (hg_toL_mem.mp hq)⟩
theorem hg_LV.put1 {ls ls' : Array Slot} {nL : Nat} {lv : List (Option Value)} {i : Nat} {v : Value} (h : hg_LV ls nL lv) (h' : lv_has ls' nL ((i, v) :: (hg_toL lv).filter (fun q => !(q.1 == i) && !(q.1 + 1 == i && q.2.category == 2)))) (hprev : ∀ j w, j + 1 = i → lv[j]? = some (some w) → ¬ w.category = 2) (hi : i < lv.length) : hg_LV ls' nL (lv.set i (some v)) := by
  refine ⟨h'.1, by rw [List.length_set]; exact h.2.1, h'.2.1, fun j w hw => ?_⟩
  by_cases hj : j = i
  · subst hj
    rw [List.getElem?_set_self hi] at hw
    cases hw
    exact h'.2.2 (j, v) List.mem_cons_self
  · rw [List.getElem?_set_ne (fun e => hj e.symm)] at hw
    refine h'.2.2 (j, w) (List.mem_cons_of_mem _ (List.mem_filter.mpr ⟨hg_toL_mem.mpr hw, ?_⟩))
    by_cases hc : j + 1 = i
    · have := hprev j w hc hw
      simp [hj, this]
    · simp [hj, hc]
theorem hg_LV.put2 {ls ls' : Array Slot} {nL : Nat} {lv : List (Option Value)} {i : Nat} {v : Value} (h : hg_LV ls nL lv) (h' : lv_has ls' nL ((i, v) :: (hg_toL lv).filter (fun q => !(q.1 == i) && (!(q.1 == i + 1) && !(q.1 + 1 == i && q.2.category == 2))))) (hprev : ∀ j w, j + 1 = i → lv[j]? = some (some w) → ¬ w.category = 2) (hi : i + 1 < lv.length) : hg_LV ls' nL ((lv.set i (some v)).set (i + 1) none) := by
  refine ⟨h'.1, by rw [List.length_set, List.length_set]; exact h.2.1, h'.2.1, fun j w hw => ?_⟩
  by_cases hj1 : j = i + 1
  · subst hj1
    rw [List.getElem?_set_self (by rw [List.length_set]; exact hi)] at hw
    cases hw
  rw [List.getElem?_set_ne (fun e => hj1 e.symm)] at hw
  by_cases hj : j = i
  · subst hj
    rw [List.getElem?_set_self (by omega)] at hw
    cases hw
    exact h'.2.2 (j, v) List.mem_cons_self
  · rw [List.getElem?_set_ne (fun e => hj e.symm)] at hw
    refine h'.2.2 (j, w) (List.mem_cons_of_mem _ (List.mem_filter.mpr ⟨hg_toL_mem.mpr hw, ?_⟩))
    by_cases hc : j + 1 = i
    · have := hprev j w hc hw
      simp [hj, hj1, this]
    · simp [hj, hj1, hc]
def hg_c1 (o : Option Value) : Bool := match o with
  | some v => !(v.category == 2)
  | none => true
theorem hg_c1_of {o : Option Value} {w : Value} (h : hg_c1 o = true) (e : some o = some (some w)) : ¬ w.category = 2 := by
  cases e
  simpa [hg_c1] using h
/-- words -/
def hg_U : List Cond := lw_tbl.filter goodWord
def hg_wU (y : MethodName) (cc : ByteArray) (nL : Nat) (ret : Option FieldType) : List Cond := .code y cc nL ret :: hg_U
theorem hg_Uin {w : Cond} (h : w ∈ lw_tbl) (hg : goodWord w = true) : w ∈ hg_U := List.mem_filter.mpr ⟨h, hg⟩
theorem hg_goodIn {y : MethodName} {cc : ByteArray} {nL : Nat} {ret : Option FieldType} (h : Cond.code y cc nL ret ∈ hg_U) : GoodIn hg_U (hg_wU y cc nL ret) := by
  intro w hw
  have hm : w ∈ hg_U := by
    rcases List.mem_cons.mp hw with e | e
    · rw [e]; exact h
    · exact e
  exact ⟨hm, good_of_word (List.mem_filter.mp hm).2⟩
/-- a call's words: own class, place in the pool, the method, its code -/
def hg_Lk (own : String) (idx : Nat) (y : MethodName) (cc : ByteArray) (nL : Nat) (ret : Option FieldType) (n : Nat) : Prop :=
  Cond.methodLink own idx y ∈ hg_U ∧ Cond.code y cc nL ret ∈ hg_U ∧ Cond.initialized y.cls ∈ hg_U ∧ (y.cls ≠ "java/lang/invoke/MethodHandle" ∧ y.cls ≠ "java/lang/invoke/VarHandle" ∧ (parseMethodDescriptor y.desc).map (fun d => d.parameters.length) = some n)
def hg_LkN (own : String) (idx : Nat) (y : MethodName) (cc : ByteArray) (nL : Nat) (ret : Option FieldType) (n : Nat) (host : String) : Prop :=
  (own, idx, y, host) ∈ hg_nests ∧ Cond.code y cc nL ret ∈ hg_U ∧ Cond.initialized y.cls ∈ hg_U ∧ (y.cls ≠ "java/lang/invoke/MethodHandle" ∧ y.cls ≠ "java/lang/invoke/VarHandle" ∧ (parseMethodDescriptor y.desc).map (fun d => d.parameters.length) = some n)
/-- a method's end: its answer, the numbers behind it -/
def hg_Qc (E : hg_Wd) (post : Option Value → hg_Mem → Prop) : Array Value → State → Outcome → State → Prop := fun _ st oc t => ∃ (v : Option Value) (τ : hg_Mem), oc = .returned v ∧ post v τ ∧ va_P E.1 vwCl (hg_wl E τ) t.heap ∧ va_F (hg_AW E) st t
/-- a CONTRACT: method y, called with av in any heap that holds the numbers σ, returns, with post of its answer and of the numbers then -/
def hg_C (l : Launch) (E : hg_Wd) (y : MethodName) (cc : ByteArray) (nL : Nat) (ret : Option FieldType) (rm : Room) (av : List Value) (σ : hg_Mem) (post : Option Value → hg_Mem → Prop) : Prop :=
  Met l y (hg_wU y cc nL ret) rm (va_Pc av (fun U => va_P E.1 vwCl (hg_wl E σ) U.heap ∧ hg_KW E U)) (hg_Qc E post) 0 0 (hg_AW E)
def hg_pi (f : Int32 → hg_Mem → Prop) : Option Value → hg_Mem → Prop := fun v τ => ∃ r, v = some (.int r) ∧ f r τ
def hg_pl (f : Int64 → hg_Mem → Prop) : Option Value → hg_Mem → Prop := fun v τ => ∃ r, v = some (.long r) ∧ f r τ
def hg_pr (f : Nat → hg_Mem → Prop) : Option Value → hg_Mem → Prop := fun v τ => ∃ r, v = some (.ref r) ∧ f r τ
def hg_pv (f : hg_Mem → Prop) : Option Value → hg_Mem → Prop := fun v τ => v = none ∧ f τ
def hg_Cx (E : hg_Wd) (p : Program) (s : State) (m : MethodId) (args : Array Value) (meth : Method) (c : Code) (cc : ByteArray) (nL : Nat) (own : String) (ret : Option FieldType) : Prop :=
  p.tables.exec = Jvm.exec ∧ c.code = cc ∧ c.maxLocals = nL ∧ s.vm.findClass own = some m.cls ∧ (∀ w ∈ hg_U, w.before args s = true) ∧ hg_KW E s ∧ meth.sig.returnType = ret ∧ meth.locks = false
/-- the judgement: at pc, with numbers σ, locals lv and stack st, the machine comes to Q -/
def hg_G (E : hg_Wd) (p : Program) (l : Launch) (e : Env) (R : Room) (s : State) (m : MethodId) (args : Array Value) (below : List Frame) (meth : Method) (c : Code) (nL : Nat) (Q : State → Prop) (σ : hg_Mem) (pc : Nat) (lv : List (Option Value)) (st : List Value) : Prop :=
  ∀ (H : Heap) (locs : List Loc) (ls : Array Slot), va_P E.1 vwCl (hg_wl E σ) H → va_S (hg_AW E) s.heap H locs → hg_LV ls nL lv → W p l e R s m args below meth c H locs 0 0 Q (F0 m pc ls st)
def hg_lvs (av : List Value) (nL : Nat) : List (Option Value) := (av.flatMap (fun v => if v.category = 2 then [some v, none] else [some v])) ++ List.replicate (nL - (av.flatMap (fun v => if v.category = 2 then [some v, none] else [some v])).length) none
section HGR
variable {E : hg_Wd} {p : Program} {l : Launch} {e : Env} {R : Room} {s : State} {m : MethodId} {args : Array Value} {below : List Frame} {meth : Method} {c : Code} {cc : ByteArray} {nL : Nat} {own : String} {ret : Option FieldType} {Q : State → Prop} {σ : hg_Mem} {pc pc' : Nat} {st : List Value}

theorem hg_iadd (cx : hg_Cx E p s m args meth c cc nL own ret) {lv : List (Option Value)} {x y : Int32} (hd : decode cc pc = .ok (.iadd, 1)) (hp : pc + 1 = pc') (k : hg_G E p l e R s m args below meth c nL Q σ pc' lv (.int (x + y) :: st)) : hg_G E p l e R s m args below meth c nL Q σ pc lv (.int y :: .int x :: st) := by
  subst hp; intro H locs ls hP hS hL; exact lv_iadd cx.1 cx.2.1 hd (k H locs ls hP hS hL)
theorem hg_isub (cx : hg_Cx E p s m args meth c cc nL own ret) {lv : List (Option Value)} {x y : Int32} (hd : decode cc pc = .ok (.isub, 1)) (hp : pc + 1 = pc') (k : hg_G E p l e R s m args below meth c nL Q σ pc' lv (.int (x - y) :: st)) : hg_G E p l e R s m args below meth c nL Q σ pc lv (.int y :: .int x :: st) := by
  subst hp; intro H locs ls hP hS hL; exact lv_isub cx.1 cx.2.1 hd (k H locs ls hP hS hL)
theorem hg_imul (cx : hg_Cx E p s m args meth c cc nL own ret) {lv : List (Option Value)} {x y : Int32} (hd : decode cc pc = .ok (.imul, 1)) (hp : pc + 1 = pc') (k : hg_G E p l e R s m args below meth c nL Q σ pc' lv (.int (x * y) :: st)) : hg_G E p l e R s m args below meth c nL Q σ pc lv (.int y :: .int x :: st) := by
  subst hp; intro H locs ls hP hS hL; exact lv_imul cx.1 cx.2.1 hd (k H locs ls hP hS hL)
theorem hg_iand (cx : hg_Cx E p s m args meth c cc nL own ret) {lv : List (Option Value)} {x y : Int32} (hd : decode cc pc = .ok (.iand, 1)) (hp : pc + 1 = pc') (k : hg_G E p l e R s m args below meth c nL Q σ pc' lv (.int (x &&& y) :: st)) : hg_G E p l e R s m args below meth c nL Q σ pc lv (.int y :: .int x :: st) := by
  subst hp; intro H locs ls hP hS hL; exact lv_iand cx.1 cx.2.1 hd (k H locs ls hP hS hL)
theorem hg_ior (cx : hg_Cx E p s m args meth c cc nL own ret) {lv : List (Option Value)} {x y : Int32} (hd : decode cc pc = .ok (.ior, 1)) (hp : pc + 1 = pc') (k : hg_G E p l e R s m args below meth c nL Q σ pc' lv (.int (x ||| y) :: st)) : hg_G E p l e R s m args below meth c nL Q σ pc lv (.int y :: .int x :: st) := by
  subst hp; intro H locs ls hP hS hL; exact lv_ior cx.1 cx.2.1 hd (k H locs ls hP hS hL)
theorem hg_ixor (cx : hg_Cx E p s m args meth c cc nL own ret) {lv : List (Option Value)} {x y : Int32} (hd : decode cc pc = .ok (.ixor, 1)) (hp : pc + 1 = pc') (k : hg_G E p l e R s m args below meth c nL Q σ pc' lv (.int (x ^^^ y) :: st)) : hg_G E p l e R s m args below meth c nL Q σ pc lv (.int y :: .int x :: st) := by
  subst hp; intro H locs ls hP hS hL; exact lv_ixor cx.1 cx.2.1 hd (k H locs ls hP hS hL)
theorem hg_ishl (cx : hg_Cx E p s m args meth c cc nL own ret) {lv : List (Option Value)} {x y : Int32} (hd : decode cc pc = .ok (.ishl, 1)) (hp : pc + 1 = pc') (k : hg_G E p l e R s m args below meth c nL Q σ pc' lv (.int (x <<< (y &&& 31)) :: st)) : hg_G E p l e R s m args below meth c nL Q σ pc lv (.int y :: .int x :: st) := by
  subst hp; intro H locs ls hP hS hL; exact lv_ishl cx.1 cx.2.1 hd (k H locs ls hP hS hL)
theorem hg_ishr (cx : hg_Cx E p s m args meth c cc nL own ret) {lv : List (Option Value)} {x y : Int32} (hd : decode cc pc = .ok (.ishr, 1)) (hp : pc + 1 = pc') (k : hg_G E p l e R s m args below meth c nL Q σ pc' lv (.int (x >>> (y &&& 31)) :: st)) : hg_G E p l e R s m args below meth c nL Q σ pc lv (.int y :: .int x :: st) := by
  subst hp; intro H locs ls hP hS hL; exact lv_ishr cx.1 cx.2.1 hd (k H locs ls hP hS hL)
theorem hg_idiv (cx : hg_Cx E p s m args meth c cc nL own ret) {lv : List (Option Value)} {x y : Int32} (hn : ¬ y = 0) (hd : decode cc pc = .ok (.idiv, 1)) (hp : pc + 1 = pc') (k : hg_G E p l e R s m args below meth c nL Q σ pc' lv (.int (x / y) :: st)) : hg_G E p l e R s m args below meth c nL Q σ pc lv (.int y :: .int x :: st) := by
  subst hp; intro H locs ls hP hS hL; exact lv_idiv cx.1 cx.2.1 hd hn (k H locs ls hP hS hL)
theorem hg_irem (cx : hg_Cx E p s m args meth c cc nL own ret) {lv : List (Option Value)} {x y : Int32} (hn : ¬ y = 0) (hd : decode cc pc = .ok (.irem, 1)) (hp : pc + 1 = pc') (k : hg_G E p l e R s m args below meth c nL Q σ pc' lv (.int (x - x / y * y) :: st)) : hg_G E p l e R s m args below meth c nL Q σ pc lv (.int y :: .int x :: st) := by
  subst hp; intro H locs ls hP hS hL; exact lv_irem cx.1 cx.2.1 hd hn (k H locs ls hP hS hL)
theorem hg_lor (cx : hg_Cx E p s m args meth c cc nL own ret) {lv : List (Option Value)} {x y : Int64} (hd : decode cc pc = .ok (.lor, 1)) (hp : pc + 1 = pc') (k : hg_G E p l e R s m args below meth c nL Q σ pc' lv (.long (x ||| y) :: st)) : hg_G E p l e R s m args below meth c nL Q σ pc lv (.long y :: .long x :: st) := by
  subst hp; intro H locs ls hP hS hL; exact lv_lor cx.1 cx.2.1 hd (k H locs ls hP hS hL)
theorem hg_land (cx : hg_Cx E p s m args meth c cc nL own ret) {lv : List (Option Value)} {x y : Int64} (hd : decode cc pc = .ok (.land, 1)) (hp : pc + 1 = pc') (k : hg_G E p l e R s m args below meth c nL Q σ pc' lv (.long (x &&& y) :: st)) : hg_G E p l e R s m args below meth c nL Q σ pc lv (.long y :: .long x :: st) := by
  subst hp; intro H locs ls hP hS hL; exact lv_land cx.1 cx.2.1 hd (k H locs ls hP hS hL)
theorem hg_lshl (cx : hg_Cx E p s m args meth c cc nL own ret) {lv : List (Option Value)} {x : Int64} {y : Int32} (hd : decode cc pc = .ok (.lshl, 1)) (hp : pc + 1 = pc') (k : hg_G E p l e R s m args below meth c nL Q σ pc' lv (.long (x <<< (y.toInt64 &&& 63)) :: st)) : hg_G E p l e R s m args below meth c nL Q σ pc lv (.int y :: .long x :: st) := by
  subst hp; intro H locs ls hP hS hL; exact lv_lshl cx.1 cx.2.1 hd rfl (k H locs ls hP hS hL)
theorem hg_iushr (cx : hg_Cx E p s m args meth c cc nL own ret) {lv : List (Option Value)} {x y : Int32} (hd : decode cc pc = .ok (.iushr, 1)) (hp : pc + 1 = pc') (k : hg_G E p l e R s m args below meth c nL Q σ pc' lv (.int (x.toUInt32 >>> (y.toUInt32 &&& Int32.toUInt32 31)).toInt32 :: st)) : hg_G E p l e R s m args below meth c nL Q σ pc lv (.int y :: .int x :: st) := by
  subst hp; intro H locs ls hP hS hL; exact lv_iushr cx.1 cx.2.1 hd rfl (k H locs ls hP hS hL)
theorem hg_i2l (cx : hg_Cx E p s m args meth c cc nL own ret) {lv : List (Option Value)} {x : Int32} (hd : decode cc pc = .ok (.i2l, 1)) (hp : pc + 1 = pc') (k : hg_G E p l e R s m args below meth c nL Q σ pc' lv (.long x.toInt64 :: st)) : hg_G E p l e R s m args below meth c nL Q σ pc lv (.int x :: st) := by
  subst hp; intro H locs ls hP hS hL; exact lv_i2l cx.1 cx.2.1 hd rfl (k H locs ls hP hS hL)
theorem hg_l2i (cx : hg_Cx E p s m args meth c cc nL own ret) {lv : List (Option Value)} {x : Int64} (hd : decode cc pc = .ok (.l2i, 1)) (hp : pc + 1 = pc') (k : hg_G E p l e R s m args below meth c nL Q σ pc' lv (.int x.toInt32 :: st)) : hg_G E p l e R s m args below meth c nL Q σ pc lv (.long x :: st) := by
  subst hp; intro H locs ls hP hS hL; exact lv_l2i cx.1 cx.2.1 hd rfl (k H locs ls hP hS hL)
theorem hg_i2b (cx : hg_Cx E p s m args meth c cc nL own ret) {lv : List (Option Value)} {x : Int32} (hd : decode cc pc = .ok (.i2b, 1)) (hp : pc + 1 = pc') (k : hg_G E p l e R s m args below meth c nL Q σ pc' lv (.int x.toInt8.toInt32 :: st)) : hg_G E p l e R s m args below meth c nL Q σ pc lv (.int x :: st) := by
  subst hp; intro H locs ls hP hS hL; exact lv_i2b cx.1 cx.2.1 hd rfl (k H locs ls hP hS hL)
theorem hg_i2s (cx : hg_Cx E p s m args meth c cc nL own ret) {lv : List (Option Value)} {x : Int32} (hd : decode cc pc = .ok (.i2s, 1)) (hp : pc + 1 = pc') (k : hg_G E p l e R s m args below meth c nL Q σ pc' lv (.int x.toInt16.toInt32 :: st)) : hg_G E p l e R s m args below meth c nL Q σ pc lv (.int x :: st) := by
  subst hp; intro H locs ls hP hS hL; exact lv_i2s cx.1 cx.2.1 hd rfl (k H locs ls hP hS hL)
theorem hg_i2c (cx : hg_Cx E p s m args meth c cc nL own ret) {lv : List (Option Value)} {x : Int32} (hd : decode cc pc = .ok (.i2c, 1)) (hp : pc + 1 = pc') (k : hg_G E p l e R s m args below meth c nL Q σ pc' lv (.int (x.toUInt32 % 65536).toInt32 :: st)) : hg_G E p l e R s m args below meth c nL Q σ pc lv (.int x :: st) := by
  subst hp; intro H locs ls hP hS hL; exact lv_i2c cx.1 cx.2.1 hd rfl (k H locs ls hP hS hL)
theorem hg_lcmp (cx : hg_Cx E p s m args meth c cc nL own ret) {lv : List (Option Value)} {x y : Int64} (hd : decode cc pc = .ok (.lcmp, 1)) (hp : pc + 1 = pc') (k : hg_G E p l e R s m args below meth c nL Q σ pc' lv (.int (lg_cmp x y) :: st)) : hg_G E p l e R s m args below meth c nL Q σ pc lv (.long y :: .long x :: st) := by
  subst hp; intro H locs ls hP hS hL; exact W.lcmp cx.1 cx.2.1 hd (k H locs ls hP hS hL)
theorem hg_pop (cx : hg_Cx E p s m args meth c cc nL own ret) {lv : List (Option Value)} {v : Value} (hv : v.category = 1) (hd : decode cc pc = .ok (.pop, 1)) (hp : pc + 1 = pc') (k : hg_G E p l e R s m args below meth c nL Q σ pc' lv st) : hg_G E p l e R s m args below meth c nL Q σ pc lv (v :: st) := by
  subst hp; intro H locs ls hP hS hL; exact lv_pop cx.1 cx.2.1 hd hv (k H locs ls hP hS hL)
theorem hg_dup (cx : hg_Cx E p s m args meth c cc nL own ret) {lv : List (Option Value)} {v : Value} (hv : v.category = 1) (hd : decode cc pc = .ok (.dup, 1)) (hp : pc + 1 = pc') (k : hg_G E p l e R s m args below meth c nL Q σ pc' lv (v :: v :: st)) : hg_G E p l e R s m args below meth c nL Q σ pc lv (v :: st) := by
  subst hp; intro H locs ls hP hS hL; exact lv_dup cx.1 cx.2.1 hd hv (k H locs ls hP hS hL)
theorem hg_dup2 (cx : hg_Cx E p s m args meth c cc nL own ret) {lv : List (Option Value)} {v w : Value} (hv : v.category = 1) (hw : w.category = 1) (hd : decode cc pc = .ok (.dup2, 1)) (hp : pc + 1 = pc') (k : hg_G E p l e R s m args below meth c nL Q σ pc' lv (v :: w :: v :: w :: st)) : hg_G E p l e R s m args below meth c nL Q σ pc lv (v :: w :: st) := by
  subst hp; intro H locs ls hP hS hL; exact lv_dup2_11 cx.1 cx.2.1 hd hv hw (k H locs ls hP hS hL)
theorem hg_iconst (cx : hg_Cx E p s m args meth c cc nL own ret) {lv : List (Option Value)} {n : Int} (v : Int32) (hd : decode cc pc = .ok (.iconst n, 1)) (hv : Int32.ofInt n = v) (hp : pc + 1 = pc') (k : hg_G E p l e R s m args below meth c nL Q σ pc' lv (.int v :: st)) : hg_G E p l e R s m args below meth c nL Q σ pc lv st := by
  subst hp; intro H locs ls hP hS hL; exact lv_iconst cx.1 cx.2.1 hd hv (k H locs ls hP hS hL)
theorem hg_bipush (cx : hg_Cx E p s m args meth c cc nL own ret) {lv : List (Option Value)} {n : Int} (v : Int32) (hd : decode cc pc = .ok (.bipush n, 2)) (hv : (Int8.ofInt n).toInt32 = v) (hp : pc + 2 = pc') (k : hg_G E p l e R s m args below meth c nL Q σ pc' lv (.int v :: st)) : hg_G E p l e R s m args below meth c nL Q σ pc lv st := by
  subst hp; intro H locs ls hP hS hL; exact lv_bipush cx.1 cx.2.1 hd hv (k H locs ls hP hS hL)
theorem hg_sipush (cx : hg_Cx E p s m args meth c cc nL own ret) {lv : List (Option Value)} {n : Int} (v : Int32) (hd : decode cc pc = .ok (.sipush n, 3)) (hv : (Int16.ofInt n).toInt32 = v) (hp : pc + 3 = pc') (k : hg_G E p l e R s m args below meth c nL Q σ pc' lv (.int v :: st)) : hg_G E p l e R s m args below meth c nL Q σ pc lv st := by
  subst hp; intro H locs ls hP hS hL; exact lv_sipush cx.1 cx.2.1 hd hv (k H locs ls hP hS hL)
theorem hg_lconst (cx : hg_Cx E p s m args meth c cc nL own ret) {lv : List (Option Value)} {n : Fin 2} (v : Int64) (hd : decode cc pc = .ok (.lconst n, 1)) (hv : Int64.ofNat (n : Nat) = v) (hp : pc + 1 = pc') (k : hg_G E p l e R s m args below meth c nL Q σ pc' lv (.long v :: st)) : hg_G E p l e R s m args below meth c nL Q σ pc lv st := by
  subst hp; intro H locs ls hP hS hL; exact lv_lconst cx.1 cx.2.1 hd hv (k H locs ls hP hS hL)
theorem hg_ldc (cx : hg_Cx E p s m args meth c cc nL own ret) {lv : List (Option Value)} {idx : Nat} {v : Int32} (hc : Cond.constant own idx v ∈ hg_U) (hd : decode cc pc = .ok (.ldc idx, 2)) (hp : pc + 2 = pc') (k : hg_G E p l e R s m args below meth c nL Q σ pc' lv (.int v :: st)) : hg_G E p l e R s m args below meth c nL Q σ pc lv st := by
  subst hp; intro H locs ls hP hS hL; exact lv_ldc cx.1 cx.2.1 cx.2.2.2.1 (cx.2.2.2.2.1 _ hc) hd (k H locs ls hP hS hL)
theorem hg_ldcw (cx : hg_Cx E p s m args meth c cc nL own ret) {lv : List (Option Value)} {idx : Nat} {v : Int32} (hc : Cond.constant own idx v ∈ hg_U) (hd : decode cc pc = .ok (.ldc_w idx, 3)) (hp : pc + 3 = pc') (k : hg_G E p l e R s m args below meth c nL Q σ pc' lv (.int v :: st)) : hg_G E p l e R s m args below meth c nL Q σ pc lv st := by
  subst hp; intro H locs ls hP hS hL; exact lv_ldcw cx.1 cx.2.1 cx.2.2.2.1 (cx.2.2.2.2.1 _ hc) hd (k H locs ls hP hS hL)
theorem hg_ldc2 (cx : hg_Cx E p s m args meth c cc nL own ret) {lv : List (Option Value)} {idx : Nat} {v : Int64} (hc : Cond.constantLong own idx v ∈ hg_U) (hd : decode cc pc = .ok (.ldc2_w idx, 3)) (hp : pc + 3 = pc') (k : hg_G E p l e R s m args below meth c nL Q σ pc' lv (.long v :: st)) : hg_G E p l e R s m args below meth c nL Q σ pc lv st := by
  subst hp; intro H locs ls hP hS hL; exact lv_ldc2 cx.1 cx.2.1 cx.2.2.2.1 (cx.2.2.2.2.1 _ hc) hd (k H locs ls hP hS hL)
theorem hg_iload0 (cx : hg_Cx E p s m args meth c cc nL own ret) {r : List (Option Value)} {x : Int32} (hd : decode cc pc = .ok (.iload_n 0, 1)) (hp : pc + 1 = pc') (k : hg_G E p l e R s m args below meth c nL Q σ pc' (some (.int x) :: r) (.int x :: st)) : hg_G E p l e R s m args below meth c nL Q σ pc (some (.int x) :: r) st := by
  subst hp; intro H locs ls hP hS hL; exact lv_iload_n cx.1 cx.2.1 hd rfl (hL.2.2.2 0 _ rfl) (k H locs ls hP hS hL)
theorem hg_aload0 (cx : hg_Cx E p s m args meth c cc nL own ret) {r : List (Option Value)} {x : Nat} (hd : decode cc pc = .ok (.aload_n 0, 1)) (hp : pc + 1 = pc') (k : hg_G E p l e R s m args below meth c nL Q σ pc' (some (.ref x) :: r) (.ref x :: st)) : hg_G E p l e R s m args below meth c nL Q σ pc (some (.ref x) :: r) st := by
  subst hp; intro H locs ls hP hS hL; exact lv_aload_n cx.1 cx.2.1 hd rfl (hL.2.2.2 0 _ rfl) (k H locs ls hP hS hL)
theorem hg_lload0 (cx : hg_Cx E p s m args meth c cc nL own ret) {r : List (Option Value)} {x : Int64} (hd : decode cc pc = .ok (.lload_n 0, 1)) (hp : pc + 1 = pc') (k : hg_G E p l e R s m args below meth c nL Q σ pc' (some (.long x) :: r) (.long x :: st)) : hg_G E p l e R s m args below meth c nL Q σ pc (some (.long x) :: r) st := by
  subst hp; intro H locs ls hP hS hL; exact lv_lload_n cx.1 cx.2.1 hd rfl (hL.2.2.2 0 _ rfl) (k H locs ls hP hS hL)
theorem hg_istore0 (cx : hg_Cx E p s m args meth c cc nL own ret) {r : List (Option Value)} {o : Option Value} {x : Int32}  (hd : decode cc pc = .ok (.istore_n 0, 1)) (hp : pc + 1 = pc') (k : hg_G E p l e R s m args below meth c nL Q σ pc' (some (.int x) :: r) st) : hg_G E p l e R s m args below meth c nL Q σ pc (o :: r) (.int x :: st) := by
  subst hp; intro H locs ls hP hS hL; exact lv_istore_n cx.1 cx.2.1 hd rfl hL.has (by have := hL.2.1; simp at this; omega) rfl (fun ls2 h2 => k H locs ls2 hP hS (hL.put1 h2 (fun j w hj _ => by omega) (show 0 < _ by simp only [List.length_cons]; omega)))
theorem hg_astore0 (cx : hg_Cx E p s m args meth c cc nL own ret) {r : List (Option Value)} {o : Option Value} {x : Nat}  (hd : decode cc pc = .ok (.astore_n 0, 1)) (hp : pc + 1 = pc') (k : hg_G E p l e R s m args below meth c nL Q σ pc' (some (.ref x) :: r) st) : hg_G E p l e R s m args below meth c nL Q σ pc (o :: r) (.ref x :: st) := by
  subst hp; intro H locs ls hP hS hL; exact lv_astore_n cx.1 cx.2.1 hd rfl hL.has (by have := hL.2.1; simp at this; omega) rfl (fun ls2 h2 => k H locs ls2 hP hS (hL.put1 h2 (fun j w hj _ => by omega) (show 0 < _ by simp only [List.length_cons]; omega)))
theorem hg_lstore0 (cx : hg_Cx E p s m args meth c cc nL own ret) {r : List (Option Value)} {o o2 : Option Value} {x : Int64}  (hd : decode cc pc = .ok (.lstore_n 0, 1)) (hp : pc + 1 = pc') (k : hg_G E p l e R s m args below meth c nL Q σ pc' (some (.long x) :: none :: r) st) : hg_G E p l e R s m args below meth c nL Q σ pc (o :: o2 :: r) (.long x :: st) := by
  subst hp; intro H locs ls hP hS hL; exact lv_lstore_n cx.1 cx.2.1 hd rfl hL.has (by have := hL.2.1; simp at this; omega) rfl (fun ls2 h2 => k H locs ls2 hP hS (hL.put2 h2 (fun j w hj _ => by omega) (show 0 + 1 < _ by simp only [List.length_cons]; omega)))
theorem hg_iinc0p (cx : hg_Cx E p s m args meth c cc nL own ret) {r : List (Option Value)} {x : Int32} (hd : decode cc pc = .ok (.iinc 0 1, 3)) (hp : pc + 3 = pc') (k : hg_G E p l e R s m args below meth c nL Q σ pc' (some (.int (x + 1)) :: r) st) : hg_G E p l e R s m args below meth c nL Q σ pc (some (.int x) :: r) st := by
  subst hp; intro H locs ls hP hS hL
  obtain ⟨j, hj⟩ := List.getElem?_of_mem (hg_toL_mem.mpr (show (some (.int x) :: r)[0]? = some (some (.int x)) from rfl))
  exact lv_iinc cx.1 cx.2.1 hd hL.has hj rfl (by have := hL.2.1; simp at this; omega) rfl (fun ls2 h2 => k H locs ls2 hP hS (hL.put1 h2 (fun j w hj _ => by omega) (show 0 < _ by simp only [List.length_cons]; omega)))
theorem hg_iinc0m (cx : hg_Cx E p s m args meth c cc nL own ret) {r : List (Option Value)} {x : Int32} (hd : decode cc pc = .ok (.iinc 0 (-1), 3)) (hp : pc + 3 = pc') (k : hg_G E p l e R s m args below meth c nL Q σ pc' (some (.int (x + (-1))) :: r) st) : hg_G E p l e R s m args below meth c nL Q σ pc (some (.int x) :: r) st := by
  subst hp; intro H locs ls hP hS hL
  obtain ⟨j, hj⟩ := List.getElem?_of_mem (hg_toL_mem.mpr (show (some (.int x) :: r)[0]? = some (some (.int x)) from rfl))
  exact lv_iinc cx.1 cx.2.1 hd hL.has hj rfl (by have := hL.2.1; simp at this; omega) rfl (fun ls2 h2 => k H locs ls2 hP hS (hL.put1 h2 (fun j w hj _ => by omega) (show 0 < _ by simp only [List.length_cons]; omega)))
theorem hg_iload1 (cx : hg_Cx E p s m args meth c cc nL own ret) {a0 : Option Value} {r : List (Option Value)} {x : Int32} (hd : decode cc pc = .ok (.iload_n 1, 1)) (hp : pc + 1 = pc') (k : hg_G E p l e R s m args below meth c nL Q σ pc' (a0 :: some (.int x) :: r) (.int x :: st)) : hg_G E p l e R s m args below meth c nL Q σ pc (a0 :: some (.int x) :: r) st := by
  subst hp; intro H locs ls hP hS hL; exact lv_iload_n cx.1 cx.2.1 hd rfl (hL.2.2.2 1 _ rfl) (k H locs ls hP hS hL)
theorem hg_aload1 (cx : hg_Cx E p s m args meth c cc nL own ret) {a0 : Option Value} {r : List (Option Value)} {x : Nat} (hd : decode cc pc = .ok (.aload_n 1, 1)) (hp : pc + 1 = pc') (k : hg_G E p l e R s m args below meth c nL Q σ pc' (a0 :: some (.ref x) :: r) (.ref x :: st)) : hg_G E p l e R s m args below meth c nL Q σ pc (a0 :: some (.ref x) :: r) st := by
  subst hp; intro H locs ls hP hS hL; exact lv_aload_n cx.1 cx.2.1 hd rfl (hL.2.2.2 1 _ rfl) (k H locs ls hP hS hL)
theorem hg_lload1 (cx : hg_Cx E p s m args meth c cc nL own ret) {a0 : Option Value} {r : List (Option Value)} {x : Int64} (hd : decode cc pc = .ok (.lload_n 1, 1)) (hp : pc + 1 = pc') (k : hg_G E p l e R s m args below meth c nL Q σ pc' (a0 :: some (.long x) :: r) (.long x :: st)) : hg_G E p l e R s m args below meth c nL Q σ pc (a0 :: some (.long x) :: r) st := by
  subst hp; intro H locs ls hP hS hL; exact lv_lload_n cx.1 cx.2.1 hd rfl (hL.2.2.2 1 _ rfl) (k H locs ls hP hS hL)
theorem hg_istore1 (cx : hg_Cx E p s m args meth c cc nL own ret) {a0 : Option Value} {r : List (Option Value)} {o : Option Value} {x : Int32} (hq : hg_c1 a0 = true)  (hd : decode cc pc = .ok (.istore_n 1, 1)) (hp : pc + 1 = pc') (k : hg_G E p l e R s m args below meth c nL Q σ pc' (a0 :: some (.int x) :: r) st) : hg_G E p l e R s m args below meth c nL Q σ pc (a0 :: o :: r) (.int x :: st) := by
  subst hp; intro H locs ls hP hS hL; exact lv_istore_n cx.1 cx.2.1 hd rfl hL.has (by have := hL.2.1; simp at this; omega) rfl (fun ls2 h2 => k H locs ls2 hP hS (hL.put1 h2 (fun j w hj hw => by obtain rfl : j = 0 := (by omega); exact hg_c1_of hq hw) (show 1 < _ by simp only [List.length_cons]; omega)))
theorem hg_astore1 (cx : hg_Cx E p s m args meth c cc nL own ret) {a0 : Option Value} {r : List (Option Value)} {o : Option Value} {x : Nat} (hq : hg_c1 a0 = true)  (hd : decode cc pc = .ok (.astore_n 1, 1)) (hp : pc + 1 = pc') (k : hg_G E p l e R s m args below meth c nL Q σ pc' (a0 :: some (.ref x) :: r) st) : hg_G E p l e R s m args below meth c nL Q σ pc (a0 :: o :: r) (.ref x :: st) := by
  subst hp; intro H locs ls hP hS hL; exact lv_astore_n cx.1 cx.2.1 hd rfl hL.has (by have := hL.2.1; simp at this; omega) rfl (fun ls2 h2 => k H locs ls2 hP hS (hL.put1 h2 (fun j w hj hw => by obtain rfl : j = 0 := (by omega); exact hg_c1_of hq hw) (show 1 < _ by simp only [List.length_cons]; omega)))
theorem hg_lstore1 (cx : hg_Cx E p s m args meth c cc nL own ret) {a0 : Option Value} {r : List (Option Value)} {o o2 : Option Value} {x : Int64} (hq : hg_c1 a0 = true)  (hd : decode cc pc = .ok (.lstore_n 1, 1)) (hp : pc + 1 = pc') (k : hg_G E p l e R s m args below meth c nL Q σ pc' (a0 :: some (.long x) :: none :: r) st) : hg_G E p l e R s m args below meth c nL Q σ pc (a0 :: o :: o2 :: r) (.long x :: st) := by
  subst hp; intro H locs ls hP hS hL; exact lv_lstore_n cx.1 cx.2.1 hd rfl hL.has (by have := hL.2.1; simp at this; omega) rfl (fun ls2 h2 => k H locs ls2 hP hS (hL.put2 h2 (fun j w hj hw => by obtain rfl : j = 0 := (by omega); exact hg_c1_of hq hw) (show 1 + 1 < _ by simp only [List.length_cons]; omega)))
theorem hg_iinc1p (cx : hg_Cx E p s m args meth c cc nL own ret) {a0 : Option Value} {r : List (Option Value)} {x : Int32} (hq : hg_c1 a0 = true) (hd : decode cc pc = .ok (.iinc 1 1, 3)) (hp : pc + 3 = pc') (k : hg_G E p l e R s m args below meth c nL Q σ pc' (a0 :: some (.int (x + 1)) :: r) st) : hg_G E p l e R s m args below meth c nL Q σ pc (a0 :: some (.int x) :: r) st := by
  subst hp; intro H locs ls hP hS hL
  obtain ⟨j, hj⟩ := List.getElem?_of_mem (hg_toL_mem.mpr (show (a0 :: some (.int x) :: r)[1]? = some (some (.int x)) from rfl))
  exact lv_iinc cx.1 cx.2.1 hd hL.has hj rfl (by have := hL.2.1; simp at this; omega) rfl (fun ls2 h2 => k H locs ls2 hP hS (hL.put1 h2 (fun j w hj hw => by obtain rfl : j = 0 := (by omega); exact hg_c1_of hq hw) (show 1 < _ by simp only [List.length_cons]; omega)))
theorem hg_iinc1m (cx : hg_Cx E p s m args meth c cc nL own ret) {a0 : Option Value} {r : List (Option Value)} {x : Int32} (hq : hg_c1 a0 = true) (hd : decode cc pc = .ok (.iinc 1 (-1), 3)) (hp : pc + 3 = pc') (k : hg_G E p l e R s m args below meth c nL Q σ pc' (a0 :: some (.int (x + (-1))) :: r) st) : hg_G E p l e R s m args below meth c nL Q σ pc (a0 :: some (.int x) :: r) st := by
  subst hp; intro H locs ls hP hS hL
  obtain ⟨j, hj⟩ := List.getElem?_of_mem (hg_toL_mem.mpr (show (a0 :: some (.int x) :: r)[1]? = some (some (.int x)) from rfl))
  exact lv_iinc cx.1 cx.2.1 hd hL.has hj rfl (by have := hL.2.1; simp at this; omega) rfl (fun ls2 h2 => k H locs ls2 hP hS (hL.put1 h2 (fun j w hj hw => by obtain rfl : j = 0 := (by omega); exact hg_c1_of hq hw) (show 1 < _ by simp only [List.length_cons]; omega)))
theorem hg_iload2 (cx : hg_Cx E p s m args meth c cc nL own ret) {a0 a1 : Option Value} {r : List (Option Value)} {x : Int32} (hd : decode cc pc = .ok (.iload_n 2, 1)) (hp : pc + 1 = pc') (k : hg_G E p l e R s m args below meth c nL Q σ pc' (a0 :: a1 :: some (.int x) :: r) (.int x :: st)) : hg_G E p l e R s m args below meth c nL Q σ pc (a0 :: a1 :: some (.int x) :: r) st := by
  subst hp; intro H locs ls hP hS hL; exact lv_iload_n cx.1 cx.2.1 hd rfl (hL.2.2.2 2 _ rfl) (k H locs ls hP hS hL)
theorem hg_aload2 (cx : hg_Cx E p s m args meth c cc nL own ret) {a0 a1 : Option Value} {r : List (Option Value)} {x : Nat} (hd : decode cc pc = .ok (.aload_n 2, 1)) (hp : pc + 1 = pc') (k : hg_G E p l e R s m args below meth c nL Q σ pc' (a0 :: a1 :: some (.ref x) :: r) (.ref x :: st)) : hg_G E p l e R s m args below meth c nL Q σ pc (a0 :: a1 :: some (.ref x) :: r) st := by
  subst hp; intro H locs ls hP hS hL; exact lv_aload_n cx.1 cx.2.1 hd rfl (hL.2.2.2 2 _ rfl) (k H locs ls hP hS hL)
theorem hg_lload2 (cx : hg_Cx E p s m args meth c cc nL own ret) {a0 a1 : Option Value} {r : List (Option Value)} {x : Int64} (hd : decode cc pc = .ok (.lload_n 2, 1)) (hp : pc + 1 = pc') (k : hg_G E p l e R s m args below meth c nL Q σ pc' (a0 :: a1 :: some (.long x) :: r) (.long x :: st)) : hg_G E p l e R s m args below meth c nL Q σ pc (a0 :: a1 :: some (.long x) :: r) st := by
  subst hp; intro H locs ls hP hS hL; exact lv_lload_n cx.1 cx.2.1 hd rfl (hL.2.2.2 2 _ rfl) (k H locs ls hP hS hL)
theorem hg_istore2 (cx : hg_Cx E p s m args meth c cc nL own ret) {a0 a1 : Option Value} {r : List (Option Value)} {o : Option Value} {x : Int32} (hq : hg_c1 a1 = true)  (hd : decode cc pc = .ok (.istore_n 2, 1)) (hp : pc + 1 = pc') (k : hg_G E p l e R s m args below meth c nL Q σ pc' (a0 :: a1 :: some (.int x) :: r) st) : hg_G E p l e R s m args below meth c nL Q σ pc (a0 :: a1 :: o :: r) (.int x :: st) := by
  subst hp; intro H locs ls hP hS hL; exact lv_istore_n cx.1 cx.2.1 hd rfl hL.has (by have := hL.2.1; simp at this; omega) rfl (fun ls2 h2 => k H locs ls2 hP hS (hL.put1 h2 (fun j w hj hw => by obtain rfl : j = 1 := (by omega); exact hg_c1_of hq hw) (show 2 < _ by simp only [List.length_cons]; omega)))
theorem hg_astore2 (cx : hg_Cx E p s m args meth c cc nL own ret) {a0 a1 : Option Value} {r : List (Option Value)} {o : Option Value} {x : Nat} (hq : hg_c1 a1 = true)  (hd : decode cc pc = .ok (.astore_n 2, 1)) (hp : pc + 1 = pc') (k : hg_G E p l e R s m args below meth c nL Q σ pc' (a0 :: a1 :: some (.ref x) :: r) st) : hg_G E p l e R s m args below meth c nL Q σ pc (a0 :: a1 :: o :: r) (.ref x :: st) := by
  subst hp; intro H locs ls hP hS hL; exact lv_astore_n cx.1 cx.2.1 hd rfl hL.has (by have := hL.2.1; simp at this; omega) rfl (fun ls2 h2 => k H locs ls2 hP hS (hL.put1 h2 (fun j w hj hw => by obtain rfl : j = 1 := (by omega); exact hg_c1_of hq hw) (show 2 < _ by simp only [List.length_cons]; omega)))
theorem hg_lstore2 (cx : hg_Cx E p s m args meth c cc nL own ret) {a0 a1 : Option Value} {r : List (Option Value)} {o o2 : Option Value} {x : Int64} (hq : hg_c1 a1 = true)  (hd : decode cc pc = .ok (.lstore_n 2, 1)) (hp : pc + 1 = pc') (k : hg_G E p l e R s m args below meth c nL Q σ pc' (a0 :: a1 :: some (.long x) :: none :: r) st) : hg_G E p l e R s m args below meth c nL Q σ pc (a0 :: a1 :: o :: o2 :: r) (.long x :: st) := by
  subst hp; intro H locs ls hP hS hL; exact lv_lstore_n cx.1 cx.2.1 hd rfl hL.has (by have := hL.2.1; simp at this; omega) rfl (fun ls2 h2 => k H locs ls2 hP hS (hL.put2 h2 (fun j w hj hw => by obtain rfl : j = 1 := (by omega); exact hg_c1_of hq hw) (show 2 + 1 < _ by simp only [List.length_cons]; omega)))
theorem hg_iinc2p (cx : hg_Cx E p s m args meth c cc nL own ret) {a0 a1 : Option Value} {r : List (Option Value)} {x : Int32} (hq : hg_c1 a1 = true) (hd : decode cc pc = .ok (.iinc 2 1, 3)) (hp : pc + 3 = pc') (k : hg_G E p l e R s m args below meth c nL Q σ pc' (a0 :: a1 :: some (.int (x + 1)) :: r) st) : hg_G E p l e R s m args below meth c nL Q σ pc (a0 :: a1 :: some (.int x) :: r) st := by
  subst hp; intro H locs ls hP hS hL
  obtain ⟨j, hj⟩ := List.getElem?_of_mem (hg_toL_mem.mpr (show (a0 :: a1 :: some (.int x) :: r)[2]? = some (some (.int x)) from rfl))
  exact lv_iinc cx.1 cx.2.1 hd hL.has hj rfl (by have := hL.2.1; simp at this; omega) rfl (fun ls2 h2 => k H locs ls2 hP hS (hL.put1 h2 (fun j w hj hw => by obtain rfl : j = 1 := (by omega); exact hg_c1_of hq hw) (show 2 < _ by simp only [List.length_cons]; omega)))
theorem hg_iinc2m (cx : hg_Cx E p s m args meth c cc nL own ret) {a0 a1 : Option Value} {r : List (Option Value)} {x : Int32} (hq : hg_c1 a1 = true) (hd : decode cc pc = .ok (.iinc 2 (-1), 3)) (hp : pc + 3 = pc') (k : hg_G E p l e R s m args below meth c nL Q σ pc' (a0 :: a1 :: some (.int (x + (-1))) :: r) st) : hg_G E p l e R s m args below meth c nL Q σ pc (a0 :: a1 :: some (.int x) :: r) st := by
  subst hp; intro H locs ls hP hS hL
  obtain ⟨j, hj⟩ := List.getElem?_of_mem (hg_toL_mem.mpr (show (a0 :: a1 :: some (.int x) :: r)[2]? = some (some (.int x)) from rfl))
  exact lv_iinc cx.1 cx.2.1 hd hL.has hj rfl (by have := hL.2.1; simp at this; omega) rfl (fun ls2 h2 => k H locs ls2 hP hS (hL.put1 h2 (fun j w hj hw => by obtain rfl : j = 1 := (by omega); exact hg_c1_of hq hw) (show 2 < _ by simp only [List.length_cons]; omega)))
theorem hg_iload3 (cx : hg_Cx E p s m args meth c cc nL own ret) {a0 a1 a2 : Option Value} {r : List (Option Value)} {x : Int32} (hd : decode cc pc = .ok (.iload_n 3, 1)) (hp : pc + 1 = pc') (k : hg_G E p l e R s m args below meth c nL Q σ pc' (a0 :: a1 :: a2 :: some (.int x) :: r) (.int x :: st)) : hg_G E p l e R s m args below meth c nL Q σ pc (a0 :: a1 :: a2 :: some (.int x) :: r) st := by
  subst hp; intro H locs ls hP hS hL; exact lv_iload_n cx.1 cx.2.1 hd rfl (hL.2.2.2 3 _ rfl) (k H locs ls hP hS hL)
theorem hg_aload3 (cx : hg_Cx E p s m args meth c cc nL own ret) {a0 a1 a2 : Option Value} {r : List (Option Value)} {x : Nat} (hd : decode cc pc = .ok (.aload_n 3, 1)) (hp : pc + 1 = pc') (k : hg_G E p l e R s m args below meth c nL Q σ pc' (a0 :: a1 :: a2 :: some (.ref x) :: r) (.ref x :: st)) : hg_G E p l e R s m args below meth c nL Q σ pc (a0 :: a1 :: a2 :: some (.ref x) :: r) st := by
  subst hp; intro H locs ls hP hS hL; exact lv_aload_n cx.1 cx.2.1 hd rfl (hL.2.2.2 3 _ rfl) (k H locs ls hP hS hL)
theorem hg_lload3 (cx : hg_Cx E p s m args meth c cc nL own ret) {a0 a1 a2 : Option Value} {r : List (Option Value)} {x : Int64} (hd : decode cc pc = .ok (.lload_n 3, 1)) (hp : pc + 1 = pc') (k : hg_G E p l e R s m args below meth c nL Q σ pc' (a0 :: a1 :: a2 :: some (.long x) :: r) (.long x :: st)) : hg_G E p l e R s m args below meth c nL Q σ pc (a0 :: a1 :: a2 :: some (.long x) :: r) st := by
  subst hp; intro H locs ls hP hS hL; exact lv_lload_n cx.1 cx.2.1 hd rfl (hL.2.2.2 3 _ rfl) (k H locs ls hP hS hL)
theorem hg_istore3 (cx : hg_Cx E p s m args meth c cc nL own ret) {a0 a1 a2 : Option Value} {r : List (Option Value)} {o : Option Value} {x : Int32} (hq : hg_c1 a2 = true)  (hd : decode cc pc = .ok (.istore_n 3, 1)) (hp : pc + 1 = pc') (k : hg_G E p l e R s m args below meth c nL Q σ pc' (a0 :: a1 :: a2 :: some (.int x) :: r) st) : hg_G E p l e R s m args below meth c nL Q σ pc (a0 :: a1 :: a2 :: o :: r) (.int x :: st) := by
  subst hp; intro H locs ls hP hS hL; exact lv_istore_n cx.1 cx.2.1 hd rfl hL.has (by have := hL.2.1; simp at this; omega) rfl (fun ls2 h2 => k H locs ls2 hP hS (hL.put1 h2 (fun j w hj hw => by obtain rfl : j = 2 := (by omega); exact hg_c1_of hq hw) (show 3 < _ by simp only [List.length_cons]; omega)))
theorem hg_astore3 (cx : hg_Cx E p s m args meth c cc nL own ret) {a0 a1 a2 : Option Value} {r : List (Option Value)} {o : Option Value} {x : Nat} (hq : hg_c1 a2 = true)  (hd : decode cc pc = .ok (.astore_n 3, 1)) (hp : pc + 1 = pc') (k : hg_G E p l e R s m args below meth c nL Q σ pc' (a0 :: a1 :: a2 :: some (.ref x) :: r) st) : hg_G E p l e R s m args below meth c nL Q σ pc (a0 :: a1 :: a2 :: o :: r) (.ref x :: st) := by
  subst hp; intro H locs ls hP hS hL; exact lv_astore_n cx.1 cx.2.1 hd rfl hL.has (by have := hL.2.1; simp at this; omega) rfl (fun ls2 h2 => k H locs ls2 hP hS (hL.put1 h2 (fun j w hj hw => by obtain rfl : j = 2 := (by omega); exact hg_c1_of hq hw) (show 3 < _ by simp only [List.length_cons]; omega)))
theorem hg_lstore3 (cx : hg_Cx E p s m args meth c cc nL own ret) {a0 a1 a2 : Option Value} {r : List (Option Value)} {o o2 : Option Value} {x : Int64} (hq : hg_c1 a2 = true)  (hd : decode cc pc = .ok (.lstore_n 3, 1)) (hp : pc + 1 = pc') (k : hg_G E p l e R s m args below meth c nL Q σ pc' (a0 :: a1 :: a2 :: some (.long x) :: none :: r) st) : hg_G E p l e R s m args below meth c nL Q σ pc (a0 :: a1 :: a2 :: o :: o2 :: r) (.long x :: st) := by
  subst hp; intro H locs ls hP hS hL; exact lv_lstore_n cx.1 cx.2.1 hd rfl hL.has (by have := hL.2.1; simp at this; omega) rfl (fun ls2 h2 => k H locs ls2 hP hS (hL.put2 h2 (fun j w hj hw => by obtain rfl : j = 2 := (by omega); exact hg_c1_of hq hw) (show 3 + 1 < _ by simp only [List.length_cons]; omega)))
theorem hg_iinc3p (cx : hg_Cx E p s m args meth c cc nL own ret) {a0 a1 a2 : Option Value} {r : List (Option Value)} {x : Int32} (hq : hg_c1 a2 = true) (hd : decode cc pc = .ok (.iinc 3 1, 3)) (hp : pc + 3 = pc') (k : hg_G E p l e R s m args below meth c nL Q σ pc' (a0 :: a1 :: a2 :: some (.int (x + 1)) :: r) st) : hg_G E p l e R s m args below meth c nL Q σ pc (a0 :: a1 :: a2 :: some (.int x) :: r) st := by
  subst hp; intro H locs ls hP hS hL
  obtain ⟨j, hj⟩ := List.getElem?_of_mem (hg_toL_mem.mpr (show (a0 :: a1 :: a2 :: some (.int x) :: r)[3]? = some (some (.int x)) from rfl))
  exact lv_iinc cx.1 cx.2.1 hd hL.has hj rfl (by have := hL.2.1; simp at this; omega) rfl (fun ls2 h2 => k H locs ls2 hP hS (hL.put1 h2 (fun j w hj hw => by obtain rfl : j = 2 := (by omega); exact hg_c1_of hq hw) (show 3 < _ by simp only [List.length_cons]; omega)))
theorem hg_iinc3m (cx : hg_Cx E p s m args meth c cc nL own ret) {a0 a1 a2 : Option Value} {r : List (Option Value)} {x : Int32} (hq : hg_c1 a2 = true) (hd : decode cc pc = .ok (.iinc 3 (-1), 3)) (hp : pc + 3 = pc') (k : hg_G E p l e R s m args below meth c nL Q σ pc' (a0 :: a1 :: a2 :: some (.int (x + (-1))) :: r) st) : hg_G E p l e R s m args below meth c nL Q σ pc (a0 :: a1 :: a2 :: some (.int x) :: r) st := by
  subst hp; intro H locs ls hP hS hL
  obtain ⟨j, hj⟩ := List.getElem?_of_mem (hg_toL_mem.mpr (show (a0 :: a1 :: a2 :: some (.int x) :: r)[3]? = some (some (.int x)) from rfl))
  exact lv_iinc cx.1 cx.2.1 hd hL.has hj rfl (by have := hL.2.1; simp at this; omega) rfl (fun ls2 h2 => k H locs ls2 hP hS (hL.put1 h2 (fun j w hj hw => by obtain rfl : j = 2 := (by omega); exact hg_c1_of hq hw) (show 3 < _ by simp only [List.length_cons]; omega)))
theorem hg_iload4 (cx : hg_Cx E p s m args meth c cc nL own ret) {a0 a1 a2 a3 : Option Value} {r : List (Option Value)} {x : Int32} (hd : decode cc pc = .ok (.iload 4, 2)) (hp : pc + 2 = pc') (k : hg_G E p l e R s m args below meth c nL Q σ pc' (a0 :: a1 :: a2 :: a3 :: some (.int x) :: r) (.int x :: st)) : hg_G E p l e R s m args below meth c nL Q σ pc (a0 :: a1 :: a2 :: a3 :: some (.int x) :: r) st := by
  subst hp; intro H locs ls hP hS hL; exact lv_iload cx.1 cx.2.1 hd (hL.2.2.2 4 _ rfl) (k H locs ls hP hS hL)
theorem hg_aload4 (cx : hg_Cx E p s m args meth c cc nL own ret) {a0 a1 a2 a3 : Option Value} {r : List (Option Value)} {x : Nat} (hd : decode cc pc = .ok (.aload 4, 2)) (hp : pc + 2 = pc') (k : hg_G E p l e R s m args below meth c nL Q σ pc' (a0 :: a1 :: a2 :: a3 :: some (.ref x) :: r) (.ref x :: st)) : hg_G E p l e R s m args below meth c nL Q σ pc (a0 :: a1 :: a2 :: a3 :: some (.ref x) :: r) st := by
  subst hp; intro H locs ls hP hS hL; exact lv_aload cx.1 cx.2.1 hd (hL.2.2.2 4 _ rfl) (k H locs ls hP hS hL)
theorem hg_lload4 (cx : hg_Cx E p s m args meth c cc nL own ret) {a0 a1 a2 a3 : Option Value} {r : List (Option Value)} {x : Int64} (hd : decode cc pc = .ok (.lload 4, 2)) (hp : pc + 2 = pc') (k : hg_G E p l e R s m args below meth c nL Q σ pc' (a0 :: a1 :: a2 :: a3 :: some (.long x) :: r) (.long x :: st)) : hg_G E p l e R s m args below meth c nL Q σ pc (a0 :: a1 :: a2 :: a3 :: some (.long x) :: r) st := by
  subst hp; intro H locs ls hP hS hL; exact lv_lload cx.1 cx.2.1 hd (hL.2.2.2 4 _ rfl) (k H locs ls hP hS hL)
theorem hg_istore4 (cx : hg_Cx E p s m args meth c cc nL own ret) {a0 a1 a2 a3 : Option Value} {r : List (Option Value)} {o : Option Value} {x : Int32} (hq : hg_c1 a3 = true)  (hd : decode cc pc = .ok (.istore 4, 2)) (hp : pc + 2 = pc') (k : hg_G E p l e R s m args below meth c nL Q σ pc' (a0 :: a1 :: a2 :: a3 :: some (.int x) :: r) st) : hg_G E p l e R s m args below meth c nL Q σ pc (a0 :: a1 :: a2 :: a3 :: o :: r) (.int x :: st) := by
  subst hp; intro H locs ls hP hS hL; exact lv_istore cx.1 cx.2.1 hd hL.has (by have := hL.2.1; simp at this; omega) rfl (fun ls2 h2 => k H locs ls2 hP hS (hL.put1 h2 (fun j w hj hw => by obtain rfl : j = 3 := (by omega); exact hg_c1_of hq hw) (show 4 < _ by simp only [List.length_cons]; omega)))
theorem hg_astore4 (cx : hg_Cx E p s m args meth c cc nL own ret) {a0 a1 a2 a3 : Option Value} {r : List (Option Value)} {o : Option Value} {x : Nat} (hq : hg_c1 a3 = true)  (hd : decode cc pc = .ok (.astore 4, 2)) (hp : pc + 2 = pc') (k : hg_G E p l e R s m args below meth c nL Q σ pc' (a0 :: a1 :: a2 :: a3 :: some (.ref x) :: r) st) : hg_G E p l e R s m args below meth c nL Q σ pc (a0 :: a1 :: a2 :: a3 :: o :: r) (.ref x :: st) := by
  subst hp; intro H locs ls hP hS hL; exact lv_astore cx.1 cx.2.1 hd hL.has (by have := hL.2.1; simp at this; omega) rfl (fun ls2 h2 => k H locs ls2 hP hS (hL.put1 h2 (fun j w hj hw => by obtain rfl : j = 3 := (by omega); exact hg_c1_of hq hw) (show 4 < _ by simp only [List.length_cons]; omega)))
theorem hg_lstore4 (cx : hg_Cx E p s m args meth c cc nL own ret) {a0 a1 a2 a3 : Option Value} {r : List (Option Value)} {o o2 : Option Value} {x : Int64} (hq : hg_c1 a3 = true)  (hd : decode cc pc = .ok (.lstore 4, 2)) (hp : pc + 2 = pc') (k : hg_G E p l e R s m args below meth c nL Q σ pc' (a0 :: a1 :: a2 :: a3 :: some (.long x) :: none :: r) st) : hg_G E p l e R s m args below meth c nL Q σ pc (a0 :: a1 :: a2 :: a3 :: o :: o2 :: r) (.long x :: st) := by
  subst hp; intro H locs ls hP hS hL; exact lv_lstore cx.1 cx.2.1 hd hL.has (by have := hL.2.1; simp at this; omega) rfl (fun ls2 h2 => k H locs ls2 hP hS (hL.put2 h2 (fun j w hj hw => by obtain rfl : j = 3 := (by omega); exact hg_c1_of hq hw) (show 4 + 1 < _ by simp only [List.length_cons]; omega)))
theorem hg_iinc4p (cx : hg_Cx E p s m args meth c cc nL own ret) {a0 a1 a2 a3 : Option Value} {r : List (Option Value)} {x : Int32} (hq : hg_c1 a3 = true) (hd : decode cc pc = .ok (.iinc 4 1, 3)) (hp : pc + 3 = pc') (k : hg_G E p l e R s m args below meth c nL Q σ pc' (a0 :: a1 :: a2 :: a3 :: some (.int (x + 1)) :: r) st) : hg_G E p l e R s m args below meth c nL Q σ pc (a0 :: a1 :: a2 :: a3 :: some (.int x) :: r) st := by
  subst hp; intro H locs ls hP hS hL
  obtain ⟨j, hj⟩ := List.getElem?_of_mem (hg_toL_mem.mpr (show (a0 :: a1 :: a2 :: a3 :: some (.int x) :: r)[4]? = some (some (.int x)) from rfl))
  exact lv_iinc cx.1 cx.2.1 hd hL.has hj rfl (by have := hL.2.1; simp at this; omega) rfl (fun ls2 h2 => k H locs ls2 hP hS (hL.put1 h2 (fun j w hj hw => by obtain rfl : j = 3 := (by omega); exact hg_c1_of hq hw) (show 4 < _ by simp only [List.length_cons]; omega)))
theorem hg_iinc4m (cx : hg_Cx E p s m args meth c cc nL own ret) {a0 a1 a2 a3 : Option Value} {r : List (Option Value)} {x : Int32} (hq : hg_c1 a3 = true) (hd : decode cc pc = .ok (.iinc 4 (-1), 3)) (hp : pc + 3 = pc') (k : hg_G E p l e R s m args below meth c nL Q σ pc' (a0 :: a1 :: a2 :: a3 :: some (.int (x + (-1))) :: r) st) : hg_G E p l e R s m args below meth c nL Q σ pc (a0 :: a1 :: a2 :: a3 :: some (.int x) :: r) st := by
  subst hp; intro H locs ls hP hS hL
  obtain ⟨j, hj⟩ := List.getElem?_of_mem (hg_toL_mem.mpr (show (a0 :: a1 :: a2 :: a3 :: some (.int x) :: r)[4]? = some (some (.int x)) from rfl))
  exact lv_iinc cx.1 cx.2.1 hd hL.has hj rfl (by have := hL.2.1; simp at this; omega) rfl (fun ls2 h2 => k H locs ls2 hP hS (hL.put1 h2 (fun j w hj hw => by obtain rfl : j = 3 := (by omega); exact hg_c1_of hq hw) (show 4 < _ by simp only [List.length_cons]; omega)))
theorem hg_iload5 (cx : hg_Cx E p s m args meth c cc nL own ret) {a0 a1 a2 a3 a4 : Option Value} {r : List (Option Value)} {x : Int32} (hd : decode cc pc = .ok (.iload 5, 2)) (hp : pc + 2 = pc') (k : hg_G E p l e R s m args below meth c nL Q σ pc' (a0 :: a1 :: a2 :: a3 :: a4 :: some (.int x) :: r) (.int x :: st)) : hg_G E p l e R s m args below meth c nL Q σ pc (a0 :: a1 :: a2 :: a3 :: a4 :: some (.int x) :: r) st := by
  subst hp; intro H locs ls hP hS hL; exact lv_iload cx.1 cx.2.1 hd (hL.2.2.2 5 _ rfl) (k H locs ls hP hS hL)
theorem hg_aload5 (cx : hg_Cx E p s m args meth c cc nL own ret) {a0 a1 a2 a3 a4 : Option Value} {r : List (Option Value)} {x : Nat} (hd : decode cc pc = .ok (.aload 5, 2)) (hp : pc + 2 = pc') (k : hg_G E p l e R s m args below meth c nL Q σ pc' (a0 :: a1 :: a2 :: a3 :: a4 :: some (.ref x) :: r) (.ref x :: st)) : hg_G E p l e R s m args below meth c nL Q σ pc (a0 :: a1 :: a2 :: a3 :: a4 :: some (.ref x) :: r) st := by
  subst hp; intro H locs ls hP hS hL; exact lv_aload cx.1 cx.2.1 hd (hL.2.2.2 5 _ rfl) (k H locs ls hP hS hL)
theorem hg_lload5 (cx : hg_Cx E p s m args meth c cc nL own ret) {a0 a1 a2 a3 a4 : Option Value} {r : List (Option Value)} {x : Int64} (hd : decode cc pc = .ok (.lload 5, 2)) (hp : pc + 2 = pc') (k : hg_G E p l e R s m args below meth c nL Q σ pc' (a0 :: a1 :: a2 :: a3 :: a4 :: some (.long x) :: r) (.long x :: st)) : hg_G E p l e R s m args below meth c nL Q σ pc (a0 :: a1 :: a2 :: a3 :: a4 :: some (.long x) :: r) st := by
  subst hp; intro H locs ls hP hS hL; exact lv_lload cx.1 cx.2.1 hd (hL.2.2.2 5 _ rfl) (k H locs ls hP hS hL)
theorem hg_istore5 (cx : hg_Cx E p s m args meth c cc nL own ret) {a0 a1 a2 a3 a4 : Option Value} {r : List (Option Value)} {o : Option Value} {x : Int32} (hq : hg_c1 a4 = true)  (hd : decode cc pc = .ok (.istore 5, 2)) (hp : pc + 2 = pc') (k : hg_G E p l e R s m args below meth c nL Q σ pc' (a0 :: a1 :: a2 :: a3 :: a4 :: some (.int x) :: r) st) : hg_G E p l e R s m args below meth c nL Q σ pc (a0 :: a1 :: a2 :: a3 :: a4 :: o :: r) (.int x :: st) := by
  subst hp; intro H locs ls hP hS hL; exact lv_istore cx.1 cx.2.1 hd hL.has (by have := hL.2.1; simp at this; omega) rfl (fun ls2 h2 => k H locs ls2 hP hS (hL.put1 h2 (fun j w hj hw => by obtain rfl : j = 4 := (by omega); exact hg_c1_of hq hw) (show 5 < _ by simp only [List.length_cons]; omega)))
theorem hg_astore5 (cx : hg_Cx E p s m args meth c cc nL own ret) {a0 a1 a2 a3 a4 : Option Value} {r : List (Option Value)} {o : Option Value} {x : Nat} (hq : hg_c1 a4 = true)  (hd : decode cc pc = .ok (.astore 5, 2)) (hp : pc + 2 = pc') (k : hg_G E p l e R s m args below meth c nL Q σ pc' (a0 :: a1 :: a2 :: a3 :: a4 :: some (.ref x) :: r) st) : hg_G E p l e R s m args below meth c nL Q σ pc (a0 :: a1 :: a2 :: a3 :: a4 :: o :: r) (.ref x :: st) := by
  subst hp; intro H locs ls hP hS hL; exact lv_astore cx.1 cx.2.1 hd hL.has (by have := hL.2.1; simp at this; omega) rfl (fun ls2 h2 => k H locs ls2 hP hS (hL.put1 h2 (fun j w hj hw => by obtain rfl : j = 4 := (by omega); exact hg_c1_of hq hw) (show 5 < _ by simp only [List.length_cons]; omega)))
theorem hg_lstore5 (cx : hg_Cx E p s m args meth c cc nL own ret) {a0 a1 a2 a3 a4 : Option Value} {r : List (Option Value)} {o o2 : Option Value} {x : Int64} (hq : hg_c1 a4 = true)  (hd : decode cc pc = .ok (.lstore 5, 2)) (hp : pc + 2 = pc') (k : hg_G E p l e R s m args below meth c nL Q σ pc' (a0 :: a1 :: a2 :: a3 :: a4 :: some (.long x) :: none :: r) st) : hg_G E p l e R s m args below meth c nL Q σ pc (a0 :: a1 :: a2 :: a3 :: a4 :: o :: o2 :: r) (.long x :: st) := by
  subst hp; intro H locs ls hP hS hL; exact lv_lstore cx.1 cx.2.1 hd hL.has (by have := hL.2.1; simp at this; omega) rfl (fun ls2 h2 => k H locs ls2 hP hS (hL.put2 h2 (fun j w hj hw => by obtain rfl : j = 4 := (by omega); exact hg_c1_of hq hw) (show 5 + 1 < _ by simp only [List.length_cons]; omega)))
theorem hg_iinc5p (cx : hg_Cx E p s m args meth c cc nL own ret) {a0 a1 a2 a3 a4 : Option Value} {r : List (Option Value)} {x : Int32} (hq : hg_c1 a4 = true) (hd : decode cc pc = .ok (.iinc 5 1, 3)) (hp : pc + 3 = pc') (k : hg_G E p l e R s m args below meth c nL Q σ pc' (a0 :: a1 :: a2 :: a3 :: a4 :: some (.int (x + 1)) :: r) st) : hg_G E p l e R s m args below meth c nL Q σ pc (a0 :: a1 :: a2 :: a3 :: a4 :: some (.int x) :: r) st := by
  subst hp; intro H locs ls hP hS hL
  obtain ⟨j, hj⟩ := List.getElem?_of_mem (hg_toL_mem.mpr (show (a0 :: a1 :: a2 :: a3 :: a4 :: some (.int x) :: r)[5]? = some (some (.int x)) from rfl))
  exact lv_iinc cx.1 cx.2.1 hd hL.has hj rfl (by have := hL.2.1; simp at this; omega) rfl (fun ls2 h2 => k H locs ls2 hP hS (hL.put1 h2 (fun j w hj hw => by obtain rfl : j = 4 := (by omega); exact hg_c1_of hq hw) (show 5 < _ by simp only [List.length_cons]; omega)))
theorem hg_iinc5m (cx : hg_Cx E p s m args meth c cc nL own ret) {a0 a1 a2 a3 a4 : Option Value} {r : List (Option Value)} {x : Int32} (hq : hg_c1 a4 = true) (hd : decode cc pc = .ok (.iinc 5 (-1), 3)) (hp : pc + 3 = pc') (k : hg_G E p l e R s m args below meth c nL Q σ pc' (a0 :: a1 :: a2 :: a3 :: a4 :: some (.int (x + (-1))) :: r) st) : hg_G E p l e R s m args below meth c nL Q σ pc (a0 :: a1 :: a2 :: a3 :: a4 :: some (.int x) :: r) st := by
  subst hp; intro H locs ls hP hS hL
  obtain ⟨j, hj⟩ := List.getElem?_of_mem (hg_toL_mem.mpr (show (a0 :: a1 :: a2 :: a3 :: a4 :: some (.int x) :: r)[5]? = some (some (.int x)) from rfl))
  exact lv_iinc cx.1 cx.2.1 hd hL.has hj rfl (by have := hL.2.1; simp at this; omega) rfl (fun ls2 h2 => k H locs ls2 hP hS (hL.put1 h2 (fun j w hj hw => by obtain rfl : j = 4 := (by omega); exact hg_c1_of hq hw) (show 5 < _ by simp only [List.length_cons]; omega)))
theorem hg_iload6 (cx : hg_Cx E p s m args meth c cc nL own ret) {a0 a1 a2 a3 a4 a5 : Option Value} {r : List (Option Value)} {x : Int32} (hd : decode cc pc = .ok (.iload 6, 2)) (hp : pc + 2 = pc') (k : hg_G E p l e R s m args below meth c nL Q σ pc' (a0 :: a1 :: a2 :: a3 :: a4 :: a5 :: some (.int x) :: r) (.int x :: st)) : hg_G E p l e R s m args below meth c nL Q σ pc (a0 :: a1 :: a2 :: a3 :: a4 :: a5 :: some (.int x) :: r) st := by
  subst hp; intro H locs ls hP hS hL; exact lv_iload cx.1 cx.2.1 hd (hL.2.2.2 6 _ rfl) (k H locs ls hP hS hL)
theorem hg_aload6 (cx : hg_Cx E p s m args meth c cc nL own ret) {a0 a1 a2 a3 a4 a5 : Option Value} {r : List (Option Value)} {x : Nat} (hd : decode cc pc = .ok (.aload 6, 2)) (hp : pc + 2 = pc') (k : hg_G E p l e R s m args below meth c nL Q σ pc' (a0 :: a1 :: a2 :: a3 :: a4 :: a5 :: some (.ref x) :: r) (.ref x :: st)) : hg_G E p l e R s m args below meth c nL Q σ pc (a0 :: a1 :: a2 :: a3 :: a4 :: a5 :: some (.ref x) :: r) st := by
  subst hp; intro H locs ls hP hS hL; exact lv_aload cx.1 cx.2.1 hd (hL.2.2.2 6 _ rfl) (k H locs ls hP hS hL)
theorem hg_lload6 (cx : hg_Cx E p s m args meth c cc nL own ret) {a0 a1 a2 a3 a4 a5 : Option Value} {r : List (Option Value)} {x : Int64} (hd : decode cc pc = .ok (.lload 6, 2)) (hp : pc + 2 = pc') (k : hg_G E p l e R s m args below meth c nL Q σ pc' (a0 :: a1 :: a2 :: a3 :: a4 :: a5 :: some (.long x) :: r) (.long x :: st)) : hg_G E p l e R s m args below meth c nL Q σ pc (a0 :: a1 :: a2 :: a3 :: a4 :: a5 :: some (.long x) :: r) st := by
  subst hp; intro H locs ls hP hS hL; exact lv_lload cx.1 cx.2.1 hd (hL.2.2.2 6 _ rfl) (k H locs ls hP hS hL)
theorem hg_istore6 (cx : hg_Cx E p s m args meth c cc nL own ret) {a0 a1 a2 a3 a4 a5 : Option Value} {r : List (Option Value)} {o : Option Value} {x : Int32} (hq : hg_c1 a5 = true)  (hd : decode cc pc = .ok (.istore 6, 2)) (hp : pc + 2 = pc') (k : hg_G E p l e R s m args below meth c nL Q σ pc' (a0 :: a1 :: a2 :: a3 :: a4 :: a5 :: some (.int x) :: r) st) : hg_G E p l e R s m args below meth c nL Q σ pc (a0 :: a1 :: a2 :: a3 :: a4 :: a5 :: o :: r) (.int x :: st) := by
  subst hp; intro H locs ls hP hS hL; exact lv_istore cx.1 cx.2.1 hd hL.has (by have := hL.2.1; simp at this; omega) rfl (fun ls2 h2 => k H locs ls2 hP hS (hL.put1 h2 (fun j w hj hw => by obtain rfl : j = 5 := (by omega); exact hg_c1_of hq hw) (show 6 < _ by simp only [List.length_cons]; omega)))
theorem hg_astore6 (cx : hg_Cx E p s m args meth c cc nL own ret) {a0 a1 a2 a3 a4 a5 : Option Value} {r : List (Option Value)} {o : Option Value} {x : Nat} (hq : hg_c1 a5 = true)  (hd : decode cc pc = .ok (.astore 6, 2)) (hp : pc + 2 = pc') (k : hg_G E p l e R s m args below meth c nL Q σ pc' (a0 :: a1 :: a2 :: a3 :: a4 :: a5 :: some (.ref x) :: r) st) : hg_G E p l e R s m args below meth c nL Q σ pc (a0 :: a1 :: a2 :: a3 :: a4 :: a5 :: o :: r) (.ref x :: st) := by
  subst hp; intro H locs ls hP hS hL; exact lv_astore cx.1 cx.2.1 hd hL.has (by have := hL.2.1; simp at this; omega) rfl (fun ls2 h2 => k H locs ls2 hP hS (hL.put1 h2 (fun j w hj hw => by obtain rfl : j = 5 := (by omega); exact hg_c1_of hq hw) (show 6 < _ by simp only [List.length_cons]; omega)))
theorem hg_lstore6 (cx : hg_Cx E p s m args meth c cc nL own ret) {a0 a1 a2 a3 a4 a5 : Option Value} {r : List (Option Value)} {o o2 : Option Value} {x : Int64} (hq : hg_c1 a5 = true)  (hd : decode cc pc = .ok (.lstore 6, 2)) (hp : pc + 2 = pc') (k : hg_G E p l e R s m args below meth c nL Q σ pc' (a0 :: a1 :: a2 :: a3 :: a4 :: a5 :: some (.long x) :: none :: r) st) : hg_G E p l e R s m args below meth c nL Q σ pc (a0 :: a1 :: a2 :: a3 :: a4 :: a5 :: o :: o2 :: r) (.long x :: st) := by
  subst hp; intro H locs ls hP hS hL; exact lv_lstore cx.1 cx.2.1 hd hL.has (by have := hL.2.1; simp at this; omega) rfl (fun ls2 h2 => k H locs ls2 hP hS (hL.put2 h2 (fun j w hj hw => by obtain rfl : j = 5 := (by omega); exact hg_c1_of hq hw) (show 6 + 1 < _ by simp only [List.length_cons]; omega)))
theorem hg_iinc6p (cx : hg_Cx E p s m args meth c cc nL own ret) {a0 a1 a2 a3 a4 a5 : Option Value} {r : List (Option Value)} {x : Int32} (hq : hg_c1 a5 = true) (hd : decode cc pc = .ok (.iinc 6 1, 3)) (hp : pc + 3 = pc') (k : hg_G E p l e R s m args below meth c nL Q σ pc' (a0 :: a1 :: a2 :: a3 :: a4 :: a5 :: some (.int (x + 1)) :: r) st) : hg_G E p l e R s m args below meth c nL Q σ pc (a0 :: a1 :: a2 :: a3 :: a4 :: a5 :: some (.int x) :: r) st := by
  subst hp; intro H locs ls hP hS hL
  obtain ⟨j, hj⟩ := List.getElem?_of_mem (hg_toL_mem.mpr (show (a0 :: a1 :: a2 :: a3 :: a4 :: a5 :: some (.int x) :: r)[6]? = some (some (.int x)) from rfl))
  exact lv_iinc cx.1 cx.2.1 hd hL.has hj rfl (by have := hL.2.1; simp at this; omega) rfl (fun ls2 h2 => k H locs ls2 hP hS (hL.put1 h2 (fun j w hj hw => by obtain rfl : j = 5 := (by omega); exact hg_c1_of hq hw) (show 6 < _ by simp only [List.length_cons]; omega)))
theorem hg_iinc6m (cx : hg_Cx E p s m args meth c cc nL own ret) {a0 a1 a2 a3 a4 a5 : Option Value} {r : List (Option Value)} {x : Int32} (hq : hg_c1 a5 = true) (hd : decode cc pc = .ok (.iinc 6 (-1), 3)) (hp : pc + 3 = pc') (k : hg_G E p l e R s m args below meth c nL Q σ pc' (a0 :: a1 :: a2 :: a3 :: a4 :: a5 :: some (.int (x + (-1))) :: r) st) : hg_G E p l e R s m args below meth c nL Q σ pc (a0 :: a1 :: a2 :: a3 :: a4 :: a5 :: some (.int x) :: r) st := by
  subst hp; intro H locs ls hP hS hL
  obtain ⟨j, hj⟩ := List.getElem?_of_mem (hg_toL_mem.mpr (show (a0 :: a1 :: a2 :: a3 :: a4 :: a5 :: some (.int x) :: r)[6]? = some (some (.int x)) from rfl))
  exact lv_iinc cx.1 cx.2.1 hd hL.has hj rfl (by have := hL.2.1; simp at this; omega) rfl (fun ls2 h2 => k H locs ls2 hP hS (hL.put1 h2 (fun j w hj hw => by obtain rfl : j = 5 := (by omega); exact hg_c1_of hq hw) (show 6 < _ by simp only [List.length_cons]; omega)))
theorem hg_iload7 (cx : hg_Cx E p s m args meth c cc nL own ret) {a0 a1 a2 a3 a4 a5 a6 : Option Value} {r : List (Option Value)} {x : Int32} (hd : decode cc pc = .ok (.iload 7, 2)) (hp : pc + 2 = pc') (k : hg_G E p l e R s m args below meth c nL Q σ pc' (a0 :: a1 :: a2 :: a3 :: a4 :: a5 :: a6 :: some (.int x) :: r) (.int x :: st)) : hg_G E p l e R s m args below meth c nL Q σ pc (a0 :: a1 :: a2 :: a3 :: a4 :: a5 :: a6 :: some (.int x) :: r) st := by
  subst hp; intro H locs ls hP hS hL; exact lv_iload cx.1 cx.2.1 hd (hL.2.2.2 7 _ rfl) (k H locs ls hP hS hL)
theorem hg_aload7 (cx : hg_Cx E p s m args meth c cc nL own ret) {a0 a1 a2 a3 a4 a5 a6 : Option Value} {r : List (Option Value)} {x : Nat} (hd : decode cc pc = .ok (.aload 7, 2)) (hp : pc + 2 = pc') (k : hg_G E p l e R s m args below meth c nL Q σ pc' (a0 :: a1 :: a2 :: a3 :: a4 :: a5 :: a6 :: some (.ref x) :: r) (.ref x :: st)) : hg_G E p l e R s m args below meth c nL Q σ pc (a0 :: a1 :: a2 :: a3 :: a4 :: a5 :: a6 :: some (.ref x) :: r) st := by
  subst hp; intro H locs ls hP hS hL; exact lv_aload cx.1 cx.2.1 hd (hL.2.2.2 7 _ rfl) (k H locs ls hP hS hL)
theorem hg_lload7 (cx : hg_Cx E p s m args meth c cc nL own ret) {a0 a1 a2 a3 a4 a5 a6 : Option Value} {r : List (Option Value)} {x : Int64} (hd : decode cc pc = .ok (.lload 7, 2)) (hp : pc + 2 = pc') (k : hg_G E p l e R s m args below meth c nL Q σ pc' (a0 :: a1 :: a2 :: a3 :: a4 :: a5 :: a6 :: some (.long x) :: r) (.long x :: st)) : hg_G E p l e R s m args below meth c nL Q σ pc (a0 :: a1 :: a2 :: a3 :: a4 :: a5 :: a6 :: some (.long x) :: r) st := by
  subst hp; intro H locs ls hP hS hL; exact lv_lload cx.1 cx.2.1 hd (hL.2.2.2 7 _ rfl) (k H locs ls hP hS hL)
theorem hg_istore7 (cx : hg_Cx E p s m args meth c cc nL own ret) {a0 a1 a2 a3 a4 a5 a6 : Option Value} {r : List (Option Value)} {o : Option Value} {x : Int32} (hq : hg_c1 a6 = true)  (hd : decode cc pc = .ok (.istore 7, 2)) (hp : pc + 2 = pc') (k : hg_G E p l e R s m args below meth c nL Q σ pc' (a0 :: a1 :: a2 :: a3 :: a4 :: a5 :: a6 :: some (.int x) :: r) st) : hg_G E p l e R s m args below meth c nL Q σ pc (a0 :: a1 :: a2 :: a3 :: a4 :: a5 :: a6 :: o :: r) (.int x :: st) := by
  subst hp; intro H locs ls hP hS hL; exact lv_istore cx.1 cx.2.1 hd hL.has (by have := hL.2.1; simp at this; omega) rfl (fun ls2 h2 => k H locs ls2 hP hS (hL.put1 h2 (fun j w hj hw => by obtain rfl : j = 6 := (by omega); exact hg_c1_of hq hw) (show 7 < _ by simp only [List.length_cons]; omega)))
theorem hg_astore7 (cx : hg_Cx E p s m args meth c cc nL own ret) {a0 a1 a2 a3 a4 a5 a6 : Option Value} {r : List (Option Value)} {o : Option Value} {x : Nat} (hq : hg_c1 a6 = true)  (hd : decode cc pc = .ok (.astore 7, 2)) (hp : pc + 2 = pc') (k : hg_G E p l e R s m args below meth c nL Q σ pc' (a0 :: a1 :: a2 :: a3 :: a4 :: a5 :: a6 :: some (.ref x) :: r) st) : hg_G E p l e R s m args below meth c nL Q σ pc (a0 :: a1 :: a2 :: a3 :: a4 :: a5 :: a6 :: o :: r) (.ref x :: st) := by
  subst hp; intro H locs ls hP hS hL; exact lv_astore cx.1 cx.2.1 hd hL.has (by have := hL.2.1; simp at this; omega) rfl (fun ls2 h2 => k H locs ls2 hP hS (hL.put1 h2 (fun j w hj hw => by obtain rfl : j = 6 := (by omega); exact hg_c1_of hq hw) (show 7 < _ by simp only [List.length_cons]; omega)))
theorem hg_lstore7 (cx : hg_Cx E p s m args meth c cc nL own ret) {a0 a1 a2 a3 a4 a5 a6 : Option Value} {r : List (Option Value)} {o o2 : Option Value} {x : Int64} (hq : hg_c1 a6 = true)  (hd : decode cc pc = .ok (.lstore 7, 2)) (hp : pc + 2 = pc') (k : hg_G E p l e R s m args below meth c nL Q σ pc' (a0 :: a1 :: a2 :: a3 :: a4 :: a5 :: a6 :: some (.long x) :: none :: r) st) : hg_G E p l e R s m args below meth c nL Q σ pc (a0 :: a1 :: a2 :: a3 :: a4 :: a5 :: a6 :: o :: o2 :: r) (.long x :: st) := by
  subst hp; intro H locs ls hP hS hL; exact lv_lstore cx.1 cx.2.1 hd hL.has (by have := hL.2.1; simp at this; omega) rfl (fun ls2 h2 => k H locs ls2 hP hS (hL.put2 h2 (fun j w hj hw => by obtain rfl : j = 6 := (by omega); exact hg_c1_of hq hw) (show 7 + 1 < _ by simp only [List.length_cons]; omega)))
theorem hg_iinc7p (cx : hg_Cx E p s m args meth c cc nL own ret) {a0 a1 a2 a3 a4 a5 a6 : Option Value} {r : List (Option Value)} {x : Int32} (hq : hg_c1 a6 = true) (hd : decode cc pc = .ok (.iinc 7 1, 3)) (hp : pc + 3 = pc') (k : hg_G E p l e R s m args below meth c nL Q σ pc' (a0 :: a1 :: a2 :: a3 :: a4 :: a5 :: a6 :: some (.int (x + 1)) :: r) st) : hg_G E p l e R s m args below meth c nL Q σ pc (a0 :: a1 :: a2 :: a3 :: a4 :: a5 :: a6 :: some (.int x) :: r) st := by
  subst hp; intro H locs ls hP hS hL
  obtain ⟨j, hj⟩ := List.getElem?_of_mem (hg_toL_mem.mpr (show (a0 :: a1 :: a2 :: a3 :: a4 :: a5 :: a6 :: some (.int x) :: r)[7]? = some (some (.int x)) from rfl))
  exact lv_iinc cx.1 cx.2.1 hd hL.has hj rfl (by have := hL.2.1; simp at this; omega) rfl (fun ls2 h2 => k H locs ls2 hP hS (hL.put1 h2 (fun j w hj hw => by obtain rfl : j = 6 := (by omega); exact hg_c1_of hq hw) (show 7 < _ by simp only [List.length_cons]; omega)))
theorem hg_iinc7m (cx : hg_Cx E p s m args meth c cc nL own ret) {a0 a1 a2 a3 a4 a5 a6 : Option Value} {r : List (Option Value)} {x : Int32} (hq : hg_c1 a6 = true) (hd : decode cc pc = .ok (.iinc 7 (-1), 3)) (hp : pc + 3 = pc') (k : hg_G E p l e R s m args below meth c nL Q σ pc' (a0 :: a1 :: a2 :: a3 :: a4 :: a5 :: a6 :: some (.int (x + (-1))) :: r) st) : hg_G E p l e R s m args below meth c nL Q σ pc (a0 :: a1 :: a2 :: a3 :: a4 :: a5 :: a6 :: some (.int x) :: r) st := by
  subst hp; intro H locs ls hP hS hL
  obtain ⟨j, hj⟩ := List.getElem?_of_mem (hg_toL_mem.mpr (show (a0 :: a1 :: a2 :: a3 :: a4 :: a5 :: a6 :: some (.int x) :: r)[7]? = some (some (.int x)) from rfl))
  exact lv_iinc cx.1 cx.2.1 hd hL.has hj rfl (by have := hL.2.1; simp at this; omega) rfl (fun ls2 h2 => k H locs ls2 hP hS (hL.put1 h2 (fun j w hj hw => by obtain rfl : j = 6 := (by omega); exact hg_c1_of hq hw) (show 7 < _ by simp only [List.length_cons]; omega)))
theorem hg_iload8 (cx : hg_Cx E p s m args meth c cc nL own ret) {a0 a1 a2 a3 a4 a5 a6 a7 : Option Value} {r : List (Option Value)} {x : Int32} (hd : decode cc pc = .ok (.iload 8, 2)) (hp : pc + 2 = pc') (k : hg_G E p l e R s m args below meth c nL Q σ pc' (a0 :: a1 :: a2 :: a3 :: a4 :: a5 :: a6 :: a7 :: some (.int x) :: r) (.int x :: st)) : hg_G E p l e R s m args below meth c nL Q σ pc (a0 :: a1 :: a2 :: a3 :: a4 :: a5 :: a6 :: a7 :: some (.int x) :: r) st := by
  subst hp; intro H locs ls hP hS hL; exact lv_iload cx.1 cx.2.1 hd (hL.2.2.2 8 _ rfl) (k H locs ls hP hS hL)
theorem hg_aload8 (cx : hg_Cx E p s m args meth c cc nL own ret) {a0 a1 a2 a3 a4 a5 a6 a7 : Option Value} {r : List (Option Value)} {x : Nat} (hd : decode cc pc = .ok (.aload 8, 2)) (hp : pc + 2 = pc') (k : hg_G E p l e R s m args below meth c nL Q σ pc' (a0 :: a1 :: a2 :: a3 :: a4 :: a5 :: a6 :: a7 :: some (.ref x) :: r) (.ref x :: st)) : hg_G E p l e R s m args below meth c nL Q σ pc (a0 :: a1 :: a2 :: a3 :: a4 :: a5 :: a6 :: a7 :: some (.ref x) :: r) st := by
  subst hp; intro H locs ls hP hS hL; exact lv_aload cx.1 cx.2.1 hd (hL.2.2.2 8 _ rfl) (k H locs ls hP hS hL)
theorem hg_lload8 (cx : hg_Cx E p s m args meth c cc nL own ret) {a0 a1 a2 a3 a4 a5 a6 a7 : Option Value} {r : List (Option Value)} {x : Int64} (hd : decode cc pc = .ok (.lload 8, 2)) (hp : pc + 2 = pc') (k : hg_G E p l e R s m args below meth c nL Q σ pc' (a0 :: a1 :: a2 :: a3 :: a4 :: a5 :: a6 :: a7 :: some (.long x) :: r) (.long x :: st)) : hg_G E p l e R s m args below meth c nL Q σ pc (a0 :: a1 :: a2 :: a3 :: a4 :: a5 :: a6 :: a7 :: some (.long x) :: r) st := by
  subst hp; intro H locs ls hP hS hL; exact lv_lload cx.1 cx.2.1 hd (hL.2.2.2 8 _ rfl) (k H locs ls hP hS hL)
theorem hg_istore8 (cx : hg_Cx E p s m args meth c cc nL own ret) {a0 a1 a2 a3 a4 a5 a6 a7 : Option Value} {r : List (Option Value)} {o : Option Value} {x : Int32} (hq : hg_c1 a7 = true)  (hd : decode cc pc = .ok (.istore 8, 2)) (hp : pc + 2 = pc') (k : hg_G E p l e R s m args below meth c nL Q σ pc' (a0 :: a1 :: a2 :: a3 :: a4 :: a5 :: a6 :: a7 :: some (.int x) :: r) st) : hg_G E p l e R s m args below meth c nL Q σ pc (a0 :: a1 :: a2 :: a3 :: a4 :: a5 :: a6 :: a7 :: o :: r) (.int x :: st) := by
  subst hp; intro H locs ls hP hS hL; exact lv_istore cx.1 cx.2.1 hd hL.has (by have := hL.2.1; simp at this; omega) rfl (fun ls2 h2 => k H locs ls2 hP hS (hL.put1 h2 (fun j w hj hw => by obtain rfl : j = 7 := (by omega); exact hg_c1_of hq hw) (show 8 < _ by simp only [List.length_cons]; omega)))
theorem hg_astore8 (cx : hg_Cx E p s m args meth c cc nL own ret) {a0 a1 a2 a3 a4 a5 a6 a7 : Option Value} {r : List (Option Value)} {o : Option Value} {x : Nat} (hq : hg_c1 a7 = true)  (hd : decode cc pc = .ok (.astore 8, 2)) (hp : pc + 2 = pc') (k : hg_G E p l e R s m args below meth c nL Q σ pc' (a0 :: a1 :: a2 :: a3 :: a4 :: a5 :: a6 :: a7 :: some (.ref x) :: r) st) : hg_G E p l e R s m args below meth c nL Q σ pc (a0 :: a1 :: a2 :: a3 :: a4 :: a5 :: a6 :: a7 :: o :: r) (.ref x :: st) := by
  subst hp; intro H locs ls hP hS hL; exact lv_astore cx.1 cx.2.1 hd hL.has (by have := hL.2.1; simp at this; omega) rfl (fun ls2 h2 => k H locs ls2 hP hS (hL.put1 h2 (fun j w hj hw => by obtain rfl : j = 7 := (by omega); exact hg_c1_of hq hw) (show 8 < _ by simp only [List.length_cons]; omega)))
theorem hg_lstore8 (cx : hg_Cx E p s m args meth c cc nL own ret) {a0 a1 a2 a3 a4 a5 a6 a7 : Option Value} {r : List (Option Value)} {o o2 : Option Value} {x : Int64} (hq : hg_c1 a7 = true)  (hd : decode cc pc = .ok (.lstore 8, 2)) (hp : pc + 2 = pc') (k : hg_G E p l e R s m args below meth c nL Q σ pc' (a0 :: a1 :: a2 :: a3 :: a4 :: a5 :: a6 :: a7 :: some (.long x) :: none :: r) st) : hg_G E p l e R s m args below meth c nL Q σ pc (a0 :: a1 :: a2 :: a3 :: a4 :: a5 :: a6 :: a7 :: o :: o2 :: r) (.long x :: st) := by
  subst hp; intro H locs ls hP hS hL; exact lv_lstore cx.1 cx.2.1 hd hL.has (by have := hL.2.1; simp at this; omega) rfl (fun ls2 h2 => k H locs ls2 hP hS (hL.put2 h2 (fun j w hj hw => by obtain rfl : j = 7 := (by omega); exact hg_c1_of hq hw) (show 8 + 1 < _ by simp only [List.length_cons]; omega)))
theorem hg_iinc8p (cx : hg_Cx E p s m args meth c cc nL own ret) {a0 a1 a2 a3 a4 a5 a6 a7 : Option Value} {r : List (Option Value)} {x : Int32} (hq : hg_c1 a7 = true) (hd : decode cc pc = .ok (.iinc 8 1, 3)) (hp : pc + 3 = pc') (k : hg_G E p l e R s m args below meth c nL Q σ pc' (a0 :: a1 :: a2 :: a3 :: a4 :: a5 :: a6 :: a7 :: some (.int (x + 1)) :: r) st) : hg_G E p l e R s m args below meth c nL Q σ pc (a0 :: a1 :: a2 :: a3 :: a4 :: a5 :: a6 :: a7 :: some (.int x) :: r) st := by
  subst hp; intro H locs ls hP hS hL
  obtain ⟨j, hj⟩ := List.getElem?_of_mem (hg_toL_mem.mpr (show (a0 :: a1 :: a2 :: a3 :: a4 :: a5 :: a6 :: a7 :: some (.int x) :: r)[8]? = some (some (.int x)) from rfl))
  exact lv_iinc cx.1 cx.2.1 hd hL.has hj rfl (by have := hL.2.1; simp at this; omega) rfl (fun ls2 h2 => k H locs ls2 hP hS (hL.put1 h2 (fun j w hj hw => by obtain rfl : j = 7 := (by omega); exact hg_c1_of hq hw) (show 8 < _ by simp only [List.length_cons]; omega)))
theorem hg_iinc8m (cx : hg_Cx E p s m args meth c cc nL own ret) {a0 a1 a2 a3 a4 a5 a6 a7 : Option Value} {r : List (Option Value)} {x : Int32} (hq : hg_c1 a7 = true) (hd : decode cc pc = .ok (.iinc 8 (-1), 3)) (hp : pc + 3 = pc') (k : hg_G E p l e R s m args below meth c nL Q σ pc' (a0 :: a1 :: a2 :: a3 :: a4 :: a5 :: a6 :: a7 :: some (.int (x + (-1))) :: r) st) : hg_G E p l e R s m args below meth c nL Q σ pc (a0 :: a1 :: a2 :: a3 :: a4 :: a5 :: a6 :: a7 :: some (.int x) :: r) st := by
  subst hp; intro H locs ls hP hS hL
  obtain ⟨j, hj⟩ := List.getElem?_of_mem (hg_toL_mem.mpr (show (a0 :: a1 :: a2 :: a3 :: a4 :: a5 :: a6 :: a7 :: some (.int x) :: r)[8]? = some (some (.int x)) from rfl))
  exact lv_iinc cx.1 cx.2.1 hd hL.has hj rfl (by have := hL.2.1; simp at this; omega) rfl (fun ls2 h2 => k H locs ls2 hP hS (hL.put1 h2 (fun j w hj hw => by obtain rfl : j = 7 := (by omega); exact hg_c1_of hq hw) (show 8 < _ by simp only [List.length_cons]; omega)))
theorem hg_if_eq (cx : hg_Cx E p s m args meth c cc nL own ret) {lv : List (Option Value)} {x : Int32} {off : Int} (tgt : Nat) (hd : decode cc pc = .ok (.ifCond .eq off, 3)) (ht : (pc : Int) + off = (tgt : Int)) (hp : pc + 3 = pc') (kt : x = 0 → hg_G E p l e R s m args below meth c nL Q σ tgt lv st) (kf : ¬ x = 0 → hg_G E p l e R s m args below meth c nL Q σ pc' lv st) : hg_G E p l e R s m args below meth c nL Q σ pc lv (.int x :: st) := by
  subst hp; intro H locs ls hP hS hL; exact lv_if_eq cx.1 cx.2.1 hd ht (fun h => kt h H locs ls hP hS hL) (fun h => kf h H locs ls hP hS hL)
theorem hg_if_ne (cx : hg_Cx E p s m args meth c cc nL own ret) {lv : List (Option Value)} {x : Int32} {off : Int} (tgt : Nat) (hd : decode cc pc = .ok (.ifCond .ne off, 3)) (ht : (pc : Int) + off = (tgt : Int)) (hp : pc + 3 = pc') (kt : ¬ x = 0 → hg_G E p l e R s m args below meth c nL Q σ tgt lv st) (kf : x = 0 → hg_G E p l e R s m args below meth c nL Q σ pc' lv st) : hg_G E p l e R s m args below meth c nL Q σ pc lv (.int x :: st) := by
  subst hp; intro H locs ls hP hS hL; exact lv_if_ne cx.1 cx.2.1 hd ht (fun h => kt h H locs ls hP hS hL) (fun h => kf h H locs ls hP hS hL)
theorem hg_if_lt (cx : hg_Cx E p s m args meth c cc nL own ret) {lv : List (Option Value)} {x : Int32} {off : Int} (tgt : Nat) (hd : decode cc pc = .ok (.ifCond .lt off, 3)) (ht : (pc : Int) + off = (tgt : Int)) (hp : pc + 3 = pc') (kt : x < 0 → hg_G E p l e R s m args below meth c nL Q σ tgt lv st) (kf : ¬ x < 0 → hg_G E p l e R s m args below meth c nL Q σ pc' lv st) : hg_G E p l e R s m args below meth c nL Q σ pc lv (.int x :: st) := by
  subst hp; intro H locs ls hP hS hL; exact lv_if_lt cx.1 cx.2.1 hd ht (fun h => kt h H locs ls hP hS hL) (fun h => kf h H locs ls hP hS hL)
theorem hg_if_ge (cx : hg_Cx E p s m args meth c cc nL own ret) {lv : List (Option Value)} {x : Int32} {off : Int} (tgt : Nat) (hd : decode cc pc = .ok (.ifCond .ge off, 3)) (ht : (pc : Int) + off = (tgt : Int)) (hp : pc + 3 = pc') (kt : 0 ≤ x → hg_G E p l e R s m args below meth c nL Q σ tgt lv st) (kf : ¬ 0 ≤ x → hg_G E p l e R s m args below meth c nL Q σ pc' lv st) : hg_G E p l e R s m args below meth c nL Q σ pc lv (.int x :: st) := by
  subst hp; intro H locs ls hP hS hL; exact lv_if_ge cx.1 cx.2.1 hd ht (fun h => kt h H locs ls hP hS hL) (fun h => kf h H locs ls hP hS hL)
theorem hg_if_gt (cx : hg_Cx E p s m args meth c cc nL own ret) {lv : List (Option Value)} {x : Int32} {off : Int} (tgt : Nat) (hd : decode cc pc = .ok (.ifCond .gt off, 3)) (ht : (pc : Int) + off = (tgt : Int)) (hp : pc + 3 = pc') (kt : 0 < x → hg_G E p l e R s m args below meth c nL Q σ tgt lv st) (kf : ¬ 0 < x → hg_G E p l e R s m args below meth c nL Q σ pc' lv st) : hg_G E p l e R s m args below meth c nL Q σ pc lv (.int x :: st) := by
  subst hp; intro H locs ls hP hS hL; exact lv_if_gt cx.1 cx.2.1 hd ht (fun h => kt h H locs ls hP hS hL) (fun h => kf h H locs ls hP hS hL)
theorem hg_if_le (cx : hg_Cx E p s m args meth c cc nL own ret) {lv : List (Option Value)} {x : Int32} {off : Int} (tgt : Nat) (hd : decode cc pc = .ok (.ifCond .le off, 3)) (ht : (pc : Int) + off = (tgt : Int)) (hp : pc + 3 = pc') (kt : x ≤ 0 → hg_G E p l e R s m args below meth c nL Q σ tgt lv st) (kf : ¬ x ≤ 0 → hg_G E p l e R s m args below meth c nL Q σ pc' lv st) : hg_G E p l e R s m args below meth c nL Q σ pc lv (.int x :: st) := by
  subst hp; intro H locs ls hP hS hL; exact lv_if_le cx.1 cx.2.1 hd ht (fun h => kt h H locs ls hP hS hL) (fun h => kf h H locs ls hP hS hL)
theorem hg_icmp_eq (cx : hg_Cx E p s m args meth c cc nL own ret) {lv : List (Option Value)} {x y : Int32} {off : Int} (tgt : Nat) (hd : decode cc pc = .ok (.if_icmp .eq off, 3)) (ht : (pc : Int) + off = (tgt : Int)) (hp : pc + 3 = pc') (kt : x = y → hg_G E p l e R s m args below meth c nL Q σ tgt lv st) (kf : ¬ x = y → hg_G E p l e R s m args below meth c nL Q σ pc' lv st) : hg_G E p l e R s m args below meth c nL Q σ pc lv (.int y :: .int x :: st) := by
  subst hp; intro H locs ls hP hS hL; exact lv_icmp_eq cx.1 cx.2.1 hd ht (fun h => kt h H locs ls hP hS hL) (fun h => kf h H locs ls hP hS hL)
theorem hg_icmp_ne (cx : hg_Cx E p s m args meth c cc nL own ret) {lv : List (Option Value)} {x y : Int32} {off : Int} (tgt : Nat) (hd : decode cc pc = .ok (.if_icmp .ne off, 3)) (ht : (pc : Int) + off = (tgt : Int)) (hp : pc + 3 = pc') (kt : ¬ x = y → hg_G E p l e R s m args below meth c nL Q σ tgt lv st) (kf : x = y → hg_G E p l e R s m args below meth c nL Q σ pc' lv st) : hg_G E p l e R s m args below meth c nL Q σ pc lv (.int y :: .int x :: st) := by
  subst hp; intro H locs ls hP hS hL; exact lv_icmp_ne cx.1 cx.2.1 hd ht (fun h => kt h H locs ls hP hS hL) (fun h => kf h H locs ls hP hS hL)
theorem hg_icmp_lt (cx : hg_Cx E p s m args meth c cc nL own ret) {lv : List (Option Value)} {x y : Int32} {off : Int} (tgt : Nat) (hd : decode cc pc = .ok (.if_icmp .lt off, 3)) (ht : (pc : Int) + off = (tgt : Int)) (hp : pc + 3 = pc') (kt : x < y → hg_G E p l e R s m args below meth c nL Q σ tgt lv st) (kf : ¬ x < y → hg_G E p l e R s m args below meth c nL Q σ pc' lv st) : hg_G E p l e R s m args below meth c nL Q σ pc lv (.int y :: .int x :: st) := by
  subst hp; intro H locs ls hP hS hL; exact lv_icmp_lt cx.1 cx.2.1 hd ht (fun h => kt h H locs ls hP hS hL) (fun h => kf h H locs ls hP hS hL)
theorem hg_icmp_ge (cx : hg_Cx E p s m args meth c cc nL own ret) {lv : List (Option Value)} {x y : Int32} {off : Int} (tgt : Nat) (hd : decode cc pc = .ok (.if_icmp .ge off, 3)) (ht : (pc : Int) + off = (tgt : Int)) (hp : pc + 3 = pc') (kt : y ≤ x → hg_G E p l e R s m args below meth c nL Q σ tgt lv st) (kf : ¬ y ≤ x → hg_G E p l e R s m args below meth c nL Q σ pc' lv st) : hg_G E p l e R s m args below meth c nL Q σ pc lv (.int y :: .int x :: st) := by
  subst hp; intro H locs ls hP hS hL; exact lv_icmp_ge cx.1 cx.2.1 hd ht (fun h => kt h H locs ls hP hS hL) (fun h => kf h H locs ls hP hS hL)
theorem hg_icmp_gt (cx : hg_Cx E p s m args meth c cc nL own ret) {lv : List (Option Value)} {x y : Int32} {off : Int} (tgt : Nat) (hd : decode cc pc = .ok (.if_icmp .gt off, 3)) (ht : (pc : Int) + off = (tgt : Int)) (hp : pc + 3 = pc') (kt : y < x → hg_G E p l e R s m args below meth c nL Q σ tgt lv st) (kf : ¬ y < x → hg_G E p l e R s m args below meth c nL Q σ pc' lv st) : hg_G E p l e R s m args below meth c nL Q σ pc lv (.int y :: .int x :: st) := by
  subst hp; intro H locs ls hP hS hL; exact lv_icmp_gt cx.1 cx.2.1 hd ht (fun h => kt h H locs ls hP hS hL) (fun h => kf h H locs ls hP hS hL)
theorem hg_icmp_le (cx : hg_Cx E p s m args meth c cc nL own ret) {lv : List (Option Value)} {x y : Int32} {off : Int} (tgt : Nat) (hd : decode cc pc = .ok (.if_icmp .le off, 3)) (ht : (pc : Int) + off = (tgt : Int)) (hp : pc + 3 = pc') (kt : x ≤ y → hg_G E p l e R s m args below meth c nL Q σ tgt lv st) (kf : ¬ x ≤ y → hg_G E p l e R s m args below meth c nL Q σ pc' lv st) : hg_G E p l e R s m args below meth c nL Q σ pc lv (.int y :: .int x :: st) := by
  subst hp; intro H locs ls hP hS hL; exact lv_icmp_le cx.1 cx.2.1 hd ht (fun h => kt h H locs ls hP hS hL) (fun h => kf h H locs ls hP hS hL)
theorem hg_goto (cx : hg_Cx E p s m args meth c cc nL own ret) {lv : List (Option Value)} {off : Int} (tgt : Nat) (hd : decode cc pc = .ok (.goto off, 3)) (ht : (pc : Int) + off = (tgt : Int)) (k : hg_G E p l e R s m args below meth c nL Q σ tgt lv st) : hg_G E p l e R s m args below meth c nL Q σ pc lv st := by
  intro H locs ls hP hS hL; exact lv_goto cx.1 cx.2.1 hd ht (k H locs ls hP hS hL)
theorem hg_tsw (cx : hg_Cx E p s m args meth c cc nL own ret) {lv : List (Option Value)} {x : Int32} {dflt lo hi : Int} {offs : Array Int} {len : Nat} (ks : List Int32) (tg : List Nat) (dt : Nat) (hd : decode cc pc = .ok (.tableswitch dflt lo hi offs, len)) (h1 : (List.range ks.length).all (fun i => decide ((ks.getD i 0).toInt = lo + i) && decide ((offs[i]?).map (fun o => (pc : Int) + o) = some ((tg.getD i 0 : Nat) : Int))) = true) (h2 : hi = lo + (ks.length : Int) - 1 ∧ (pc : Int) + dflt = (dt : Int)) (kd : (∀ v ∈ ks, ¬ x = v) → hg_G E p l e R s m args below meth c nL Q σ dt lv st) (kc : ∀ (i : Nat) (v : Int32) (t : Nat), ks[i]? = some v → tg.getD i 0 = t → x = v → hg_G E p l e R s m args below meth c nL Q σ t lv st) : hg_G E p l e R s m args below meth c nL Q σ pc lv (.int x :: st) := by
  intro H locs ls hP hS hL
  have hall := fun i (hi : i < ks.length) => List.all_eq_true.mp h1 i (List.mem_range.mpr hi)
  simp only [Bool.and_eq_true, decide_eq_true_eq] at hall
  by_cases hin : x.toInt < lo ∨ hi < x.toInt
  · refine lv_tableOut cx.1 cx.2.1 hd hin h2.2 (kd (fun v hv hx => ?_) H locs ls hP hS hL)
    obtain ⟨i, hi⟩ := List.getElem?_of_mem hv
    have hl : i < ks.length := (List.getElem?_eq_some_iff.mp hi).1
    have h3 := (hall i hl).1
    rw [List.getD_eq_getElem?_getD, hi] at h3
    simp only [Option.getD_some] at h3
    rw [hx, h3] at hin
    omega
  · have hl : (x.toInt - lo).toNat < ks.length := by omega
    obtain ⟨h3, h4⟩ := hall _ hl
    have hv : ks[(x.toInt - lo).toNat]? = some x := by
      rw [List.getElem?_eq_getElem hl]
      congr 1
      apply Int32.toInt_inj.mp
      rw [List.getD_eq_getElem?_getD, List.getElem?_eq_getElem hl, Option.getD_some] at h3
      rw [h3]; omega
    cases ho : offs[(x.toInt - lo).toNat]? with
    | none => rw [ho] at h4; cases h4
    | some off =>
      rw [ho] at h4
      exact lv_tableIn cx.1 cx.2.1 hd (by omega) (by omega) ho (Option.some.inj h4) (kc _ x _ hv rfl rfl H locs ls hP hS hL)
theorem hg_iret (cx : hg_Cx E p s m args meth c cc nL own (some .int)) {lv : List (Option Value)} {post : Option Value → hg_Mem → Prop} {x : Int32} (hd : decode cc pc = .ok (.ireturn, 1)) (hq : post (some (.int x)) σ) : hg_G E p l e R s m args below meth c nL (MQ below (hg_Qc E post) args s 0 0 (hg_AW E)) σ pc lv [.int x] := by
  intro H locs ls hP hS hL; have hlk := cx.2.2.2.2.2.2.2; exact W.iret cx.1 cx.2.1 cx.2.2.2.2.2.2.1 (fun t ht hW => ⟨_, σ, rfl, hq, by rw [ht]; exact hP, hS.F ht⟩) hS.2.2 hd hlk
theorem hg_zret (cx : hg_Cx E p s m args meth c cc nL own (some .boolean)) {lv : List (Option Value)} {post : Option Value → hg_Mem → Prop} {x : Int32} (hn : narrow .boolean (.int x) = .int x) (hd : decode cc pc = .ok (.ireturn, 1)) (hq : post (some (.int x)) σ) : hg_G E p l e R s m args below meth c nL (MQ below (hg_Qc E post) args s 0 0 (hg_AW E)) σ pc lv [.int x] := by
  intro H locs ls hP hS hL; have hlk := cx.2.2.2.2.2.2.2; exact W.zret cx.1 cx.2.1 cx.2.2.2.2.2.2.1 hn (fun t ht hW => ⟨_, σ, rfl, hq, by rw [ht]; exact hP, hS.F ht⟩) hS.2.2 hd hlk
theorem hg_cret (cx : hg_Cx E p s m args meth c cc nL own (some .char)) {lv : List (Option Value)} {post : Option Value → hg_Mem → Prop} {x : Int32} (hn : narrow .char (.int x) = .int x) (hd : decode cc pc = .ok (.ireturn, 1)) (hq : post (some (.int x)) σ) : hg_G E p l e R s m args below meth c nL (MQ below (hg_Qc E post) args s 0 0 (hg_AW E)) σ pc lv [.int x] := by
  intro H locs ls hP hS hL; have hlk := cx.2.2.2.2.2.2.2; exact W.zret cx.1 cx.2.1 cx.2.2.2.2.2.2.1 hn (fun t ht hW => ⟨_, σ, rfl, hq, by rw [ht]; exact hP, hS.F ht⟩) hS.2.2 hd hlk
theorem hg_bret (cx : hg_Cx E p s m args meth c cc nL own (some .byte)) {lv : List (Option Value)} {post : Option Value → hg_Mem → Prop} {x : Int32} (hn : narrow .byte (.int x) = .int x) (hd : decode cc pc = .ok (.ireturn, 1)) (hq : post (some (.int x)) σ) : hg_G E p l e R s m args below meth c nL (MQ below (hg_Qc E post) args s 0 0 (hg_AW E)) σ pc lv [.int x] := by
  intro H locs ls hP hS hL; have hlk := cx.2.2.2.2.2.2.2; exact W.zret cx.1 cx.2.1 cx.2.2.2.2.2.2.1 hn (fun t ht hW => ⟨_, σ, rfl, hq, by rw [ht]; exact hP, hS.F ht⟩) hS.2.2 hd hlk
theorem hg_lret (cx : hg_Cx E p s m args meth c cc nL own (some .long)) {lv : List (Option Value)} {post : Option Value → hg_Mem → Prop} {x : Int64} (hd : decode cc pc = .ok (.lreturn, 1)) (hq : post (some (.long x)) σ) : hg_G E p l e R s m args below meth c nL (MQ below (hg_Qc E post) args s 0 0 (hg_AW E)) σ pc lv [.long x] := by
  intro H locs ls hP hS hL; have hlk := cx.2.2.2.2.2.2.2; exact W.lret cx.1 cx.2.1 cx.2.2.2.2.2.2.1 (fun t ht hW => ⟨_, σ, rfl, hq, by rw [ht]; exact hP, hS.F ht⟩) hS.2.2 hd hlk
theorem hg_vret (cx : hg_Cx E p s m args meth c cc nL own (none)) {lv : List (Option Value)} {post : Option Value → hg_Mem → Prop}  (hd : decode cc pc = .ok (.return_, 1)) (hq : post (none) σ) : hg_G E p l e R s m args below meth c nL (MQ below (hg_Qc E post) args s 0 0 (hg_AW E)) σ pc lv [] := by
  intro H locs ls hP hS hL; have hlk := cx.2.2.2.2.2.2.2; exact W.vret cx.1 cx.2.1 cx.2.2.2.2.2.2.1 (fun t ht hW => ⟨_, σ, rfl, hq, by rw [ht]; exact hP, hS.F ht⟩) hS.2.2 hd hlk
theorem hg_aret {cn : String} (cx : hg_Cx E p s m args meth c cc nL own (some (.object cn))) {lv : List (Option Value)} {post : Option Value → hg_Mem → Prop} {x : Nat} (hd : decode cc pc = .ok (.areturn, 1)) (hq : post (some (.ref x)) σ) : hg_G E p l e R s m args below meth c nL (MQ below (hg_Qc E post) args s 0 0 (hg_AW E)) σ pc lv [.ref x] := by
  intro H locs ls hP hS hL; have hlk := cx.2.2.2.2.2.2.2; exact W.aret cx.1 cx.2.1 cx.2.2.2.2.2.2.1 (Or.inl ⟨_, rfl⟩) (Or.inr ⟨_, rfl⟩) (fun t ht hW => ⟨_, σ, rfl, hq, by rw [ht]; exact hP, hS.F ht⟩) hS.2.2 hd hlk
theorem hg_get (cx : hg_Cx E p s m args meth c cc nL own ret) {lv : List (Option Value)} {i : Nat} {ref C : String} {T : u_T} {N ci idx : Nat} {fs : List Value} (hi : i < 60) (he : hg_ce E i (σ.1 i) (σ.2 i) = .inr (ci, fs)) (hin : ∀ w ∈ u_ws C T N, w ∈ hg_U) (hc : vwCl[ci]? = some (C, T, N)) (k : Nat) (hk : k < N) (hr : ref = (T k).1) (hlink : Cond.fieldLink own idx ref (T k).2.1 (T k).2.2.1 ∈ hg_U) {v : Value} (hv : fs[k]? = some v) (hd : decode cc pc = .ok (.getfield idx, 3)) (hp : pc + 3 = pc') (kk : hg_G E p l e R s m args below meth c nL Q σ pc' lv (v :: st)) : hg_G E p l e R s m args below meth c nL Q σ pc lv (.ref (hg_ad E i) :: st) := by
  subst hp; subst hr; intro H locs ls hP hS hL; exact va_get cx.1 cx.2.1 cx.2.2.2.2.1 hin cx.2.2.2.1 cx.2.2.2.2.2.1.1 hP i ((hg_wl_at E σ hi).trans (by rw [he])) hc k hk (cx.2.2.2.2.1 _ hlink) (fun _ h => h) hv hd (kk H locs ls hP hS hL)
theorem hg_put (cx : hg_Cx E p s m args meth c cc nL own ret) {lv : List (Option Value)} {i : Nat} {ref C : String} {T : u_T} {N ci idx : Nat} {fs : List Value} {x : Int32} (hi : i < 60) (he : hg_ce E i (σ.1 i) (σ.2 i) = .inr (ci, fs)) (hin : ∀ w ∈ u_ws C T N, w ∈ hg_U) (ty0 : Nat → FieldType) (hty : ∀ k, k < N → parseFieldDescriptor (T k).2.2.1 = some (ty0 k)) (hnm : ∀ a, a < N → ∀ b, b < N → a ≠ b → (T a).2.1 ≠ (T b).2.1) (hc : vwCl[ci]? = some (C, T, N)) (k : Nat) (hk : k < N) (hr : ref = (T k).1) (hlink : Cond.fieldLink own idx ref (T k).2.1 (T k).2.2.1 ∈ hg_U) (hfin : (T k).2.2.2 = false) {ty : FieldType} (hdd : parseFieldDescriptor (T k).2.2.1 = some ty) (hn : narrow ty (.int x) = .int x) (hfit : fits ty (.int x) = true) (hl : k < fs.length) (he' : hg_ce E i (va_up (σ.1 i) k x) (σ.2 i) = .inr (ci, fs.set k (.int x))) (hd : decode cc pc = .ok (.putfield idx, 3)) (hp : pc + 3 = pc') (kk : hg_G E p l e R s m args below meth c nL Q (hg_sI σ i k x) pc' lv st) : hg_G E p l e R s m args below meth c nL Q σ pc lv (.int x :: .ref (hg_ad E i) :: st) := by
  subst hp; subst hr; intro H locs ls hP hS hL
  refine va_put cx.1 cx.2.1 cx.2.2.2.2.1 hin ty0 hty hnm cx.2.2.2.1 cx.2.2.2.2.2.1.1 hP (hg_wl_D cx.2.2.2.2.2.1.2.1 σ) hS i ((hg_wl_at E σ hi).trans (by rw [he])) hc k hk (cx.2.2.2.2.1 _ hlink) (fun _ h => h) hfin hdd hn hfit hl hd (fun H1 locs1 hP1 hD1 hS1 => kk H1 locs1 ls ?_ hS1 hL)
  rw [hg_wl_set E σ (hg_sI σ i k x) i (by rw [← he']; simp [hg_sI, va_up]) (fun j hj => by simp [hg_sI, va_up, hj]) (fun j hj => rfl)] at hP1
  exact hP1
theorem hg_iald (cx : hg_Cx E p s m args meth c cc nL own ret) {lv : List (Option Value)} {i n : Nat} {x : Int32} {f : Nat → Int32} (hi : i < 60) (he : hg_ce E i (σ.1 i) (σ.2 i) = .inl (hg_cA E 0, n, .inl f)) (hin : vp_in x n) (hd : decode cc pc = .ok (.iaload, 1)) (hp : pc + 1 = pc') (kk : hg_G E p l e R s m args below meth c nL Q σ pc' lv (.int (f x.toNatClampNeg) :: st)) : hg_G E p l e R s m args below meth c nL Q σ pc lv (.int x :: .ref (hg_ad E i) :: st) := by
  subst hp; intro H locs ls hP hS hL; exact va_iald cx.1 cx.2.1 cx.2.2.2.2.2.1.1 hP i 0 ((hg_wl_at E σ hi).trans (by rw [he])) rfl hin hd (kk H locs ls hP hS hL)
theorem hg_lald (cx : hg_Cx E p s m args meth c cc nL own ret) {lv : List (Option Value)} {i n : Nat} {x : Int32} {f : Nat → Int64} (hi : i < 60) (he : hg_ce E i (σ.1 i) (σ.2 i) = .inl (hg_cA E 1, n, .inr (.inl f))) (hin : vp_in x n) (hd : decode cc pc = .ok (.laload, 1)) (hp : pc + 1 = pc') (kk : hg_G E p l e R s m args below meth c nL Q σ pc' lv (.long (f x.toNatClampNeg) :: st)) : hg_G E p l e R s m args below meth c nL Q σ pc lv (.int x :: .ref (hg_ad E i) :: st) := by
  subst hp; intro H locs ls hP hS hL; exact va_lald cx.1 cx.2.1 cx.2.2.2.2.2.1.1 hP i 1 ((hg_wl_at E σ hi).trans (by rw [he])) rfl hin hd (kk H locs ls hP hS hL)
theorem hg_aald (cx : hg_Cx E p s m args meth c cc nL own ret) {lv : List (Option Value)} {i n t0 : Nat} {x : Int32} {cA : ClassId} {Cn : String} {f : Nat → Option Nat} {a : Nat} (hi : i < 60) (he : hg_ce E i (σ.1 i) (σ.2 i) = .inl (cA, n, .inr (.inr (.inr (.inr f))))) (ht : (hg_tys E)[t0]? = some (cA, .object Cn)) (hin : vp_in x n) (ha : f x.toNatClampNeg = some a) (hd : decode cc pc = .ok (.aaload, 1)) (hp : pc + 1 = pc') (kk : hg_G E p l e R s m args below meth c nL Q σ pc' lv (.ref a :: st)) : hg_G E p l e R s m args below meth c nL Q σ pc lv (.int x :: .ref (hg_ad E i) :: st) := by
  subst hp; intro H locs ls hP hS hL; exact va_aldq cx.1 cx.2.1 cx.2.2.2.2.2.1.1 hP i t0 ((hg_wl_at E σ hi).trans (by rw [he])) ht hin hd (by rw [ha]; exact kk H locs ls hP hS hL)
theorem hg_iast (cx : hg_Cx E p s m args meth c cc nL own ret) {lv : List (Option Value)} {i n : Nat} {x y : Int32} {f : Nat → Int32} (hi : i < 60) (he : hg_ce E i (σ.1 i) (σ.2 i) = .inl (hg_cA E 0, n, .inl f)) (hin : vp_in x n) (he' : hg_ce E i (va_up (σ.1 i) x.toNatClampNeg y) (σ.2 i) = .inl (hg_cA E 0, n, .inl (upd f x.toNatClampNeg y))) (hd : decode cc pc = .ok (.iastore, 1)) (hp : pc + 1 = pc') (kk : hg_G E p l e R s m args below meth c nL Q (hg_sI σ i x.toNatClampNeg y) pc' lv st) : hg_G E p l e R s m args below meth c nL Q σ pc lv (.int y :: .int x :: .ref (hg_ad E i) :: st) := by
  subst hp; intro H locs ls hP hS hL
  refine va_iast cx.1 cx.2.1 cx.2.2.2.2.2.1.1 hP (hg_wl_D cx.2.2.2.2.2.1.2.1 σ) hS i 0 ((hg_wl_at E σ hi).trans (by rw [he])) rfl hin hd (fun H1 locs1 hP1 hD1 hS1 => kk H1 locs1 ls ?_ hS1 hL)
  rw [hg_wl_set E σ (hg_sI σ i x.toNatClampNeg y) i (by rw [← he']; simp [hg_sI, va_up]) (fun j hj => by simp [hg_sI, va_up, hj]) (fun j hj => rfl)] at hP1
  exact hP1
theorem hg_last (cx : hg_Cx E p s m args meth c cc nL own ret) {lv : List (Option Value)} {i n : Nat} {x : Int32} {y : Int64} {f : Nat → Int64} (hi : i < 60) (he : hg_ce E i (σ.1 i) (σ.2 i) = .inl (hg_cA E 1, n, .inr (.inl f))) (hin : vp_in x n) (he' : hg_ce E i (σ.1 i) (va_up (σ.2 i) x.toNatClampNeg y) = .inl (hg_cA E 1, n, .inr (.inl (vp_updL f x.toNatClampNeg y)))) (hd : decode cc pc = .ok (.lastore, 1)) (hp : pc + 1 = pc') (kk : hg_G E p l e R s m args below meth c nL Q (hg_sL σ i x.toNatClampNeg y) pc' lv st) : hg_G E p l e R s m args below meth c nL Q σ pc lv (.long y :: .int x :: .ref (hg_ad E i) :: st) := by
  subst hp; intro H locs ls hP hS hL
  refine va_last cx.1 cx.2.1 cx.2.2.2.2.2.1.1 hP (hg_wl_D cx.2.2.2.2.2.1.2.1 σ) hS i 1 ((hg_wl_at E σ hi).trans (by rw [he])) rfl hin hd (fun H1 locs1 hP1 hD1 hS1 => kk H1 locs1 ls ?_ hS1 hL)
  rw [hg_wl_set E σ (hg_sL σ i x.toNatClampNeg y) i (by rw [← he']; simp [hg_sL, va_up]) (fun j hj => rfl) (fun j hj => by simp [hg_sL, va_up, hj])] at hP1
  exact hP1
theorem hg_alen (cx : hg_Cx E p s m args meth c cc nL own ret) {lv : List (Option Value)} {i t0 : Nat} {cA : ClassId} {x : vp_A} {ty : FieldType} {v : Int32} (hi : i < 60) (he : hg_ce E i (σ.1 i) (σ.2 i) = .inl (cA, x)) (ht : (hg_tys E)[t0]? = some (cA, ty)) (hv : Int32.ofNat x.1 = v) (hd : decode cc pc = .ok (.arraylength, 1)) (hp : pc + 1 = pc') (kk : hg_G E p l e R s m args below meth c nL Q σ pc' lv (.int v :: st)) : hg_G E p l e R s m args below meth c nL Q σ pc lv (.ref (hg_ad E i) :: st) := by
  subst hp; intro H locs ls hP hS hL; exact va_alen cx.1 cx.2.1 cx.2.2.2.2.2.1.1 hP i t0 ((hg_wl_at E σ hi).trans (by rw [he])) ht hv hd (kk H locs ls hP hS hL)
theorem hg_run {post : Option Value → hg_Mem → Prop} {lv : List (Option Value)} {st0 : List Value} {av : Array Value} (cx : hg_Cx E p s m args meth c cc nL own ret)
    (hr : ∀ (H : Heap) (locs : List Loc) (ls : Array Slot), va_P E.1 vwCl (hg_wl E σ) H → va_S (hg_AW E) s.heap H locs → hg_LV ls nL lv → va_Run p l e R s m args below meth c H locs 0 0 0 0 (F0 m pc ls st0) st (hg_Qc E post av) (hg_AW E)) (hp : pc + 3 = pc')
    (kk : ∀ v τ, post v τ → hg_G E p l e R s m args below meth c nL Q τ pc' lv (v.toList ++ st)) : hg_G E p l e R s m args below meth c nL Q σ pc lv st0 := by
  subst hp; intro H locs ls hP hS hL T hT X
  obtain ⟨v, st₀, t, T', L, h0, X', hL', e1, e2, ⟨v', τ, hv, hpost, hP', hz, hk⟩, go⟩ := hr H locs ls hP hS hL T hT X
  cases hv
  rw [h0] at hz hk
  obtain ⟨t2, a1, b1⟩ := kk v τ hpost T'.heap (locs ++ L) ls (by rw [e1]; exact hP') ⟨Nat.le_trans hS.1 (by rw [e1]; exact hz), fun q h1 h2 => by rw [e1, hk q (Nat.lt_of_lt_of_le h1 hS.1) h2]; exact hS.2.1 q h1 h2, fun q hq => by
    rcases List.mem_append.mp hq with h | h
    · exact hS.2.2 q h
    · exact hL' q h⟩ hL T' rfl X'
  exact ⟨t2, go t2 a1, b1⟩
theorem hg_pre (hK : hg_KW E s) {H : Heap} {locs : List Loc} (hP : va_P E.1 vwCl (hg_wl E σ) H) (hS : va_S (hg_AW E) s.heap H locs) {av : List Value} : PreS s H (va_Pc av (fun U => va_P E.1 vwCl (hg_wl E σ) U.heap ∧ hg_KW E U)) av :=
  ⟨fun a U g mk q => ⟨q.1, q.2.1, q.2.2.calling⟩, fun U hU hW => ⟨rfl, by rw [hU]; exact hP, hK.warm hW (fun a h1 h2 => by rw [hU]; exact hS.2.1 a h1 h2)⟩⟩
theorem hg_cb {idx maxL n : Nat} {y : MethodName} {bytes : ByteArray} {ry : Option FieldType} {rm : Room} (hts : ∀ w ∈ hg_U, w.before args s = true) (lk : hg_Lk own idx y bytes maxL ry n) (hrm : rm.cells = 0 ∧ rm.slots = 0 ∧ rm.frames + 1 ≤ R.frames ∧ 8 + (maxL + 11) + rm.locals ≤ R.locals) : CallB R s args own idx y bytes maxL ry (hg_wU y bytes maxL ry) rm 0 0 n :=
  callB_of n hts (hg_goodIn lk.2.1) rfl hrm.1 hrm.2.1 (hts _ lk.2.2.1) (hts _ lk.1) lk.2.2.2 hrm.2.2
theorem hg_callV {idx maxL n i ci : Nat} {y : MethodName} {bytes : ByteArray} {ry : Option FieldType} {rm : Room} {post : Option Value → hg_Mem → Prop} {lv : List (Option Value)} {As : List Value} {st0 : List Value} {fs : List Value} {rc : vw_C} (cx : hg_Cx E p s m args meth c cc nL own ret) (lk : hg_Lk own idx y bytes maxL ry n) (hse : Cond.instanceMethod y ∈ hg_U ∧ Cond.selects y.cls y y ∈ hg_U)
    (K : hg_C l E y bytes maxL ry rm (.ref (hg_ad E i) :: As) σ post) (hrm : rm.cells = 0 ∧ rm.slots = 0 ∧ rm.frames + 1 ≤ R.frames ∧ 8 + (maxL + 11) + rm.locals ≤ R.locals) (hi : i < 60) (he : hg_ce E i (σ.1 i) (σ.2 i) = .inr (ci, fs)) (hc : vwCl[ci]? = some rc) (hn : rc.1 = y.cls) (hlen : As.length = n) (hst : st0 = As.reverse ++ .ref (hg_ad E i) :: st) (hcat : (st.map fun v => v.category).sum ≤ 8)
    (hd : decode cc pc = .ok (.invokevirtual idx, 3)) (hp : pc + 3 = pc') (kk : ∀ v τ, post v τ → hg_G E p l e R s m args below meth c nL Q τ pc' lv (v.toList ++ st)) : hg_G E p l e R s m args below meth c nL Q σ pc lv st0 := by
  refine hg_run (av := (Value.ref (hg_ad E i) :: As).toArray) cx (fun H locs ls hP hS hL => ?_) hp kk
  have hpre := hg_pre cx.2.2.2.2.2.1 hP hS (av := .ref (hg_ad E i) :: As)
  have hrecv := va_recv cx.2.2.2.2.2.1.1 hP hc ((hg_wl_at E σ hi).trans (by rw [he]))
  rw [hn] at hrecv
  exact va_runV (C := y.cls) ⟨cx.1, cx.2.1, cx.2.2.1, cx.2.2.2.1, cx.2.2.2.2.1⟩ K ⟨hg_cb cx.2.2.2.2.1 lk hrm, cx.2.2.2.2.1 _ hse.1, cx.2.2.2.2.1 _ hse.2⟩ ⟨hpre.1, hrecv, hpre.2⟩ rfl hlen hL.1 hst (lv_room hcat) hd ⟨Nat.zero_le _, Nat.zero_le _⟩
theorem hg_callS {idx maxL n : Nat} {y : MethodName} {bytes : ByteArray} {ry : Option FieldType} {rm : Room} {post : Option Value → hg_Mem → Prop} {lv : List (Option Value)} {As : List Value} {st0 : List Value} (cx : hg_Cx E p s m args meth c cc nL own ret) (lk : hg_Lk own idx y bytes maxL ry n) (hse : Cond.static y ∈ hg_U)
    (K : hg_C l E y bytes maxL ry rm As σ post) (hrm : rm.cells = 0 ∧ rm.slots = 0 ∧ rm.frames + 1 ≤ R.frames ∧ 8 + (maxL + 11) + rm.locals ≤ R.locals) (hlen : As.length = n) (hst : st0 = As.reverse ++ st) (hcat : (st.map fun v => v.category).sum ≤ 8)
    (hd : decode cc pc = .ok (.invokestatic idx, 3)) (hp : pc + 3 = pc') (kk : ∀ v τ, post v τ → hg_G E p l e R s m args below meth c nL Q τ pc' lv (v.toList ++ st)) : hg_G E p l e R s m args below meth c nL Q σ pc lv st0 := by
  refine hg_run (av := As.toArray) cx (fun H locs ls hP hS hL => ?_) hp kk
  exact va_runS ⟨cx.1, cx.2.1, cx.2.2.1, cx.2.2.2.1, cx.2.2.2.2.1⟩ K ⟨hg_cb cx.2.2.2.2.1 lk hrm, cx.2.2.2.2.1 _ hse⟩ (hg_pre cx.2.2.2.2.2.1 hP hS) rfl hlen hL.1 hst (lv_room hcat) hd ⟨Nat.zero_le _, Nat.zero_le _⟩
theorem hg_callSN {idx maxL n : Nat} {y : MethodName} {bytes : ByteArray} {ry : Option FieldType} {rm : Room} {host : String} {post : Option Value → hg_Mem → Prop} {lv : List (Option Value)} {As : List Value} {st0 : List Value} (cx : hg_Cx E p s m args meth c cc nL own ret) (lk : hg_LkN own idx y bytes maxL ry n host) (hse : Cond.static y ∈ hg_U)
    (K : hg_C l E y bytes maxL ry rm As σ post) (hrm : rm.cells = 0 ∧ rm.slots = 0 ∧ rm.frames + 1 ≤ R.frames ∧ 8 + (maxL + 11) + rm.locals ≤ R.locals) (hlen : As.length = n) (hst : st0 = As.reverse ++ st) (hcat : (st.map fun v => v.category).sum ≤ 8)
    (hd : decode cc pc = .ok (.invokestatic idx, 3)) (hp : pc + 3 = pc') (kk : ∀ v τ, post v τ → hg_G E p l e R s m args below meth c nL Q τ pc' lv (v.toList ++ st)) : hg_G E p l e R s m args below meth c nL Q σ pc lv st0 := by
  refine hg_run (av := As.toArray) cx (fun H locs ls hP hS hL => ?_) hp kk
  exact va_runSN ⟨cx.1, cx.2.1, cx.2.2.1, cx.2.2.2.1, cx.2.2.2.2.1⟩ K ⟨va_cnB n cx.2.2.2.2.1 (hg_goodIn lk.2.1) rfl hrm.1 hrm.2.1 (cx.2.2.2.2.2.1.2.2.2.2 _ lk.1) (cx.2.2.2.2.1 _ lk.2.2.1) lk.2.2.2 hrm.2.2, cx.2.2.2.2.1 _ hse, trivial⟩ (hg_pre cx.2.2.2.2.2.1 hP hS) rfl hlen hL.1 hst (lv_room hcat) hd ⟨Nat.zero_le _, Nat.zero_le _⟩
end HGR
/-- the posts by kind of answer -/
theorem hg_kI {P : Option Value → hg_Mem → Prop} {f : Int32 → hg_Mem → Prop} (h : ∀ r τ, f r τ → P (some (.int r)) τ) : ∀ v τ, hg_pi f v τ → P v τ := fun _ τ ⟨r, e, hf⟩ => e ▸ h r τ hf
theorem hg_kL {P : Option Value → hg_Mem → Prop} {f : Int64 → hg_Mem → Prop} (h : ∀ r τ, f r τ → P (some (.long r)) τ) : ∀ v τ, hg_pl f v τ → P v τ := fun _ τ ⟨r, e, hf⟩ => e ▸ h r τ hf
theorem hg_kR {P : Option Value → hg_Mem → Prop} {f : Nat → hg_Mem → Prop} (h : ∀ r τ, f r τ → P (some (.ref r)) τ) : ∀ v τ, hg_pr f v τ → P v τ := fun _ τ ⟨r, e, hf⟩ => e ▸ h r τ hf
theorem hg_kV {P : Option Value → hg_Mem → Prop} {f : hg_Mem → Prop} (h : ∀ τ, f τ → P none τ) : ∀ v τ, hg_pv f v τ → P v τ := fun _ τ ⟨e, hf⟩ => e ▸ h τ hf
theorem hg_LVof (av : List Value) {nL : Nat} {lv : List (Option Value)} (hl : hg_lvs av nL = lv) (hlen : lv.length = nL) (hle : (lg_sl av).length ≤ nL) (hm : ∀ (i : Nat) (v : Value), lv[i]? = some (some v) → (i, v) ∈ lv_args 0 av) : hg_LV ((lg_sl av ++ List.replicate (nL - (lg_sl av).length) Slot.unset).toArray) nL lv := by
  have h := lv_entry av (n := nL) hle
  exact ⟨h.1, hlen, h.2.1, fun i v hv => h.2.2 (i, v) (hm i v hv)⟩
theorem hg_lvs_args (av : List Value) : ∀ (k i : Nat) (v : Value), (av.flatMap (fun v => if v.category = 2 then [some v, none] else [some v]))[i]? = some (some v) → (k + i, v) ∈ lv_args k av := by
  induction av with
  | nil => intro k i v h; simp at h
  | cons w av ih =>
    intro k i v h
    rw [List.flatMap_cons] at h
    by_cases hc : w.category = 2
    · rw [if_pos hc] at h
      simp only [lv_args, hc, if_true]
      match i, h with
      | 0, h => simp at h; subst h; exact List.mem_cons_self
      | 1, h => simp at h
      | i + 2, h =>
        have h2 := ih (k + 2) i v (by simpa using h)
        exact List.mem_cons_of_mem _ (by rw [show k + (i + 2) = k + 2 + i by omega]; exact h2)
    · rw [if_neg hc] at h
      simp only [lv_args, hc, if_false]
      match i, h with
      | 0, h => simp at h; subst h; exact List.mem_cons_self
      | i + 1, h =>
        have h2 := ih (k + 1) i v (by simpa using h)
        exact List.mem_cons_of_mem _ (by rw [show k + (i + 1) = k + 1 + i by omega]; exact h2)
theorem hg_sl_len (av : List Value) : (lg_sl av).length = (av.flatMap (fun v => if v.category = 2 then [some v, none] else [some v])).length := by
  induction av with
  | nil => rfl
  | cons w av ih =>
    unfold lg_sl at ih ⊢
    rw [List.flatMap_cons, List.flatMap_cons, List.length_append, List.length_append, ih]
    congr 1
    by_cases hc : w.category = 2
    · simp [hc]
    · simp [hc]
/-- a contract out of its walk -/
theorem hg_intro {l : Launch} {E : hg_Wd} {y : MethodName} {cc : ByteArray} {nL : Nat} {ret : Option FieldType} {rm : Room} {av : List Value} {σ : hg_Mem} {post : Option Value → hg_Mem → Prop} (hy : plainName y.cls = true) (lv : List (Option Value)) (hlv : hg_lvs av nL = lv) (hle : (lg_sl av).length ≤ nL)
    (body : ∀ (p : Program) (e : Env) (s : State) (m : MethodId) (args : Array Value) (below : List Frame) (meth : Method) (c : Code), hg_Cx E p s m args meth c cc nL y.cls ret → hg_G E p l e rm s m args below meth c nL (MQ below (hg_Qc E post) args s 0 0 (hg_AW E)) σ 0 lv []) : hg_C l E y cc nL ret rm av σ post := by
  refine Met.ofW (cc := cc) (maxL := nL) (ret := ret) hy rfl ?_
  intro p e s m args below meth c s₁ B hml hv
  obtain ⟨rfl, hP, hK⟩ := hv
  have hts := atoms_spec (ws := hg_wU y cc nL ret) B.pre
  have hown : s.vm.findClass y.cls = some m.cls := findClass_of_methodNamed B.named
  rw [lg_entry_eq]
  subst hlv
  have hlen : (hg_lvs av nL).length = nL := by
    have h1 := hg_sl_len av
    unfold hg_lvs
    rw [List.length_append, List.length_replicate, ← h1]
    omega
  refine body p e s m _ below meth c ⟨B.exec, B.bytes, hml, hown, fun w hw => hts w (List.mem_cons_of_mem _ hw), hK, B.returns, B.notSynchronized⟩ s.heap [] _ hP va_S.rf (hg_LVof av rfl hlen hle (fun i v h => ?_))
  unfold hg_lvs at h
  rcases Nat.lt_or_ge i (av.flatMap (fun v : Value => if v.category = 2 then [some v, none] else [some v])).length with q | q
  · rw [List.getElem?_append_left q] at h
    have h2 := hg_lvs_args av 0 i v h
    rwa [Nat.zero_add] at h2
  · rw [List.getElem?_append_right q] at h
    have h3 := List.eq_of_mem_replicate (List.mem_of_getElem? h)
    cases h3
/-- loops: a measure that falls -/
theorem hg_loop {α : Type} {P : α → Prop} {I : α → Prop} (μ : α → Nat) (h : ∀ x, I x → (∀ y, I y → μ y < μ x → P y) → P x) : ∀ x, I x → P x := by
  have aux : ∀ n x, μ x ≤ n → I x → P x := by
    intro n
    induction n with
    | zero => exact fun x hn hI => h x hI (fun y _ hy => absurd hy (by omega))
    | succ n ih => exact fun x hn hI => h x hI (fun y hIy hy => ih y (by omega) hIy)
  exact fun x hI => aux (μ x) x (Nat.le_refl _) hI

