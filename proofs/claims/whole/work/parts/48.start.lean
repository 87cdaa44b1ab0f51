def R_law : String := "HatCongressLaw"
def lw_P (b : Addr) (xs : List Int32) (args : Array Value) (s : State) : Prop := args = #[.ref b] ∧ s.IntsAt b xs ∧ xs.length ≤ 3072 ∧ (Jvm.Cond.and given_1 narrow_1).before args s = true
def lw_Q (_ : Array Value) (s : State) (o : Outcome) (t : State) : Prop := o = .returned (some (.int 1)) ∧ Framed s o t [] 600000 7302250
def lw_Z (below : List Frame) (a : Array Value) (s : State) : State → Prop := fun t => ∃ o, t.status = .running ∧ Ended t below o ∧ lw_Q a s o t
/-- the law's own end, with 1 on the stack, nothing written that was there before, its room as the claim has it -/
theorem lw_ret {p : Program} {l : Launch} {e : Env} {s : State} {m : MethodId} {below : List Frame} {meth : Method} {c : Code} {b : Nat} (hx : p.tables.exec = Jvm.exec) (hb : c.code = code) (hr : meth.sig.returnType = ret) (hlocks : meth.locks = false) {pc : Nat} {H : Heap} {ls : Array Slot} (hdg : decode code pc = .ok (.ireturn, 1)) : W p l e room_1 s m #[Value.ref b] below meth c H [] 600000 7302250 (lw_Z below #[Value.ref b] s) (F0 m pc ls [.int 1]) := by
  intro T hT X
  obtain ⟨fs, hret, hrun, hended, hW, hframe⟩ := X.leave (v := some (.int 1)) (hlocks := hlocks) (fun h => by rw [hr] at h; cases h)
  have hmeth' : T.vm.method? m = some meth := X.method'
  refine ⟨T.setFrames fs, ?_, .returned (some (.int 1)), hrun, hended, rfl, ⟨_, rfl⟩, hW, hframe⟩
  jvm_step X.here [X.here.top, hx, hb, hdg, hmeth', hr, ret, narrow_b1]
  (try refine ⟨rfl, ?_⟩); (try refine ⟨rfl, ?_⟩)
  first | (intro acts; rw [hret _ acts rfl rfl rfl]) | rw [hret _ _ rfl rfl rfl]
  exact Steps.refl _
/-- what holds at the law's entry: the machine, the code, the tables' words (any of lw_tbl by 'hts w (by decide +kernel)'), the script of L ints xs at the cell b, what the Statement gives of the start (any of its parts by flat_of_before) -/
def lw_At (p : Program) (s : State) (m : MethodId) (meth : Method) (c : Code) (b L : Nat) (xs : Nat → Int32) : Prop :=
  p.tables.exec = Jvm.exec ∧ c.code = code ∧ meth.sig.returnType = ret ∧ c.maxLocals = 4 ∧ s.vm.findClass R_law = some m.cls ∧ (∀ w ∈ lw_tbl, w.before #[Value.ref b] s = true) ∧ va_X b L xs s s.heap ∧ b < s.heap.size ∧ meth.locks = false ∧ (Jvm.Cond.and given_1 narrow_1).before #[Value.ref b] s = true
section LOOP
variable {E : hg_Wd} {p : Program} {l : Launch} {e : Env} {s : State} {m : MethodId} {args : Array Value} {below : List Frame} {meth : Method} {c : Code} {Q : State → Prop} {b L : Nat} {xs : Nat → Int32}
set_option maxHeartbeats 4000000 in
set_option maxRecDepth 100000 in
theorem lw_loop (cx : hl_Cx E p s m args c b L xs) (hL : L ≤ 3072) (kx : ∀ (τ : hg_Mem) (i : Nat), gg_G (hl_P E τ) (hg_AW E) 60 1091 p l e room_1 s m args below meth c 4 Q 1230 [some (.ref b), some (.ref (hg_ad E 0)), some (.ref (hg_ad E 50)), some (.int (nI i))] []) : ∀ z : hg_Mem × sp_S × Nat, hl_I z.1 z.2.1 ∧ z.2.2 ≤ L → gg_G (hl_P E z.1) (hg_AW E) 60 1091 p l e room_1 s m args below meth c 4 Q 18 [some (.ref b), some (.ref (hg_ad E 0)), some (.ref (hg_ad E 50)), some (.int (nI z.2.2))] [] := by
  have gx := cx.g
  refine hg_loop (fun z => L - z.2.2) ?_
  rintro ⟨σ, S, i⟩ hI ih
  dsimp only at hI ih ⊢
  have hiL := hI.2
  refine gg_iload3 (pc' := 19) gx dL_law_18 rfl ?_
  refine gg_aload0 (pc' := 20) gx dL_law_19 rfl ?_
  refine hl_slen (pc' := 21) cx dL_law_20 rfl ?_
  refine gg_bipush (pc' := 23) gx (nI 6) dL_law_21 (by decide) rfl ?_
  refine gg_isub (pc' := 24) gx dL_law_23 rfl ?_
  refine gg_icmp_gt (pc' := 27) gx 1230 dL_law_24 (by decide) rfl (fun _ => kx σ i) (fun hn => ?_)
  have hi : i + 6 ≤ L := by
    have q := Int32.not_lt.mp hn
    rw [Int32.le_iff_toInt_le, pk_sub_toInt (by omega) (by decide), nI_toInt (by omega)] at q
    omega
  have fin : ∀ (τ : hg_Mem) (S' : sp_S), hl_I τ S' → gg_G (hl_P E τ) (hg_AW E) 60 1091 p l e room_1 s m args below meth c 4 Q 1224 [some (.ref b), some (.ref (hg_ad E 0)), some (.ref (hg_ad E 50)), some (.int (nI i))] [] := by
    intro τ S' h'
    refine gg_iinc3s (pc' := 1227) gx rfl dL_law_1224 rfl ?_
    rw [show nI i + 6 = nI (i + 6) from nI_add i 6]
    refine gg_goto gx 18 dL_law_1227 (by decide) ?_
    exact ih (τ, S', i + 6) ⟨h', hi⟩ (show L - (i + 6) < L - i by omega)
  refine gg_aload0 (pc' := 28) gx dL_law_27 rfl ?_
  refine gg_iload3 (pc' := 29) gx dL_law_28 rfl ?_
  refine hl_sld (pc' := 30) cx (by omega) hL dL_law_29 rfl ?_
  refine gg_bipush (pc' := 32) gx 63 dL_law_30 (by decide) rfl ?_
  refine gg_iand (pc' := 33) gx dL_law_32 rfl ?_
  refine gg_tsw gx [0, 1, 2, 3, 4, 5, 6, 7, 8, 9, 10, 11, 12, 13, 14, 15, 16, 17, 18, 19, 20, 21, 22, 23, 24, 25, 26, 27, 28, 29, 30, 31, 32, 33, 34] [188, 221, 244, 277, 310, 343, 386, 419, 452, 475, 518, 551, 584, 597, 620, 643, 676, 709, 752, 765, 788, 811, 844, 857, 870, 913, 987, 1050, 1073, 1106, 1139, 1152, 1165, 1178, 1201] 1224 dL_law_33 (by decide) (by decide) (fun _ => fin σ S hI.1) (fun j v t hk ht _ => ?_)
  match j, hk, ht with
  | 0, hk, ht =>
    cases hk; cases ht
    exact lc_0 cx hI.1 hi hL fin
  | 1, hk, ht =>
    cases hk; cases ht
    exact lc_1 cx hI.1 hi hL fin
  | 2, hk, ht =>
    cases hk; cases ht
    exact lc_2 cx hI.1 hi hL fin
  | 3, hk, ht =>
    cases hk; cases ht
    exact lc_3 cx hI.1 hi hL fin
  | 4, hk, ht =>
    cases hk; cases ht
    exact lc_4 cx hI.1 hi hL fin
  | 5, hk, ht =>
    cases hk; cases ht
    exact lc_5 cx hI.1 hi hL fin
  | 6, hk, ht =>
    cases hk; cases ht
    exact lc_6 cx hI.1 hi hL fin
  | 7, hk, ht =>
    cases hk; cases ht
    exact lc_7 cx hI.1 hi hL fin
  | 8, hk, ht =>
    cases hk; cases ht
    exact lc_8 cx hI.1 hi hL fin
  | 9, hk, ht =>
    cases hk; cases ht
    exact lc_9 cx hI.1 hi hL fin
  | 10, hk, ht =>
    cases hk; cases ht
    exact lc_10 cx hI.1 hi hL fin
  | 11, hk, ht =>
    cases hk; cases ht
    exact lc_11 cx hI.1 hi hL fin
  | 12, hk, ht =>
    cases hk; cases ht
    exact lc_12 cx hI.1 hi hL fin
  | 13, hk, ht =>
    cases hk; cases ht
    exact lc_13 cx hI.1 hi hL fin
  | 14, hk, ht =>
    cases hk; cases ht
    exact lc_14 cx hI.1 hi hL fin
  | 15, hk, ht =>
    cases hk; cases ht
    exact lc_15 cx hI.1 hi hL fin
  | 16, hk, ht =>
    cases hk; cases ht
    exact lc_16 cx hI.1 hi hL fin
  | 17, hk, ht =>
    cases hk; cases ht
    exact lc_17 cx hI.1 hi hL fin
  | 18, hk, ht =>
    cases hk; cases ht
    exact lc_18 cx hI.1 hi hL fin
  | 19, hk, ht =>
    cases hk; cases ht
    exact lc_19 cx hI.1 hi hL fin
  | 20, hk, ht =>
    cases hk; cases ht
    exact lc_20 cx hI.1 hi hL fin
  | 21, hk, ht =>
    cases hk; cases ht
    exact lc_21 cx hI.1 hi hL fin
  | 22, hk, ht =>
    cases hk; cases ht
    exact lc_22 cx hI.1 hi hL fin
  | 23, hk, ht =>
    cases hk; cases ht
    exact lc_23 cx hI.1 hi hL fin
  | 24, hk, ht =>
    cases hk; cases ht
    exact lc_24 cx hI.1 hi hL fin
  | 25, hk, ht =>
    cases hk; cases ht
    exact lc_25 cx hI.1 hi hL fin
  | 26, hk, ht =>
    cases hk; cases ht
    exact lc_26 cx hI.1 hi hL fin
  | 27, hk, ht =>
    cases hk; cases ht
    exact lc_27 cx hI.1 hi hL fin
  | 28, hk, ht =>
    cases hk; cases ht
    exact lc_28 cx hI.1 hi hL fin
  | 29, hk, ht =>
    cases hk; cases ht
    exact lc_29 cx hI.1 hi hL fin
  | 30, hk, ht =>
    cases hk; cases ht
    exact lc_30 cx hI.1 hi hL fin
  | 31, hk, ht =>
    cases hk; cases ht
    exact lc_31 cx hI.1 hi hL fin
  | 32, hk, ht =>
    cases hk; cases ht
    exact lc_32 cx hI.1 hi hL fin
  | 33, hk, ht =>
    cases hk; cases ht
    exact lc_33 cx hI.1 hi hL fin
  | 34, hk, ht =>
    cases hk; cases ht
    exact lc_34 cx hI.1 hi hL fin
  | j + 35, hk, ht => exact absurd hk (by simp)
end LOOP
theorem nw_hU {b : Nat} {s : State} (hts : ∀ w ∈ lw_tbl, w.before #[Value.ref b] s = true) : ∀ w ∈ hg_U, w.before #[Value.ref b] s = true := fun w hw => hts w (List.mem_filter.mp hw).1
theorem nw_KA {b : Nat} {s : State} (hts : ∀ w ∈ lw_tbl, w.before #[Value.ref b] s = true) : ∃ (D : va_G) (cA : Nat → ClassId), ni_K D cA s := by
  have hU := nw_hU hts
  obtain ⟨c0, i0, k0⟩ := u_known (C := RX0) (T := TX0) (N := 5) (n := 5) hU hg_inX0 (hts _ (List.mem_of_getElem? (i := 159) (by decide +kernel)))
  obtain ⟨c1, i1, k1⟩ := u_known (C := RX1) (T := TX1) (N := 7) (n := 7) hU hg_inX1 (hts _ (List.mem_of_getElem? (i := 88) (by decide +kernel)))
  obtain ⟨c2, i2, k2⟩ := u_known (C := RX2) (T := TX2) (N := 3) (n := 3) hU hg_inX2 (hts _ (List.mem_of_getElem? (i := 200) (by decide +kernel)))
  obtain ⟨c3, i3, k3⟩ := u_known (C := RX3) (T := TX3) (N := 7) (n := 7) hU hg_inX3 (hts _ (List.mem_of_getElem? (i := 81) (by decide +kernel)))
  obtain ⟨c4, i4, k4⟩ := u_known (C := RX4) (T := TX4) (N := 2) (n := 2) hU hg_inX4 (hts _ (List.mem_of_getElem? (i := 165) (by decide +kernel)))
  obtain ⟨c5, i5, k5⟩ := u_known (C := RX5) (T := TX5) (N := 7) (n := 7) hU hg_inX5 (hts _ (List.mem_of_getElem? (i := 73) (by decide +kernel)))
  obtain ⟨c6, i6, k6⟩ := u_known (C := RX6) (T := TX6) (N := 16) (n := 16) hU hg_inX6 (hts _ (List.mem_of_getElem? (i := 704) (by decide +kernel)))
  obtain ⟨q0, w0, m0, f0, g0, h0⟩ := Cond.arrayClass_spec (args := #[Value.ref b]) (first := s) (o := none) (s := s) (idx := []) (type := .int) (hts _ (List.mem_of_getElem? (i := 180) (by decide +kernel)))
  obtain ⟨q1, w1, m1, f1, g1, h1⟩ := Cond.arrayClass_spec (args := #[Value.ref b]) (first := s) (o := none) (s := s) (idx := []) (type := .long) (hts _ (List.mem_of_getElem? (i := 218) (by decide +kernel)))
  have o2 := hts (Cond.arrayOver (.object "HatCongress$Delegate")) (List.mem_of_getElem? (i := 87) (by decide +kernel))
  have o3 := hts (Cond.arrayOver (.object "HatCongress$Sheet")) (List.mem_of_getElem? (i := 199) (by decide +kernel))
  obtain ⟨m2, q2, w2, e2, -, g2, h2, f2⟩ := Cond.arrayOver_spec (args := #[Value.ref b]) (first := s) (o := none) (s := s) (idx := []) (n := "HatCongress$Delegate") o2
  obtain ⟨m3, q3, w3, e3, -, g3, h3, f3⟩ := Cond.arrayOver_spec (args := #[Value.ref b]) (first := s) (o := none) (s := s) (idx := []) (n := "HatCongress$Sheet") o3
  refine ⟨(fun k => if k = 0 then c0 else if k = 1 then c1 else if k = 2 then c2 else if k = 3 then c3 else if k = 4 then c4 else if k = 5 then c5 else c6, fun k => if k = 0 then i0 else if k = 1 then i1 else if k = 2 then i2 else if k = 3 then i3 else if k = 4 then i4 else if k = 5 then i5 else i6), fun k => if k = 0 then q0 else if k = 1 then q1 else if k = 2 then q2 else q3, ⟨fun k q hq => ?_, fun k q hq => ?_⟩, va_AO.of o2, va_AO.of o3, fun q hq => ?_⟩
  · match k, hq with
    | 0, hq => cases hq; exact k0
    | 1, hq => cases hq; exact k1
    | 2, hq => cases hq; exact k2
    | 3, hq => cases hq; exact k3
    | 4, hq => cases hq; exact k4
    | 5, hq => cases hq; exact k5
    | 6, hq => cases hq; exact k6
    | k + 7, hq => simp [vwCl] at hq
  · match k, hq with
    | 0, hq => cases hq; exact ⟨fun n z => ⟨fun k h => (by cases h), w0, g0, m0, h0⟩, f0⟩
    | 1, hq => cases hq; exact ⟨fun n z => ⟨fun k h => (by cases h), w1, g1, m1, h1⟩, f1⟩
    | 2, hq => cases hq; exact ⟨fun n z => ⟨fun k h => (by cases h), w2, g2, m2, h2⟩, ⟨w2, m2, g2, h2, e2, f2⟩⟩
    | 3, hq => cases hq; exact ⟨fun n z => ⟨fun k h => (by cases h), w3, g3, m3, h3⟩, ⟨w3, m3, g3, h3, e3, f3⟩⟩
    | k + 4, hq => simp [ni_tys] at hq
  · simp only [hg_nests, List.mem_cons, List.not_mem_nil, or_false] at hq
    rcases hq with rfl | rfl | rfl | rfl | rfl | rfl
    · exact va_Nw.of rfl (hts _ (List.mem_of_getElem? (i := 89) (by decide +kernel)))
    · exact va_Nw.of rfl (hts _ (List.mem_of_getElem? (i := 160) (by decide +kernel)))
    · exact va_Nw.of rfl (hts _ (List.mem_of_getElem? (i := 166) (by decide +kernel)))
    · exact va_Nw.of rfl (hts _ (List.mem_of_getElem? (i := 201) (by decide +kernel)))
    · exact va_Nw.of rfl (hts _ (List.mem_of_getElem? (i := 274) (by decide +kernel)))
    · exact va_Nw.of rfl (hts _ (List.mem_of_getElem? (i := 376) (by decide +kernel)))
set_option maxHeartbeats 4000000 in
set_option maxRecDepth 100000 in
theorem whole_start {p : Program} {e : Env} {s : State} {m : MethodId} {below : List Frame} {meth : Method} {c : Code} (l : Launch) (hflags : l.flags = flags0) {b L : Nat} {xs : Nat → Int32} (hL : L ≤ 3072) (C0 : lw_At p s m meth c b L xs) : W p l e room_1 s m #[Value.ref b] below meth c s.heap [] 0 0 (lw_Z below #[Value.ref b] s) (entryFrame m ([Value.ref b] : List Value).toArray 4) := by
  obtain ⟨hx, hb, hr, hml, hown, hts, hX, hbl, hlocks, hgv⟩ := id C0
  obtain ⟨D, cA, hK⟩ := nw_KA hts
  obtain ⟨sa, z1, z2, z3, z4, z5, z6⟩ := nw_KS hts hgv
  have cx : ni_Cx D cA s.heap.size p s m #[Value.ref b] c cL_law 4 RL := ⟨hx, hb, hml, hown, nw_hU hts, hK, Nat.le_refl _⟩
  have gx := cx.g
  have G : gg_G (ni_P D s.heap.size []) (ni_A s.heap.size) 0 0 p l e room_1 s m #[Value.ref b] below meth c 4 (lw_Z below #[Value.ref b] s) 0 [some (.ref b), none, none, none] [] := by
    refine ni_new (pc' := 3) (ci := 5) (T := TX5) (N := 7) cx hg_inX5 tyX5 tyX5_ok (hg_Uin (List.mem_of_getElem? (i := 72) (by decide +kernel)) (by decide +kernel)) (hg_Uin (List.mem_of_getElem? (i := 73) (by decide +kernel)) (by decide +kernel)) (hg_Uin (List.mem_of_getElem? (i := 57) (by decide +kernel)) (by decide +kernel)) rfl [.null, .null, .null, .int 0, .null, .null, .null] (fun j hj => by rcases (show j = 0 ∨ j = 1 ∨ j = 2 ∨ j = 3 ∨ j = 4 ∨ j = 5 ∨ j = 6 by omega) with rfl | rfl | rfl | rfl | rfl | rfl | rfl <;> rfl) (Nat.le_of_ble_eq_true rfl) (Nat.le_of_ble_eq_true rfl) dL_law_0 rfl (fun x => ?_)
    refine gg_dup (pc' := 4) gx rfl dL_law_3 rfl ?_
    refine ni_call (pc' := 7) (As := []) cx (show hg_Lk RL 9 yX5_init cX5_init 2 none 0 from ⟨(hg_Uin (List.mem_of_getElem? (i := 74) (by decide +kernel)) (by decide +kernel)), (hg_Uin (List.mem_of_getElem? (i := 76) (by decide +kernel)) (by decide +kernel)), (hg_Uin (List.mem_of_getElem? (i := 57) (by decide +kernel)) (by decide +kernel)), by decide +kernel⟩) rfl (hg_Uin (List.mem_of_getElem? (i := 75) (by decide +kernel)) (by decide +kernel)) (K_X5_init l D cA s.heap.size x _) ⟨(Nat.le_of_ble_eq_true rfl), (Nat.le_of_ble_eq_true rfl)⟩ rfl rfl (Nat.le_of_ble_eq_true rfl) (Nat.le_of_ble_eq_true rfl) (Nat.le_of_ble_eq_true rfl) dL_law_4 rfl (fun ws2 hw2 => ?_)
    obtain ⟨t1, t2, t3, tp, bt, ck, sh, fo, s0, s1, s2, s3, n0', n1, n2, n3, a1, a2, a3, rfl⟩ := hw2
    refine gg_astore1 (pc' := 8) gx rfl dL_law_7 rfl ?_
    refine ni_new (pc' := 11) (ci := 6) (T := TX6) (N := 16) cx hg_inX6 tyX6 tyX6_ok (hg_Uin (List.mem_of_getElem? (i := 703) (by decide +kernel)) (by decide +kernel)) (hg_Uin (List.mem_of_getElem? (i := 704) (by decide +kernel)) (by decide +kernel)) (hg_Uin (List.mem_of_getElem? (i := 63) (by decide +kernel)) (by decide +kernel)) rfl [.null, .null, .null, .int 0, .null, .null, .null, .int 0, .int 0, .int 0, .int 0, .int 0, .int 0, .null, .null, .null] (fun j hj => by rcases (show j = 0 ∨ j = 1 ∨ j = 2 ∨ j = 3 ∨ j = 4 ∨ j = 5 ∨ j = 6 ∨ j = 7 ∨ j = 8 ∨ j = 9 ∨ j = 10 ∨ j = 11 ∨ j = 12 ∨ j = 13 ∨ j = 14 ∨ j = 15 by omega) with rfl | rfl | rfl | rfl | rfl | rfl | rfl | rfl | rfl | rfl | rfl | rfl | rfl | rfl | rfl | rfl <;> rfl) (Nat.le_of_ble_eq_true rfl) (Nat.le_of_ble_eq_true rfl) dL_law_8 rfl (fun y => ?_)
    refine gg_dup (pc' := 12) gx rfl dL_law_11 rfl ?_
    refine ni_call (pc' := 15) (As := []) cx (show hg_Lk RL 12 yX6_init cX6_init 1 none 0 from ⟨(hg_Uin (List.mem_of_getElem? (i := 705) (by decide +kernel)) (by decide +kernel)), (hg_Uin (List.mem_of_getElem? (i := 707) (by decide +kernel)) (by decide +kernel)), (hg_Uin (List.mem_of_getElem? (i := 63) (by decide +kernel)) (by decide +kernel)), by decide +kernel⟩) rfl (hg_Uin (List.mem_of_getElem? (i := 706) (by decide +kernel)) (by decide +kernel)) (K_X6_init l D cA s.heap.size y _) ⟨(Nat.le_of_ble_eq_true rfl), (Nat.le_of_ble_eq_true rfl)⟩ rfl rfl (Nat.le_of_ble_eq_true rfl) (Nat.le_of_ble_eq_true rfl) (Nat.le_of_ble_eq_true rfl) dL_law_12 rfl (fun ws2 hw2 => ?_)
    obtain ⟨r0, r1, r2, r4, r5, r6, r13, r14, r15, rfl⟩ := hw2
    refine gg_astore2 (pc' := 16) gx rfl dL_law_15 rfl ?_
    refine gg_iconst (pc' := 17) gx (nI 0) dL_law_16 (by decide) rfl ?_
    refine gg_istore3 (pc' := 18) gx rfl dL_law_17 rfl ?_
    intro H locs ls hP hS hLV
    have hW : ni_P D s.heap.size (ni_world cA x t1 t2 t3 tp bt ck sh fo s0 s1 s2 s3 n0' n1 n2 n3 a1 a2 a3 y r0 r1 r2 r4 r5 r6 r13 r14 r15) H := hP
    obtain ⟨hinj, hAW⟩ := ni_finI D cA sa x t1 t2 t3 tp bt ck sh fo s0 s1 s2 s3 n0' n1 n2 n3 a1 a2 a3 y r0 r1 r2 r4 r5 r6 r13 r14 r15 hW.2
    have hPE := ni_finP D cA sa x t1 t2 t3 tp bt ck sh fo s0 s1 s2 s3 n0' n1 n2 n3 a1 a2 a3 y r0 r1 r2 r4 r5 r6 r13 r14 r15 hW.1
    have hKW : hg_KW ((D, ni_adr x t1 t2 t3 tp bt ck sh fo s0 s1 s2 s3 n0' n1 n2 n3 a1 a2 a3 y r0 r1 r2 r4 r5 r6 r13 r14 r15, cA, sa) : hg_Wd) s := ⟨hK.1, hinj, ⟨z1.narrow hAW, z2.narrow hAW, z3.narrow hAW, z4.narrow hAW, z5.narrow hAW⟩, z6, hK.2.2.2⟩
    have hbA : ¬ hg_AW ((D, ni_adr x t1 t2 t3 tp bt ck sh fo s0 s1 s2 s3 n0' n1 n2 n3 a1 a2 a3 y r0 r1 r2 r4 r5 r6 r13 r14 r15, cA, sa) : hg_Wd) b := fun z => Nat.not_le.mpr hbl (hAW b z)
    have cl : hl_Cx ((D, ni_adr x t1 t2 t3 tp bt ck sh fo s0 s1 s2 s3 n0' n1 n2 n3 a1 a2 a3 y r0 r1 r2 r4 r5 r6 r13 r14 r15, cA, sa) : hg_Wd) p s m #[Value.ref b] c b L xs := ⟨hx, hb, hml, hown, nw_hU hts, hKW, hX, hbl, hbA⟩
    have F := lw_loop (l := l) (e := e) (below := below) (meth := meth) (Q := lw_Z below #[Value.ref b] s) cl hL (fun τ i => ?_) (ni_σ0, ni_S0, 0) ⟨⟨ni_cC0, ni_cM0, ni_vS0⟩, Nat.zero_le _⟩
    · exact va_forget (fun q hq => hS.2.2 q hq) (F H [] ls hPE ⟨hS.1, fun q h1 _ => hS.2.1 q h1 (Nat.not_le.mpr h1), fun q hq => absurd hq (by simp)⟩ hLV)
    · refine gg_iconst (pc' := 1231) cl.g 1 dL_law_1230 (by decide) rfl ?_
      intro H locs ls hP2 hS2 hLV2
      refine va_forget (fun q hq => hAW _ (hS2.2.2 q hq)) ?_
      refine W.widen (k := 600000) (n := 7302250) (Nat.le_of_ble_eq_true rfl) (Nat.le_of_ble_eq_true rfl) ?_
      exact lw_ret hx hb hr hlocks dL_law_1231
  rw [lg_entry_eq]
  refine G s.heap [] _ ⟨fun k q h => by simp at h, ⟨fun i j p q h => by simp at h, fun k q h => by simp at h⟩⟩ va_S.rf (hg_LVof [.ref b] rfl rfl (Nat.le_of_ble_eq_true rfl) (fun i v h => ?_))
  match i, h with
  | 0, h => cases h; exact List.mem_cons_self
  | 1, h => cases h
  | 2, h => cases h
  | 3, h => cases h
  | k + 4, h => simp at h
