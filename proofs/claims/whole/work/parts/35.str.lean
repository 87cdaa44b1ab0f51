def hg_sb (i j : Nat) : Int32 := (hg_sbyt.getD i []).getD j 0
def hg_sl (i : Nat) : Nat := hg_slen.getD i 0
section HGS
variable {E : hg_Wd} {p : Program} {l : Launch} {e : Env} {R : Room} {s : State} {m : MethodId} {args : Array Value} {below : List Frame} {meth : Method} {c : Code} {cc : ByteArray} {nL : Nat} {own : String} {ret : Option FieldType} {Q : State → Prop} {σ : hg_Mem} {pc pc' : Nat} {st : List Value} {lv : List (Option Value)}
theorem hg_ldcS (cx : hg_Cx E p s m args meth c cc nL RX0 ret) {i k : Nat} {tx : String} (hi : hg_stx[i]? = some (k, tx)) (hd : decode cc pc = .ok (.ldc k, 2)) (hp : pc + 2 = pc') (kk : hg_G E p l e R s m args below meth c nL Q σ pc' lv (.ref (hg_sa E (1 + i)) :: st)) : hg_G E p l e R s m args below meth c nL Q σ pc lv st := by
  subst hp; intro H locs ls hP hS hL; exact va_ldcS cx.1 cx.2.1 cx.2.2.2.1 (cx.2.2.2.2.2.1.2.2.2.1 i k tx hi) hd (kk H locs ls hP hS hL)
theorem gf_J0_9 (cx : hg_Cx E p s m args meth c cc nL RJ0 ret) {i : Nat} (h0 : 0 ≤ i) (hi : i < 14) (hd : decode cc pc = .ok (.getfield 9, 3)) (hp : pc + 3 = pc') (kk : hg_G E p l e R s m args below meth c nL Q σ pc' lv (.ref (hg_sa E (101 + i)) :: st)) : hg_G E p l e R s m args below meth c nL Q σ pc lv (.ref (hg_sa E (1 + i)) :: st) := by
  subst hp; intro H locs ls hP hS hL; exact vk_getf (o := "java/lang/String") (n := "value") (d := "[B") cx.1 cx.2.1 (cx.2.2.2.2.2.1.2.2.1.2.2.2.2.1 i hi).2.2.1 hS cx.2.2.2.1 (cx.2.2.2.2.1 _ (hg_Uin (List.mem_of_getElem? (i := 1089) (by decide +kernel)) (by decide +kernel))) (fun _ h => h) hd (kk H locs ls hP hS hL)
theorem gf_J0_15 (cx : hg_Cx E p s m args meth c cc nL RJ0 ret) {i : Nat} (h0 : 0 ≤ i) (hi : i < 14) (hd : decode cc pc = .ok (.getfield 15, 3)) (hp : pc + 3 = pc') (kk : hg_G E p l e R s m args below meth c nL Q σ pc' lv (.int 0 :: st)) : hg_G E p l e R s m args below meth c nL Q σ pc lv (.ref (hg_sa E (1 + i)) :: st) := by
  subst hp; intro H locs ls hP hS hL; exact vk_getf (o := "java/lang/String") (n := "coder") (d := "B") cx.1 cx.2.1 (cx.2.2.2.2.2.1.2.2.1.2.2.2.2.1 i hi).2.1 hS cx.2.2.2.1 (cx.2.2.2.2.1 _ (hg_Uin (List.mem_of_getElem? (i := 1090) (by decide +kernel)) (by decide +kernel))) (fun _ h => h) hd (kk H locs ls hP hS hL)
theorem hg_blen (cx : hg_Cx E p s m args meth c cc nL own ret) {i : Nat} (hi : i < 14) (hd : decode cc pc = .ok (.arraylength, 1)) (hp : pc + 1 = pc') (kk : hg_G E p l e R s m args below meth c nL Q σ pc' lv (.int (nI (hg_sl i)) :: st)) : hg_G E p l e R s m args below meth c nL Q σ pc lv (.ref (hg_sa E (101 + i)) :: st) := by
  subst hp; intro H locs ls hP hS hL; exact va_tlen cx.1 cx.2.1 (cx.2.2.2.2.2.1.2.2.1.2.2.2.2.1 i hi).2.2.2 hS rfl hd (kk H locs ls hP hS hL)
theorem hg_bld (cx : hg_Cx E p s m args meth c cc nL own ret) {i j : Nat} (hi : i < 14) (hj : j < hg_sl i) (hl : hg_sl i < 100) (hd : decode cc pc = .ok (.baload, 1)) (hp : pc + 1 = pc') (kk : hg_G E p l e R s m args below meth c nL Q σ pc' lv (.int (hg_sb i j) :: st)) : hg_G E p l e R s m args below meth c nL Q σ pc lv (.int (nI j) :: .ref (hg_sa E (101 + i)) :: st) := by
  subst hp; intro H locs ls hP hS hL; exact va_tb cx.1 cx.2.1 (cx.2.2.2.2.2.1.2.2.1.2.2.2.2.1 i hi).2.2.2 hS (nI_in hj (Nat.lt_trans hl (by decide))) (by rw [nI_clamp (by omega)]; rfl) hd (kk H locs ls hP hS hL)
theorem gs_J0_38 (cx : hg_Cx E p s m args meth c cc nL RJ0 ret) (hd : decode cc pc = .ok (.getstatic 38, 3)) (hp : pc + 3 = pc') (kk : hg_G E p l e R s m args below meth c nL Q σ pc' lv (.int 1 :: st)) : hg_G E p l e R s m args below meth c nL Q σ pc lv st := by
  subst hp; intro H locs ls hP hS hL; exact va_gets (C := "java/lang/String") (n := "COMPACT_STRINGS") (d := "Z") cx.1 cx.2.1 cx.2.2.2.2.2.1.2.2.1.2.2.1 hS cx.2.2.2.1 (cx.2.2.2.2.1 _ (hg_Uin (List.mem_of_getElem? (i := 541) (by decide +kernel)) (by decide +kernel))) (fun _ h => h) hd (kk H locs ls hP hS hL)
theorem gs_J0_1053 (cx : hg_Cx E p s m args meth c cc nL RJ0 ret) (hd : decode cc pc = .ok (.getstatic 1053, 3)) (hp : pc + 3 = pc') (kk : ∀ v : Value, v = .null ∨ (∃ t, v = .ref t) → hg_G E p l e R s m args below meth c nL Q σ pc' lv (v :: st)) : hg_G E p l e R s m args below meth c nL Q σ pc lv st := by
  subst hp; intro H locs ls hP hS hL
  rcases cx.2.2.2.2.2.1.2.2.1.2.2.2.1 with hz | ⟨t, hz⟩
  · exact va_gets cx.1 cx.2.1 hz hS cx.2.2.2.1 (cx.2.2.2.2.1 _ (hg_Uin (List.mem_of_getElem? (i := 557) (by decide +kernel)) (by decide +kernel))) (fun _ h => h) hd (kk .null (Or.inl rfl) H locs ls hP hS hL)
  · exact va_gets cx.1 cx.2.1 hz hS cx.2.2.2.1 (cx.2.2.2.2.1 _ (hg_Uin (List.mem_of_getElem? (i := 557) (by decide +kernel)) (by decide +kernel))) (fun _ h => h) hd (kk (.ref t) (Or.inr ⟨t, rfl⟩) H locs ls hP hS hL)
theorem gs_X6_151 (cx : hg_Cx E p s m args meth c cc nL RX6 ret) (hd : decode cc pc = .ok (.getstatic 151, 3)) (hp : pc + 3 = pc') (kk : hg_G E p l e R s m args below meth c nL Q σ pc' lv (.ref (hg_sa E 0) :: st)) : hg_G E p l e R s m args below meth c nL Q σ pc lv st := by
  subst hp; intro H locs ls hP hS hL; exact va_gets (C := "HatCongressModel") (n := "NAMES") (d := "[I") cx.1 cx.2.1 cx.2.2.2.2.2.1.2.2.1.1 hS cx.2.2.2.1 (cx.2.2.2.2.1 _ (hg_Uin (List.mem_of_getElem? (i := 994) (by decide +kernel)) (by decide +kernel))) (fun _ h => h) hd (kk H locs ls hP hS hL)
theorem hg_nld (cx : hg_Cx E p s m args meth c cc nL own ret) {j : Nat} (hj : j < 98) (hd : decode cc pc = .ok (.iaload, 1)) (hp : pc + 1 = pc') (kk : hg_G E p l e R s m args below meth c nL Q σ pc' lv (.int (hg_names.getD j 0) :: st)) : hg_G E p l e R s m args below meth c nL Q σ pc lv (.int (nI j) :: .ref (hg_sa E 0) :: st) := by
  subst hp; intro H locs ls hP hS hL; exact va_ti cx.1 cx.2.1 cx.2.2.2.2.2.1.2.2.1.2.1 hS (nI_in hj (by decide)) (by rw [nI_clamp (by omega)]) hd (kk H locs ls hP hS hL)
theorem hg_callVS {idx maxL n i : Nat} {y : MethodName} {bytes : ByteArray} {ry : Option FieldType} {rm : Room} {post : Option Value → hg_Mem → Prop} {As : List Value} {st0 : List Value} (cx : hg_Cx E p s m args meth c cc nL own ret) (lk : hg_Lk own idx y bytes maxL ry n) (hse : Cond.instanceMethod y ∈ hg_U ∧ Cond.selects y.cls y y ∈ hg_U)
    (K : hg_C l E y bytes maxL ry rm (.ref (hg_sa E (1 + i)) :: As) σ post) (hrm : rm.cells = 0 ∧ rm.slots = 0 ∧ rm.frames + 1 ≤ R.frames ∧ 8 + (maxL + 11) + rm.locals ≤ R.locals) (hi : i < 14) (hn : y.cls = "java/lang/String") (hlen : As.length = n) (hst : st0 = As.reverse ++ .ref (hg_sa E (1 + i)) :: st) (hcat : (st.map fun v => v.category).sum ≤ 8)
    (hd : decode cc pc = .ok (.invokevirtual idx, 3)) (hp : pc + 3 = pc') (kk : ∀ v τ, post v τ → hg_G E p l e R s m args below meth c nL Q τ pc' lv (v.toList ++ st)) : hg_G E p l e R s m args below meth c nL Q σ pc lv st0 := by
  refine hg_run (av := (Value.ref (hg_sa E (1 + i)) :: As).toArray) cx (fun H locs ls hP hS hL => ?_) hp kk
  have hpre := hg_pre cx.2.2.2.2.2.1 hP hS (av := .ref (hg_sa E (1 + i)) :: As)
  have hrecv := vk_recv cx.2.2.2.2.2.1.2.2.1.2.2.2.2 hi hS
  rw [← hn] at hrecv
  exact va_runV (C := y.cls) ⟨cx.1, cx.2.1, cx.2.2.1, cx.2.2.2.1, cx.2.2.2.2.1⟩ K ⟨hg_cb cx.2.2.2.2.1 lk hrm, cx.2.2.2.2.1 _ hse.1, cx.2.2.2.2.1 _ hse.2⟩ ⟨hpre.1, hrecv, hpre.2⟩ rfl hlen hL.1 hst (lv_room hcat) hd ⟨Nat.zero_le _, Nat.zero_le _⟩
theorem cv_X0_135 (cx : hg_Cx E p s m args meth c cc nL RX0 ret) {i : Nat} (h0 : 0 ≤ i) (hi : i < 14) {rm : Room} {f : Int32 → hg_Mem → Prop} (K : hg_C l E yJ0_length_8abf5 cJ0_length_8abf5 1 (some .int) rm [.ref (hg_sa E (1 + i))] σ (hg_pi f)) (hrm : rm.cells = 0 ∧ rm.slots = 0 ∧ rm.frames + 1 ≤ R.frames ∧ 8 + (1 + 11) + rm.locals ≤ R.locals) (hcat : (st.map fun v => v.category).sum ≤ 8) (hd : decode cc pc = .ok (.invokevirtual 135, 3)) (hp : pc + 3 = pc') (kk : ∀ r τ, f r τ → hg_G E p l e R s m args below meth c nL Q τ pc' lv (.int r :: st)) : hg_G E p l e R s m args below meth c nL Q σ pc lv (.ref (hg_sa E (1 + i)) :: st) := hg_callVS (i := i) cx lk_X0_135 se_J0_length_8abf5 K hrm hi rfl rfl rfl hcat hd hp (hg_kI kk)
theorem cv_X0_139 (cx : hg_Cx E p s m args meth c cc nL RX0 ret) {i : Nat} (h0 : 0 ≤ i) (hi : i < 14) {rm : Room} {v0 : Value} {f : Int32 → hg_Mem → Prop} (K : hg_C l E yJ0_charAt_5068e cJ0_charAt_5068e 2 (some .char) rm [.ref (hg_sa E (1 + i)), v0] σ (hg_pi f)) (hrm : rm.cells = 0 ∧ rm.slots = 0 ∧ rm.frames + 1 ≤ R.frames ∧ 8 + (2 + 11) + rm.locals ≤ R.locals) (hcat : (st.map fun v => v.category).sum ≤ 8) (hd : decode cc pc = .ok (.invokevirtual 139, 3)) (hp : pc + 3 = pc') (kk : ∀ r τ, f r τ → hg_G E p l e R s m args below meth c nL Q τ pc' lv (.int r :: st)) : hg_G E p l e R s m args below meth c nL Q σ pc lv (v0 :: .ref (hg_sa E (1 + i)) :: st) := hg_callVS (i := i) cx lk_X0_139 se_J0_charAt_5068e K hrm hi rfl rfl rfl hcat hd hp (hg_kI kk)
theorem cv_J0_335 (cx : hg_Cx E p s m args meth c cc nL RJ0 ret) {i : Nat} (h0 : 0 ≤ i) (hi : i < 14) {rm : Room} {f : Int32 → hg_Mem → Prop} (K : hg_C l E yJ0_coder_7d493 cJ0_coder_7d493 1 (some .byte) rm [.ref (hg_sa E (1 + i))] σ (hg_pi f)) (hrm : rm.cells = 0 ∧ rm.slots = 0 ∧ rm.frames + 1 ≤ R.frames ∧ 8 + (1 + 11) + rm.locals ≤ R.locals) (hcat : (st.map fun v => v.category).sum ≤ 8) (hd : decode cc pc = .ok (.invokevirtual 335, 3)) (hp : pc + 3 = pc') (kk : ∀ r τ, f r τ → hg_G E p l e R s m args below meth c nL Q τ pc' lv (.int r :: st)) : hg_G E p l e R s m args below meth c nL Q σ pc lv (.ref (hg_sa E (1 + i)) :: st) := hg_callVS (i := i) cx lk_J0_335 se_J0_coder_7d493 K hrm hi rfl rfl rfl hcat hd hp (hg_kI kk)
theorem cv_J0_492 (cx : hg_Cx E p s m args meth c cc nL RJ0 ret) {i : Nat} (h0 : 0 ≤ i) (hi : i < 14) {rm : Room} {f : Int32 → hg_Mem → Prop} (K : hg_C l E yJ0_isLatin1_aae02 cJ0_isLatin1_aae02 1 (some .boolean) rm [.ref (hg_sa E (1 + i))] σ (hg_pi f)) (hrm : rm.cells = 0 ∧ rm.slots = 0 ∧ rm.frames + 1 ≤ R.frames ∧ 8 + (1 + 11) + rm.locals ≤ R.locals) (hcat : (st.map fun v => v.category).sum ≤ 8) (hd : decode cc pc = .ok (.invokevirtual 492, 3)) (hp : pc + 3 = pc') (kk : ∀ r τ, f r τ → hg_G E p l e R s m args below meth c nL Q τ pc' lv (.int r :: st)) : hg_G E p l e R s m args below meth c nL Q σ pc lv (.ref (hg_sa E (1 + i)) :: st) := hg_callVS (i := i) cx lk_J0_492 se_J0_isLatin1_aae02 K hrm hi rfl rfl rfl hcat hd hp (hg_kI kk)
end HGS
theorem hg_shr0 (x : Int32) : x >>> ((0 : Int32) &&& 31) = x := by
  rw [show (0 : Int32) &&& 31 = 0 by decide]
  exact Int32.shiftRight_zero
theorem hg_sbC : ∀ i, i < 14 → ∀ j, j < hg_sl i → ((hg_sb i j &&& 255).toUInt32 % 65536).toInt32 = hg_sb i j := by decide +kernel
theorem hg_sbN : ∀ i, i < 14 → ∀ j, j < hg_sl i → (hg_sb i j).toUInt32.toNat < 65536 ∧ 97 ≤ hg_sb i j ∧ hg_sb i j ≤ 122 := by decide +kernel
theorem hg_sl7 : ∀ i, i < 14 → hg_sl i < 7 := by decide +kernel
set_option maxHeartbeats 4000000 in
set_option maxRecDepth 100000 in
theorem K_J0_coder_7d493 (l : Launch) (E : hg_Wd) (σ : hg_Mem) (i : Nat) (hi : i < 14) : hg_C l E yJ0_coder_7d493 cJ0_coder_7d493 1 (some .byte) { frames := 0, cells := 0, slots := 0, locals := 0 } [.ref (hg_sa E (1 + i))] σ (hg_pi (fun r τ => r = 0 ∧ σ = τ)) := by
  refine hg_intro (by decide) [some (.ref (hg_sa E (1 + i)))] rfl (Nat.le_of_ble_eq_true rfl) ?_
  intro p e s m args below meth c cx
  have cx : hg_Cx E p s m args meth c cJ0_coder_7d493 1 RJ0 (some .byte) := cx
  refine gs_J0_38 (pc' := 3) cx dJ0_coder_7d493_0 rfl ?_
  refine hg_if_eq (pc' := 6) cx 13 dJ0_coder_7d493_3 (by decide) rfl (fun c_3 => ?_) (fun c_3 => ?_)
  ·
    exact absurd c_3 (by decide)
  ·
    refine hg_aload0 (pc' := 7) cx dJ0_coder_7d493_6 rfl ?_
    refine gf_J0_15 (pc' := 10) cx (by first | assumption | omega | decide) (by first | assumption | omega | decide) dJ0_coder_7d493_7 rfl ?_
    refine hg_goto cx 14 dJ0_coder_7d493_10 (by decide) ?_
    refine hg_bret cx rfl dJ0_coder_7d493_14 ⟨_, rfl, ?_⟩
    exact ⟨rfl, rfl⟩
set_option maxHeartbeats 4000000 in
set_option maxRecDepth 100000 in
theorem K_J0_isLatin1_aae02 (l : Launch) (E : hg_Wd) (σ : hg_Mem) (i : Nat) (hi : i < 14) : hg_C l E yJ0_isLatin1_aae02 cJ0_isLatin1_aae02 1 (some .boolean) { frames := 0, cells := 0, slots := 0, locals := 0 } [.ref (hg_sa E (1 + i))] σ (hg_pi (fun r τ => r = 1 ∧ σ = τ)) := by
  refine hg_intro (by decide) [some (.ref (hg_sa E (1 + i)))] rfl (Nat.le_of_ble_eq_true rfl) ?_
  intro p e s m args below meth c cx
  have cx : hg_Cx E p s m args meth c cJ0_isLatin1_aae02 1 RJ0 (some .boolean) := cx
  refine gs_J0_38 (pc' := 3) cx dJ0_isLatin1_aae02_0 rfl ?_
  refine hg_if_eq (pc' := 6) cx 17 dJ0_isLatin1_aae02_3 (by decide) rfl (fun c_3 => ?_) (fun c_3 => ?_)
  ·
    exact absurd c_3 (by decide)
  ·
    refine hg_aload0 (pc' := 7) cx dJ0_isLatin1_aae02_6 rfl ?_
    refine gf_J0_15 (pc' := 10) cx (by first | assumption | omega | decide) (by first | assumption | omega | decide) dJ0_isLatin1_aae02_7 rfl ?_
    refine hg_if_ne (pc' := 13) cx 17 dJ0_isLatin1_aae02_10 (by decide) rfl (fun c_10 => ?_) (fun c_10 => ?_)
    ·
      exact absurd rfl c_10
    ·
      refine hg_iconst (pc' := 14) cx 1 dJ0_isLatin1_aae02_13 (by decide) rfl ?_
      refine hg_goto cx 18 dJ0_isLatin1_aae02_14 (by decide) ?_
      refine hg_zret cx rfl dJ0_isLatin1_aae02_18 ⟨_, rfl, ?_⟩
      exact ⟨rfl, rfl⟩
set_option maxHeartbeats 4000000 in
set_option maxRecDepth 100000 in
theorem K_J0_length_8abf5 (l : Launch) (E : hg_Wd) (σ : hg_Mem) (i : Nat) (hi : i < 14) : hg_C l E yJ0_length_8abf5 cJ0_length_8abf5 1 (some .int) { frames := 1, cells := 0, slots := 0, locals := 20 } [.ref (hg_sa E (1 + i))] σ (hg_pi (fun r τ => r = nI (hg_sl i) ∧ σ = τ)) := by
  refine hg_intro (by decide) [some (.ref (hg_sa E (1 + i)))] rfl (Nat.le_of_ble_eq_true rfl) ?_
  intro p e s m args below meth c cx
  have cx : hg_Cx E p s m args meth c cJ0_length_8abf5 1 RJ0 (some .int) := cx
  refine hg_aload0 (pc' := 1) cx dJ0_length_8abf5_0 rfl ?_
  refine gf_J0_9 (pc' := 4) cx (by first | assumption | omega | decide) (by first | assumption | omega | decide) dJ0_length_8abf5_1 rfl ?_
  refine hg_blen (pc' := 5) cx hi dJ0_length_8abf5_4 rfl ?_
  refine hg_aload0 (pc' := 6) cx dJ0_length_8abf5_5 rfl ?_
  refine cv_J0_335 (pc' := 9) cx (by first | assumption | omega | decide) (by first | assumption | omega | decide) (K_J0_coder_7d493 l E _ _ (by first | assumption | omega | decide)) ⟨rfl, rfl, Nat.le_of_ble_eq_true rfl, Nat.le_of_ble_eq_true rfl⟩ (Nat.le_of_ble_eq_true rfl) dJ0_length_8abf5_6 rfl (fun r_6 τ_6 h_6 => ?_)
  obtain ⟨rfl, rfl⟩ := h_6
  refine hg_ishr (pc' := 10) cx dJ0_length_8abf5_9 rfl ?_
  rw [hg_shr0]
  refine hg_iret cx dJ0_length_8abf5_10 ⟨_, rfl, ?_⟩
  exact ⟨rfl, rfl⟩
theorem hg_sbR : ∀ i, i < 14 → ∀ j, j < hg_sl i → narrow .char (.int (hg_sb i j)) = .int (hg_sb i j) := by
  intro i hi j hj
  show Value.int _ = Value.int _
  exact congrArg Value.int (by have := hg_sbC i hi j hj; revert j; revert i; decide +kernel)
set_option maxHeartbeats 4000000 in
set_option maxRecDepth 100000 in
theorem K_J3_checkIndex_8e157n (l : Launch) (E : hg_Wd) (σ : hg_Mem) (j : Nat) (n : Nat) (hj : j < n) (hn : n < 100) : hg_C l E yJ3_checkIndex_8e157 cJ3_checkIndex_8e157 3 (some .int) { frames := 0, cells := 0, slots := 0, locals := 0 } [.int (nI j), .int (nI n), .null] σ (hg_pi (fun r τ => r = nI j ∧ σ = τ)) := by
  refine hg_intro (by decide) [some (.int (nI j)), some (.int (nI n)), some (.null)] rfl (Nat.le_of_ble_eq_true rfl) ?_
  intro p e s m args below meth c cx
  have cx : hg_Cx E p s m args meth c cJ3_checkIndex_8e157 3 RJ3 (some .int) := cx
  refine hg_iload0 (pc' := 1) cx dJ3_checkIndex_8e157_0 rfl ?_
  refine hg_if_lt (pc' := 4) cx 9 dJ3_checkIndex_8e157_1 (by decide) rfl (fun c_1 => ?_) (fun c_1 => ?_)
  ·
    exact absurd c_1 (nI_pos (by omega))
  ·
    refine hg_iload0 (pc' := 5) cx dJ3_checkIndex_8e157_4 rfl ?_
    refine hg_iload1 (pc' := 6) cx dJ3_checkIndex_8e157_5 rfl ?_
    refine hg_icmp_lt (pc' := 9) cx 16 dJ3_checkIndex_8e157_6 (by decide) rfl (fun c_6 => ?_) (fun c_6 => ?_)
    ·
      refine hg_iload0 (pc' := 17) cx dJ3_checkIndex_8e157_16 rfl ?_
      refine hg_iret cx dJ3_checkIndex_8e157_17 ⟨_, rfl, ?_⟩
      exact ⟨rfl, rfl⟩
    ·
      exact absurd (nI_lt hj (by omega)) c_6
set_option maxHeartbeats 4000000 in
set_option maxRecDepth 100000 in
theorem K_J3_checkIndex_8e157r (l : Launch) (E : hg_Wd) (σ : hg_Mem) (j : Nat) (n : Nat) (hj : j < n) (hn : n < 100) (t : Nat) : hg_C l E yJ3_checkIndex_8e157 cJ3_checkIndex_8e157 3 (some .int) { frames := 0, cells := 0, slots := 0, locals := 0 } [.int (nI j), .int (nI n), .ref t] σ (hg_pi (fun r τ => r = nI j ∧ σ = τ)) := by
  refine hg_intro (by decide) [some (.int (nI j)), some (.int (nI n)), some (.ref t)] rfl (Nat.le_of_ble_eq_true rfl) ?_
  intro p e s m args below meth c cx
  have cx : hg_Cx E p s m args meth c cJ3_checkIndex_8e157 3 RJ3 (some .int) := cx
  refine hg_iload0 (pc' := 1) cx dJ3_checkIndex_8e157_0 rfl ?_
  refine hg_if_lt (pc' := 4) cx 9 dJ3_checkIndex_8e157_1 (by decide) rfl (fun c_1 => ?_) (fun c_1 => ?_)
  ·
    exact absurd c_1 (nI_pos (by omega))
  ·
    refine hg_iload0 (pc' := 5) cx dJ3_checkIndex_8e157_4 rfl ?_
    refine hg_iload1 (pc' := 6) cx dJ3_checkIndex_8e157_5 rfl ?_
    refine hg_icmp_lt (pc' := 9) cx 16 dJ3_checkIndex_8e157_6 (by decide) rfl (fun c_6 => ?_) (fun c_6 => ?_)
    ·
      refine hg_iload0 (pc' := 17) cx dJ3_checkIndex_8e157_16 rfl ?_
      refine hg_iret cx dJ3_checkIndex_8e157_17 ⟨_, rfl, ?_⟩
      exact ⟨rfl, rfl⟩
    ·
      exact absurd (nI_lt hj (by omega)) c_6
theorem K_J3_checkIndex_8e157 (l : Launch) (E : hg_Wd) (σ : hg_Mem) (j : Nat) (n : Nat) (hj : j < n) (hn : n < 100) (v : Value) (hv : v = .null ∨ ∃ t, v = .ref t) : hg_C l E yJ3_checkIndex_8e157 cJ3_checkIndex_8e157 3 (some .int) { frames := 0, cells := 0, slots := 0, locals := 0 } [.int (nI j), .int (nI n), v] σ (hg_pi (fun r τ => r = nI j ∧ σ = τ)) := by
  rcases hv with rfl | ⟨t, rfl⟩
  · exact K_J3_checkIndex_8e157n l E σ j n hj hn
  · exact K_J3_checkIndex_8e157r l E σ j n hj hn t
set_option maxHeartbeats 4000000 in
set_option maxRecDepth 100000 in
theorem K_J0_checkIndex_df160 (l : Launch) (E : hg_Wd) (σ : hg_Mem) (j : Nat) (n : Nat) (hj : j < n) (hn : n < 100) : hg_C l E yJ0_checkIndex_df160 cJ0_checkIndex_df160 2 none { frames := 1, cells := 0, slots := 0, locals := 22 } [.int (nI j), .int (nI n)] σ (hg_pv (fun τ => σ = τ)) := by
  refine hg_intro (by decide) [some (.int (nI j)), some (.int (nI n))] rfl (Nat.le_of_ble_eq_true rfl) ?_
  intro p e s m args below meth c cx
  have cx : hg_Cx E p s m args meth c cJ0_checkIndex_df160 2 RJ0 none := cx
  refine hg_iload0 (pc' := 1) cx dJ0_checkIndex_df160_0 rfl ?_
  refine hg_iload1 (pc' := 2) cx dJ0_checkIndex_df160_1 rfl ?_
  refine gs_J0_1053 (pc' := 5) cx dJ0_checkIndex_df160_2 rfl (fun v hv => ?_)
  refine cs_J0_1059 (pc' := 8) cx (K_J3_checkIndex_8e157 l E _ j n hj hn v hv) ⟨rfl, rfl, Nat.le_of_ble_eq_true rfl, Nat.le_of_ble_eq_true rfl⟩ (Nat.le_of_ble_eq_true rfl) dJ0_checkIndex_df160_5 rfl (fun r_5 τ_5 h_5 => ?_)
  obtain ⟨rfl, rfl⟩ := h_5
  refine hg_pop (pc' := 9) cx rfl dJ0_checkIndex_df160_8 rfl ?_
  refine hg_vret cx dJ0_checkIndex_df160_9 ⟨rfl, ?_⟩
  exact rfl
set_option maxHeartbeats 4000000 in
set_option maxRecDepth 100000 in
theorem K_J1_charAt_3b067 (l : Launch) (E : hg_Wd) (σ : hg_Mem) (i : Nat) (hi : i < 14) (j : Nat) (hj : j < hg_sl i) : hg_C l E yJ1_charAt_3b067 cJ1_charAt_3b067 2 (some .char) { frames := 2, cells := 0, slots := 0, locals := 43 } [.ref (hg_sa E (101 + i)), .int (nI j)] σ (hg_pi (fun r τ => r = hg_sb i j ∧ σ = τ)) := by
  refine hg_intro (by decide) [some (.ref (hg_sa E (101 + i))), some (.int (nI j))] rfl (Nat.le_of_ble_eq_true rfl) ?_
  intro p e s m args below meth c cx
  have cx : hg_Cx E p s m args meth c cJ1_charAt_3b067 2 RJ1 (some .char) := cx
  have hl7 := hg_sl7 i hi
  refine hg_iload1 (pc' := 1) cx dJ1_charAt_3b067_0 rfl ?_
  refine hg_aload0 (pc' := 2) cx dJ1_charAt_3b067_1 rfl ?_
  refine hg_blen (pc' := 3) cx hi dJ1_charAt_3b067_2 rfl ?_
  refine cs_J1_9 (pc' := 6) cx (K_J0_checkIndex_df160 l E _ j (hg_sl i) hj (by omega)) ⟨rfl, rfl, Nat.le_of_ble_eq_true rfl, Nat.le_of_ble_eq_true rfl⟩ (Nat.le_of_ble_eq_true rfl) dJ1_charAt_3b067_3 rfl (fun τ_3 h_3 => ?_)
  obtain rfl := h_3
  refine hg_aload0 (pc' := 7) cx dJ1_charAt_3b067_6 rfl ?_
  refine hg_iload1 (pc' := 8) cx dJ1_charAt_3b067_7 rfl ?_
  refine hg_bld (pc' := 9) cx hi hj (by omega) dJ1_charAt_3b067_8 rfl ?_
  refine hg_sipush (pc' := 12) cx 255 dJ1_charAt_3b067_9 (by decide) rfl ?_
  refine hg_iand (pc' := 13) cx dJ1_charAt_3b067_12 rfl ?_
  refine hg_i2c (pc' := 14) cx dJ1_charAt_3b067_13 rfl ?_
  rw [hg_sbC i hi j hj]
  refine hg_cret cx (hg_sbR i hi j hj) dJ1_charAt_3b067_14 ⟨_, rfl, ?_⟩
  exact ⟨rfl, rfl⟩
set_option maxHeartbeats 4000000 in
set_option maxRecDepth 100000 in
theorem K_J0_charAt_5068e (l : Launch) (E : hg_Wd) (σ : hg_Mem) (i : Nat) (hi : i < 14) (j : Nat) (hj : j < hg_sl i) : hg_C l E yJ0_charAt_5068e cJ0_charAt_5068e 2 (some .char) { frames := 4, cells := 0, slots := 0, locals := 85 } [.ref (hg_sa E (1 + i)), .int (nI j)] σ (hg_pi (fun r τ => r = hg_sb i j ∧ σ = τ)) := by
  refine hg_intro (by decide) [some (.ref (hg_sa E (1 + i))), some (.int (nI j))] rfl (Nat.le_of_ble_eq_true rfl) ?_
  intro p e s m args below meth c cx
  have cx : hg_Cx E p s m args meth c cJ0_charAt_5068e 2 RJ0 (some .char) := cx
  refine hg_aload0 (pc' := 1) cx dJ0_charAt_5068e_0 rfl ?_
  refine cv_J0_492 (pc' := 4) cx (by first | assumption | omega | decide) (by first | assumption | omega | decide) (K_J0_isLatin1_aae02 l E _ _ (by first | assumption | omega | decide)) ⟨rfl, rfl, Nat.le_of_ble_eq_true rfl, Nat.le_of_ble_eq_true rfl⟩ (Nat.le_of_ble_eq_true rfl) dJ0_charAt_5068e_1 rfl (fun r_1 τ_1 h_1 => ?_)
  obtain ⟨rfl, rfl⟩ := h_1
  refine hg_if_eq (pc' := 7) cx 16 dJ0_charAt_5068e_4 (by decide) rfl (fun c_4 => ?_) (fun c_4 => ?_)
  ·
    exact absurd c_4 (by decide)
  ·
    refine hg_aload0 (pc' := 8) cx dJ0_charAt_5068e_7 rfl ?_
    refine gf_J0_9 (pc' := 11) cx (by first | assumption | omega | decide) (by first | assumption | omega | decide) dJ0_charAt_5068e_8 rfl ?_
    refine hg_iload1 (pc' := 12) cx dJ0_charAt_5068e_11 rfl ?_
    refine cs_J0_495 (pc' := 15) cx (K_J1_charAt_3b067 l E _ i hi j hj) ⟨rfl, rfl, Nat.le_of_ble_eq_true rfl, Nat.le_of_ble_eq_true rfl⟩ (Nat.le_of_ble_eq_true rfl) dJ0_charAt_5068e_12 rfl (fun r_12 τ_12 h_12 => ?_)
    obtain ⟨rfl, rfl⟩ := h_12
    refine hg_cret cx (hg_sbR i hi j hj) dJ0_charAt_5068e_15 ⟨_, rfl, ?_⟩
    exact ⟨rfl, rfl⟩
