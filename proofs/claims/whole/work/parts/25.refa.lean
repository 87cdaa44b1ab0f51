theorem hg_ceR {E : hg_Wd} {i : Nat} (h1 : 51 ≤ i) (h2 : i < 54) (f : Nat → Int32) (g : Nat → Int64) : hg_ce E i f g = .inl (hg_cA E 0, 64, .inl f) := by
  rcases (show i = 51 ∨ i = 52 ∨ i = 53 by omega) with rfl | rfl | rfl <;> rfl
theorem sp_inL_hz (x : Int32) (n : Nat) (hn : n ≤ 10) : sp_inL x.toInt64 0 (nI n - 1) = if 0 ≤ x ∧ x < nI n then 1 else 0 := by
  rw [sp_inL_out]
  unfold sp_out
  by_cases c : 0 ≤ x ∧ x < nI n
  · have h1 : ¬ (x < 0 ∨ nI n - 1 < x) := by
      rintro (z | z)
      · exact Int32.not_lt.mpr c.1 z
      · obtain ⟨j, hj, rfl⟩ := nI_of (Int32.not_lt.mpr c.1)
        have hjn := (nI_ltI hj (by omega)).mp c.2
        obtain ⟨m, rfl⟩ : ∃ m, n = m + 1 := ⟨n - 1, by omega⟩
        rw [nI_pred] at z
        have := (nI_ltI (by omega) hj).mp z
        omega
    rw [if_pos c, if_neg h1, if_pos rfl]
  · have h1 : x < 0 ∨ nI n - 1 < x := by
      by_cases z : x < 0
      · exact Or.inl z
      · refine Or.inr ?_
        obtain ⟨j, hj, rfl⟩ := nI_of z
        have hge : n ≤ j := by
          rcases Nat.lt_or_ge j n with q | q
          · exact absurd ⟨nI_pos' hj, nI_lt q (by omega)⟩ c
          · exact q
        rcases Nat.eq_zero_or_pos n with q | q
        · rw [q]; exact Int32.lt_of_lt_of_le (show nI 0 - 1 < 0 by decide) (nI_pos' hj)
        · obtain ⟨m, rfl⟩ : ∃ m, n = m + 1 := ⟨n - 1, by omega⟩
          rw [nI_pred]; exact nI_lt (by omega) hj
    rw [if_neg c, if_pos h1, if_neg (show ¬ (1 : Int32) = 0 by decide)]
theorem sp_trueOnes_c (h t : Int32) : 255 &&& ((t ^^^ h) ^^^ (-1)) = sp_trueOnes h t := by
  unfold sp_trueOnes
  rw [Int32.and_comm, Int32.xor_comm t h]
set_option maxHeartbeats 4000000 in
set_option maxRecDepth 100000 in
theorem K_X6_finds (l : Launch) (E : hg_Wd) (σ : hg_Mem) (w : Int32) (f : Nat) (hf : f < 7) (hw : (-1000000001 : Int32) - w = nI f) : hg_C l E yX6_finds cX6_finds 2 (some .int) { frames := 0, cells := 0, slots := 0, locals := 0 } [.ref (hg_ad E 50), .int w] σ (hg_pi (fun r τ => r = w ∧ hg_sI σ 54 f (σ.1 54 f + 1) = τ)) := by
  refine hg_intro (by decide) [some (.ref (hg_ad E 50)), some (.int w)] rfl (Nat.le_of_ble_eq_true rfl) ?_
  intro p e s m args below meth c cx
  have cx : hg_Cx E p s m args meth c cX6_finds 2 RX6 (some .int) := cx
  refine hg_aload0 (pc' := 1) cx dX6_finds_0 rfl ?_
  refine gf_X6_19 (pc' := 4) cx dX6_finds_1 rfl ?_
  refine hg_ldc (pc' := 6) cx kc_X6_38 dX6_finds_4 rfl ?_
  refine hg_iload1 (pc' := 7) cx dX6_finds_6 rfl ?_
  refine hg_isub (pc' := 8) cx dX6_finds_7 rfl ?_
  rw [hw]
  refine hg_dup2 (pc' := 9) cx rfl rfl dX6_finds_8 rfl ?_
  refine hg_iald2 (pc' := 10) cx (by decide) (hg_ceI54 E) (by first | assumption | omega | decide) (by decide) dX6_finds_9 rfl ?_
  refine hg_iconst (pc' := 11) cx 1 dX6_finds_10 (by decide) rfl ?_
  refine hg_iadd (pc' := 12) cx dX6_finds_11 rfl ?_
  refine hg_iast2 (pc' := 13) cx (by decide) (hg_ceI54 E) (by first | assumption | omega | decide) (by decide) dX6_finds_12 rfl ?_
  refine hg_iload1 (pc' := 14) cx dX6_finds_13 rfl ?_
  refine hg_iret cx dX6_finds_14 ⟨_, rfl, ?_⟩
  exact ⟨rfl, rfl⟩
set_option maxHeartbeats 4000000 in
set_option maxRecDepth 100000 in
theorem K_X6_orNone (l : Launch) (E : hg_Wd) (σ : hg_Mem) (v : Int32) : hg_C l E yX6_orNone cX6_orNone 2 (some .int) { frames := 1, cells := 0, slots := 0, locals := 21 } [.ref (hg_ad E 50), .int v] σ (hg_pi (fun r τ => (r = if v < 0 then -1000000004 else v) ∧ τ = if v < 0 then hg_sI σ 54 3 (σ.1 54 3 + 1) else σ)) := by
  refine hg_intro (by decide) [some (.ref (hg_ad E 50)), some (.int v)] rfl (Nat.le_of_ble_eq_true rfl) ?_
  intro p e s m args below meth c cx
  have cx : hg_Cx E p s m args meth c cX6_orNone 2 RX6 (some .int) := cx
  refine hg_iload1 (pc' := 1) cx dX6_orNone_0 rfl ?_
  refine hg_if_ge (pc' := 4) cx 13 dX6_orNone_1 (by decide) rfl (fun c_1 => ?_) (fun c_1 => ?_)
  ·
    refine hg_iload1 (pc' := 14) cx dX6_orNone_13 rfl ?_
    refine hg_iret cx dX6_orNone_14 ⟨_, rfl, ?_⟩
    first
      | (rw [if_neg (Int32.not_lt.mpr c_1), if_neg (Int32.not_lt.mpr c_1)]; exact ⟨rfl, rfl⟩)
      | (rw [if_pos (Int32.not_le.mp c_1), if_pos (Int32.not_le.mp c_1)]; exact ⟨rfl, rfl⟩)
  ·
    refine hg_aload0 (pc' := 5) cx dX6_orNone_4 rfl ?_
    refine hg_ldc (pc' := 7) cx kc_X6_39 dX6_orNone_5 rfl ?_
    refine cv_X6_40 (pc' := 10) cx (K_X6_finds l E _ (-1000000004) 3 (by decide) (by decide)) ⟨rfl, rfl, Nat.le_of_ble_eq_true rfl, Nat.le_of_ble_eq_true rfl⟩ (Nat.le_of_ble_eq_true rfl) dX6_orNone_7 rfl (fun r_7 τ_7 h_7 => ?_)
    obtain ⟨rfl, rfl⟩ := h_7
    refine hg_goto cx 14 dX6_orNone_10 (by decide) ?_
    refine hg_iret cx dX6_orNone_14 ⟨_, rfl, ?_⟩
    first
      | (rw [if_neg (Int32.not_lt.mpr c_1), if_neg (Int32.not_lt.mpr c_1)]; exact ⟨rfl, rfl⟩)
      | (rw [if_pos (Int32.not_le.mp c_1), if_pos (Int32.not_le.mp c_1)]; exact ⟨rfl, rfl⟩)
set_option maxHeartbeats 4000000 in
set_option maxRecDepth 100000 in
theorem K_X6_in (l : Launch) (E : hg_Wd) (σ : hg_Mem) (v : Int64) (a : Int32) (b : Int32) : hg_C l E yX6_in cX6_in 4 (some .boolean) { frames := 0, cells := 0, slots := 0, locals := 0 } [.long v, .int a, .int b] σ (hg_pi (fun r τ => r = sp_inL v a b ∧ σ = τ)) := by
  refine hg_intro (by decide) [some (.long v), none, some (.int a), some (.int b)] rfl (Nat.le_of_ble_eq_true rfl) ?_
  intro p e s m args below meth c cx
  have cx : hg_Cx E p s m args meth c cX6_in 4 RX6 (some .boolean) := cx
  refine hg_lload0 (pc' := 1) cx dX6_in_0 rfl ?_
  refine hg_iload2 (pc' := 2) cx dX6_in_1 rfl ?_
  refine hg_i2l (pc' := 3) cx dX6_in_2 rfl ?_
  refine hg_lcmp (pc' := 4) cx dX6_in_3 rfl ?_
  refine hg_if_lt (pc' := 7) cx 18 dX6_in_4 (by decide) rfl (fun c_4 => ?_) (fun c_4 => ?_)
  ·
    refine hg_iconst (pc' := 19) cx 0 dX6_in_18 (by decide) rfl ?_
    refine hg_zret cx rfl dX6_in_19 ⟨_, rfl, ?_⟩
    refine ⟨?_, rfl⟩
    unfold sp_inL
    first
      | (rw [if_neg (fun z => Int64.not_le.mpr ((lg_cmp_lt _ _).mp c_4) z.1)]; done)
      | (rw [if_neg (fun z => Int64.not_le.mpr ((lg_cmp_gt _ _).mp c_11) z.2)]; done)
      | (rw [if_pos ⟨Int64.not_lt.mp (fun z => c_4 ((lg_cmp_lt _ _).mpr z)), Int64.not_lt.mp (fun z => c_11 ((lg_cmp_gt _ _).mpr z))⟩]; done)
  ·
    refine hg_lload0 (pc' := 8) cx dX6_in_7 rfl ?_
    refine hg_iload3 (pc' := 9) cx dX6_in_8 rfl ?_
    refine hg_i2l (pc' := 10) cx dX6_in_9 rfl ?_
    refine hg_lcmp (pc' := 11) cx dX6_in_10 rfl ?_
    refine hg_if_gt (pc' := 14) cx 18 dX6_in_11 (by decide) rfl (fun c_11 => ?_) (fun c_11 => ?_)
    ·
      refine hg_iconst (pc' := 19) cx 0 dX6_in_18 (by decide) rfl ?_
      refine hg_zret cx rfl dX6_in_19 ⟨_, rfl, ?_⟩
      refine ⟨?_, rfl⟩
      unfold sp_inL
      first
        | (rw [if_neg (fun z => Int64.not_le.mpr ((lg_cmp_lt _ _).mp c_4) z.1)]; done)
        | (rw [if_neg (fun z => Int64.not_le.mpr ((lg_cmp_gt _ _).mp c_11) z.2)]; done)
        | (rw [if_pos ⟨Int64.not_lt.mp (fun z => c_4 ((lg_cmp_lt _ _).mpr z)), Int64.not_lt.mp (fun z => c_11 ((lg_cmp_gt _ _).mpr z))⟩]; done)
    ·
      refine hg_iconst (pc' := 15) cx 1 dX6_in_14 (by decide) rfl ?_
      refine hg_goto cx 19 dX6_in_15 (by decide) ?_
      refine hg_zret cx rfl dX6_in_19 ⟨_, rfl, ?_⟩
      refine ⟨?_, rfl⟩
      unfold sp_inL
      first
        | (rw [if_neg (fun z => Int64.not_le.mpr ((lg_cmp_lt _ _).mp c_4) z.1)]; done)
        | (rw [if_neg (fun z => Int64.not_le.mpr ((lg_cmp_gt _ _).mp c_11) z.2)]; done)
        | (rw [if_pos ⟨Int64.not_lt.mp (fun z => c_4 ((lg_cmp_lt _ _).mpr z)), Int64.not_lt.mp (fun z => c_11 ((lg_cmp_gt _ _).mpr z))⟩]; done)
set_option maxHeartbeats 4000000 in
set_option maxRecDepth 100000 in
theorem K_X6_held (l : Launch) (E : hg_Wd) (σ : hg_Mem) (v : Int32) (a : Int32) (b : Int32) : hg_C l E yX6_held cX6_held 3 (some .int) { frames := 0, cells := 0, slots := 0, locals := 0 } [.int v, .int a, .int b] σ (hg_pi (fun r τ => r = sp_clamp v a b ∧ σ = τ)) := by
  refine hg_intro (by decide) [some (.int v), some (.int a), some (.int b)] rfl (Nat.le_of_ble_eq_true rfl) ?_
  intro p e s m args below meth c cx
  have cx : hg_Cx E p s m args meth c cX6_held 3 RX6 (some .int) := cx
  refine hg_iload0 (pc' := 1) cx dX6_held_0 rfl ?_
  refine hg_iload1 (pc' := 2) cx dX6_held_1 rfl ?_
  refine hg_icmp_ge (pc' := 5) cx 9 dX6_held_2 (by decide) rfl (fun c_2 => ?_) (fun c_2 => ?_)
  ·
    refine hg_iload0 (pc' := 10) cx dX6_held_9 rfl ?_
    refine hg_iload2 (pc' := 11) cx dX6_held_10 rfl ?_
    refine hg_icmp_le (pc' := 14) cx 18 dX6_held_11 (by decide) rfl (fun c_11 => ?_) (fun c_11 => ?_)
    ·
      refine hg_iload0 (pc' := 19) cx dX6_held_18 rfl ?_
      refine hg_iret cx dX6_held_19 ⟨_, rfl, ?_⟩
      refine ⟨?_, rfl⟩
      unfold sp_clamp
      first
        | (rw [if_pos (Int32.not_le.mp c_2)]; done)
        | (rw [if_neg (Int32.not_lt.mpr c_2), if_neg (Int32.not_lt.mpr c_11)]; done)
        | (rw [if_neg (Int32.not_lt.mpr c_2), if_pos (Int32.not_le.mp c_11)]; done)
    ·
      refine hg_iload2 (pc' := 15) cx dX6_held_14 rfl ?_
      refine hg_goto cx 19 dX6_held_15 (by decide) ?_
      refine hg_iret cx dX6_held_19 ⟨_, rfl, ?_⟩
      refine ⟨?_, rfl⟩
      unfold sp_clamp
      first
        | (rw [if_pos (Int32.not_le.mp c_2)]; done)
        | (rw [if_neg (Int32.not_lt.mpr c_2), if_neg (Int32.not_lt.mpr c_11)]; done)
        | (rw [if_neg (Int32.not_lt.mpr c_2), if_pos (Int32.not_le.mp c_11)]; done)
  ·
    refine hg_iload1 (pc' := 6) cx dX6_held_5 rfl ?_
    refine hg_goto cx 19 dX6_held_6 (by decide) ?_
    refine hg_iret cx dX6_held_19 ⟨_, rfl, ?_⟩
    refine ⟨?_, rfl⟩
    unfold sp_clamp
    first
      | (rw [if_pos (Int32.not_le.mp c_2)]; done)
      | (rw [if_neg (Int32.not_lt.mpr c_2), if_neg (Int32.not_lt.mpr c_11)]; done)
      | (rw [if_neg (Int32.not_lt.mpr c_2), if_pos (Int32.not_le.mp c_11)]; done)
set_option maxHeartbeats 4000000 in
set_option maxRecDepth 100000 in
theorem K_X6_withBit (l : Launch) (E : hg_Wd) (σ : hg_Mem) (x : Int32) (q : Int32) (v : Int32) : hg_C l E yX6_withBit cX6_withBit 3 (some .int) { frames := 0, cells := 0, slots := 0, locals := 0 } [.int x, .int q, .int v] σ (hg_pi (fun r τ => r = sp_withBit x q v ∧ σ = τ)) := by
  refine hg_intro (by decide) [some (.int x), some (.int q), some (.int v)] rfl (Nat.le_of_ble_eq_true rfl) ?_
  intro p e s m args below meth c cx
  have cx : hg_Cx E p s m args meth c cX6_withBit 3 RX6 (some .int) := cx
  refine hg_iload2 (pc' := 1) cx dX6_withBit_0 rfl ?_
  refine hg_iconst (pc' := 2) cx 1 dX6_withBit_1 (by decide) rfl ?_
  refine hg_icmp_ne (pc' := 5) cx 13 dX6_withBit_2 (by decide) rfl (fun c_2 => ?_) (fun c_2 => ?_)
  ·
    refine hg_iload0 (pc' := 14) cx dX6_withBit_13 rfl ?_
    refine hg_iconst (pc' := 15) cx 1 dX6_withBit_14 (by decide) rfl ?_
    refine hg_iload1 (pc' := 16) cx dX6_withBit_15 rfl ?_
    refine hg_ishl (pc' := 17) cx dX6_withBit_16 rfl ?_
    refine hg_iconst (pc' := 18) cx (-1) dX6_withBit_17 (by decide) rfl ?_
    refine hg_ixor (pc' := 19) cx dX6_withBit_18 rfl ?_
    refine hg_iand (pc' := 20) cx dX6_withBit_19 rfl ?_
    refine hg_iret cx dX6_withBit_20 ⟨_, rfl, ?_⟩
    exact ⟨by first | rfl | (simp [sp_withBit, c_2]; done) | (simp (decide := true) only [sp_withBit, c_2, ↓reduceIte, and_true, true_and, and_false, false_and, or_false, false_or, true_or, or_true]; done) | (simp only [sp_withBit]; grind) | (simp_all [sp_withBit]; done), rfl⟩
  ·
    refine hg_iload0 (pc' := 6) cx dX6_withBit_5 rfl ?_
    refine hg_iconst (pc' := 7) cx 1 dX6_withBit_6 (by decide) rfl ?_
    refine hg_iload1 (pc' := 8) cx dX6_withBit_7 rfl ?_
    refine hg_ishl (pc' := 9) cx dX6_withBit_8 rfl ?_
    refine hg_ior (pc' := 10) cx dX6_withBit_9 rfl ?_
    refine hg_goto cx 20 dX6_withBit_10 (by decide) ?_
    refine hg_iret cx dX6_withBit_20 ⟨_, rfl, ?_⟩
    exact ⟨by first | rfl | (simp [sp_withBit, c_2]; done) | (simp (decide := true) only [sp_withBit, c_2, ↓reduceIte, and_true, true_and, and_false, false_and, or_false, false_or, true_or, or_true]; done) | (simp only [sp_withBit]; grind) | (simp_all [sp_withBit]; done), rfl⟩
set_option maxHeartbeats 4000000 in
set_option maxRecDepth 100000 in
theorem K_X6_copyAll (l : Launch) (E : hg_Wd) (σ : hg_Mem) (f : Nat) (hf1 : 51 ≤ f) (hf2 : f < 54) (t : Nat) (ht1 : 51 ≤ t) (ht2 : t < 54) (hft : f ≠ t) : hg_C l E yX6_copyAll cX6_copyAll 3 none { frames := 0, cells := 0, slots := 0, locals := 0 } [.ref (hg_ad E f), .ref (hg_ad E t)] σ (hg_pv (fun τ => τ.2 = σ.2 ∧ (∀ i, i ≠ t → τ.1 i = σ.1 i) ∧ ∀ k, k < 64 → τ.1 t k = σ.1 f k)) := by
  refine hg_intro (by decide) [some (.ref (hg_ad E f)), some (.ref (hg_ad E t)), none] rfl (Nat.le_of_ble_eq_true rfl) ?_
  intro p e s m args below meth c cx
  have cx : hg_Cx E p s m args meth c cX6_copyAll 3 RX6 none := cx
  refine hg_iconst (pc' := 1) cx (nI 0) dX6_copyAll_0 (by decide) rfl ?_
  refine hg_istore2 (pc' := 2) cx rfl dX6_copyAll_1 rfl ?_
  refine hg_nm (fun μ hμ => ?_)
  refine hg_loop (α := hg_Mem × Nat) (I := fun z => z.2 ≤ 64 ∧ z.1.2 = σ.2 ∧ (∀ i, i ≠ t → z.1.1 i = σ.1 i) ∧ ∀ k, k < z.2 → z.1.1 t k = σ.1 f k) (P := fun z => hg_G E p l e { frames := 0, cells := 0, slots := 0, locals := 0 } s m args below meth c 3 (MQ below (hg_Qc E (hg_pv (fun τ => τ.2 = σ.2 ∧ (∀ i, i ≠ t → τ.1 i = σ.1 i) ∧ ∀ k, k < 64 → τ.1 t k = σ.1 f k))) args s 0 0 (hg_AW E)) z.1 2 [some (.ref (hg_ad E f)), some (.ref (hg_ad E t)), some (.int (nI z.2))] []) (fun z => 64 - z.2) ?_ (μ, 0) ?_
  rotate_left
  · subst hμ
    try dsimp only
    exact ⟨Nat.zero_le _, rfl, fun _ _ => rfl, fun k hk => absurd hk (Nat.not_lt_zero k)⟩
  clear hμ μ
  rintro ⟨τ, j⟩ hI ih_2
  try dsimp only at hI ih_2 ⊢
  have hj64 := hI.1
  refine hg_iload2 (pc' := 3) cx dX6_copyAll_2 rfl ?_
  refine hg_bipush (pc' := 5) cx (nI 64) dX6_copyAll_3 (by decide) rfl ?_
  refine hg_icmp_ge (pc' := 8) cx 20 dX6_copyAll_5 (by decide) rfl (fun c_5 => ?_) (fun c_5 => ?_)
  ·
    have hj := hg_ge (n := 64) (j := j) rfl (by omega) (by omega) c_5
    refine hg_vret cx dX6_copyAll_20 ⟨rfl, ?_⟩
    exact ⟨hI.2.1, hI.2.2.1, fun k hk => hI.2.2.2 k (by omega)⟩
  ·
    have hj := hg_nge (n := 64) (j := j) rfl (by omega) (by omega) c_5
    refine hg_aload1 (pc' := 9) cx dX6_copyAll_8 rfl ?_
    refine hg_iload2 (pc' := 10) cx dX6_copyAll_9 rfl ?_
    refine hg_aload0 (pc' := 11) cx dX6_copyAll_10 rfl ?_
    refine hg_iload2 (pc' := 12) cx dX6_copyAll_11 rfl ?_
    refine hg_iald2 (pc' := 13) cx (by omega) (hg_ceR hf1 hf2) (by omega) (by decide) dX6_copyAll_12 rfl ?_
    refine hg_iast2 (pc' := 14) cx (by omega) (hg_ceR ht1 ht2) (by omega) (by decide) dX6_copyAll_13 rfl ?_
    refine hg_iinc2p (pc' := 17) cx rfl dX6_copyAll_14 rfl ?_
    refine hg_goto cx 2 dX6_copyAll_17 (by decide) ?_
    rw [nI_1]
    refine hg_nm (fun μ hμ => ?_)
    refine ih_2 (μ, j + 1) ?_ ?_
    · subst hμ
      try dsimp only
      rw [hg_sI_eq]
      refine ⟨by omega, hI.2.1, fun i hi => (hg_sH_ne _ _ hi).trans (hI.2.2.1 i hi), fun k hk => ?_⟩
      rw [hg_sH_at]
      by_cases q : k = j
      · rw [q, va_upE, hI.2.2.1 f hft]
      · rw [va_upN _ _ q]; exact hI.2.2.2 k (by omega)
    · show 64 - (j + 1) < 64 - j
      omega
set_option maxHeartbeats 4000000 in
set_option maxRecDepth 100000 in
theorem K_X6_becomes (l : Launch) (E : hg_Wd) (σ : hg_Mem) (k : Nat) (hk : k < 64) (v : Int32) : hg_C l E yX6_becomes cX6_becomes 4 (some .int) { frames := 0, cells := 0, slots := 0, locals := 0 } [.ref (hg_ad E 50), .int (nI k), .int v] σ (hg_pi (fun r τ => r = σ.1 51 k ∧ hg_sI σ 51 k v = τ)) := by
  refine hg_intro (by decide) [some (.ref (hg_ad E 50)), some (.int (nI k)), some (.int v), none] rfl (Nat.le_of_ble_eq_true rfl) ?_
  intro p e s m args below meth c cx
  have cx : hg_Cx E p s m args meth c cX6_becomes 4 RX6 (some .int) := cx
  refine hg_aload0 (pc' := 1) cx dX6_becomes_0 rfl ?_
  refine gf_X6_9 (pc' := 4) cx dX6_becomes_1 rfl ?_
  refine hg_iload1 (pc' := 5) cx dX6_becomes_4 rfl ?_
  refine hg_iald2 (pc' := 6) cx (by decide) (hg_ceI51 E) (by first | assumption | omega | decide) (by decide) dX6_becomes_5 rfl ?_
  refine hg_istore3 (pc' := 7) cx rfl dX6_becomes_6 rfl ?_
  refine hg_aload0 (pc' := 8) cx dX6_becomes_7 rfl ?_
  refine gf_X6_9 (pc' := 11) cx dX6_becomes_8 rfl ?_
  refine hg_iload1 (pc' := 12) cx dX6_becomes_11 rfl ?_
  refine hg_iload2 (pc' := 13) cx dX6_becomes_12 rfl ?_
  refine hg_iast2 (pc' := 14) cx (by decide) (hg_ceI51 E) (by first | assumption | omega | decide) (by decide) dX6_becomes_13 rfl ?_
  refine hg_iload3 (pc' := 15) cx dX6_becomes_14 rfl ?_
  refine hg_iret cx dX6_becomes_15 ⟨_, rfl, ?_⟩
  exact ⟨rfl, rfl⟩
set_option maxHeartbeats 4000000 in
set_option maxRecDepth 100000 in
theorem K_X6_isHat (l : Launch) (E : hg_Wd) (σ : hg_Mem) (n : Nat) (hn10 : n ≤ 10) (hn : σ.1 51 3 = nI n) (x : Int32) : hg_C l E yX6_isHat cX6_isHat 2 (some .boolean) { frames := 1, cells := 0, slots := 0, locals := 23 } [.ref (hg_ad E 50), .int x] σ (hg_pi (fun r τ => r = (if 0 ≤ x ∧ x < nI n then 1 else 0) ∧ σ = τ)) := by
  refine hg_intro (by decide) [some (.ref (hg_ad E 50)), some (.int x)] rfl (Nat.le_of_ble_eq_true rfl) ?_
  intro p e s m args below meth c cx
  have cx : hg_Cx E p s m args meth c cX6_isHat 2 RX6 (some .boolean) := cx
  refine hg_iload1 (pc' := 1) cx dX6_isHat_0 rfl ?_
  refine hg_i2l (pc' := 2) cx dX6_isHat_1 rfl ?_
  refine hg_iconst (pc' := 3) cx 0 dX6_isHat_2 (by decide) rfl ?_
  refine hg_aload0 (pc' := 4) cx dX6_isHat_3 rfl ?_
  refine gf_X6_9 (pc' := 7) cx dX6_isHat_4 rfl ?_
  refine hg_iconst (pc' := 8) cx (nI 3) dX6_isHat_7 (by decide) rfl ?_
  refine hg_iald2 (pc' := 9) cx (by decide) (hg_ceI51 E) (by first | assumption | omega | decide) (by decide) dX6_isHat_8 rfl ?_
  refine hg_iconst (pc' := 10) cx 1 dX6_isHat_9 (by decide) rfl ?_
  refine hg_isub (pc' := 11) cx dX6_isHat_10 rfl ?_
  refine cs_X6_44 (pc' := 14) cx (K_X6_in l E _ _ _ _) ⟨rfl, rfl, Nat.le_of_ble_eq_true rfl, Nat.le_of_ble_eq_true rfl⟩ (Nat.le_of_ble_eq_true rfl) dX6_isHat_11 rfl (fun r_11 τ_11 h_11 => ?_)
  obtain ⟨rfl, rfl⟩ := h_11
  refine hg_zret cx (by unfold sp_inL; exact hg_z01 _) dX6_isHat_14 ⟨_, rfl, ?_⟩
  refine ⟨?_, rfl⟩
  rw [hn]
  exact sp_inL_hz x n hn10
set_option maxHeartbeats 4000000 in
set_option maxRecDepth 100000 in
theorem K_X6_it (l : Launch) (E : hg_Wd) (σ : hg_Mem) (h : Nat) (hh : h < 10) (w : Nat) (hw : w < 6) : hg_C l E yX6_it cX6_it 3 (some .int) { frames := 0, cells := 0, slots := 0, locals := 0 } [.ref (hg_ad E 50), .int (nI h), .int (nI w)] σ (hg_pi (fun r τ => r = σ.1 51 (4 + 6 * h + w) ∧ σ = τ)) := by
  refine hg_intro (by decide) [some (.ref (hg_ad E 50)), some (.int (nI h)), some (.int (nI w))] rfl (Nat.le_of_ble_eq_true rfl) ?_
  intro p e s m args below meth c cx
  have cx : hg_Cx E p s m args meth c cX6_it 3 RX6 (some .int) := cx
  refine hg_aload0 (pc' := 1) cx dX6_it_0 rfl ?_
  refine gf_X6_9 (pc' := 4) cx dX6_it_1 rfl ?_
  refine hg_iconst (pc' := 5) cx (nI 4) dX6_it_4 (by decide) rfl ?_
  refine hg_bipush (pc' := 7) cx (nI 6) dX6_it_5 (by decide) rfl ?_
  refine hg_iload1 (pc' := 8) cx dX6_it_7 rfl ?_
  refine hg_imul (pc' := 9) cx dX6_it_8 rfl ?_
  refine hg_iadd (pc' := 10) cx dX6_it_9 rfl ?_
  refine hg_iload2 (pc' := 11) cx dX6_it_10 rfl ?_
  refine hg_iadd (pc' := 12) cx dX6_it_11 rfl ?_
  rw [pk_mul, nI_add, nI_add]
  refine hg_iald2 (pc' := 13) cx (by decide) (hg_ceI51 E) (by first | assumption | omega | decide) (by decide) dX6_it_12 rfl ?_
  refine hg_iret cx dX6_it_13 ⟨_, rfl, ?_⟩
  exact ⟨rfl, rfl⟩
set_option maxHeartbeats 4000000 in
set_option maxRecDepth 100000 in
theorem K_X6_put (l : Launch) (E : hg_Wd) (σ : hg_Mem) (h : Nat) (hh : h < 10) (w : Nat) (hw : w < 6) (v : Int32) : hg_C l E yX6_put cX6_put 4 none { frames := 0, cells := 0, slots := 0, locals := 0 } [.ref (hg_ad E 50), .int (nI h), .int (nI w), .int v] σ (hg_pv (fun τ => hg_sI σ 51 (4 + 6 * h + w) v = τ)) := by
  refine hg_intro (by decide) [some (.ref (hg_ad E 50)), some (.int (nI h)), some (.int (nI w)), some (.int v)] rfl (Nat.le_of_ble_eq_true rfl) ?_
  intro p e s m args below meth c cx
  have cx : hg_Cx E p s m args meth c cX6_put 4 RX6 none := cx
  refine hg_aload0 (pc' := 1) cx dX6_put_0 rfl ?_
  refine gf_X6_9 (pc' := 4) cx dX6_put_1 rfl ?_
  refine hg_iconst (pc' := 5) cx (nI 4) dX6_put_4 (by decide) rfl ?_
  refine hg_bipush (pc' := 7) cx (nI 6) dX6_put_5 (by decide) rfl ?_
  refine hg_iload1 (pc' := 8) cx dX6_put_7 rfl ?_
  refine hg_imul (pc' := 9) cx dX6_put_8 rfl ?_
  refine hg_iadd (pc' := 10) cx dX6_put_9 rfl ?_
  refine hg_iload2 (pc' := 11) cx dX6_put_10 rfl ?_
  refine hg_iadd (pc' := 12) cx dX6_put_11 rfl ?_
  rw [pk_mul, nI_add, nI_add]
  refine hg_iload3 (pc' := 13) cx dX6_put_12 rfl ?_
  refine hg_iast2 (pc' := 14) cx (by decide) (hg_ceI51 E) (by first | assumption | omega | decide) (by decide) dX6_put_13 rfl ?_
  refine hg_vret cx dX6_put_14 ⟨rfl, ?_⟩
  rfl
set_option maxHeartbeats 4000000 in
set_option maxRecDepth 100000 in
theorem K_X6_asked (l : Launch) (E : hg_Wd) (σ : hg_Mem)  : hg_C l E yX6_asked cX6_asked 1 (some .int) { frames := 0, cells := 0, slots := 0, locals := 0 } [.ref (hg_ad E 50)] σ (hg_pi (fun r τ => r = sp_q (σ.1 51 0) ∧ σ = τ)) := by
  refine hg_intro (by decide) [some (.ref (hg_ad E 50))] rfl (Nat.le_of_ble_eq_true rfl) ?_
  intro p e s m args below meth c cx
  have cx : hg_Cx E p s m args meth c cX6_asked 1 RX6 (some .int) := cx
  refine hg_aload0 (pc' := 1) cx dX6_asked_0 rfl ?_
  refine gf_X6_9 (pc' := 4) cx dX6_asked_1 rfl ?_
  refine hg_iconst (pc' := 5) cx (nI 0) dX6_asked_4 (by decide) rfl ?_
  refine hg_iald2 (pc' := 6) cx (by decide) (hg_ceI51 E) (by first | assumption | omega | decide) (by decide) dX6_asked_5 rfl ?_
  refine hg_bipush (pc' := 8) cx 8 dX6_asked_6 (by decide) rfl ?_
  refine hg_irem (pc' := 9) cx (by decide) dX6_asked_8 rfl ?_
  refine hg_iret cx dX6_asked_9 ⟨_, rfl, ?_⟩
  exact ⟨rfl, rfl⟩
set_option maxHeartbeats 4000000 in
set_option maxRecDepth 100000 in
theorem K_X6_saysTo (l : Launch) (E : hg_Wd) (σ : hg_Mem) (h : Nat) (hh : h < 10) (q : Int32) : hg_C l E yX6_saysTo cX6_saysTo 6 (some .int) { frames := 1, cells := 0, slots := 0, locals := 22 } [.ref (hg_ad E 50), .int (nI h), .int q] σ (hg_pi (fun r τ => r = sp_says (sp_hr (σ.1 51) h) q (σ.1 51 2) ∧ σ = τ)) := by
  refine hg_intro (by decide) [some (.ref (hg_ad E 50)), some (.int (nI h)), some (.int q), none, none, none] rfl (Nat.le_of_ble_eq_true rfl) ?_
  intro p e s m args below meth c cx
  have cx : hg_Cx E p s m args meth c cX6_saysTo 6 RX6 (some .int) := cx
  refine hg_aload0 (pc' := 1) cx dX6_saysTo_0 rfl ?_
  refine hg_iload1 (pc' := 2) cx dX6_saysTo_1 rfl ?_
  refine hg_iconst (pc' := 3) cx (nI 1) dX6_saysTo_2 (by decide) rfl ?_
  refine cv_X6_48 (pc' := 6) cx (K_X6_it l E _ _ (by first | assumption | omega | decide) _ (by first | assumption | omega | decide)) ⟨rfl, rfl, Nat.le_of_ble_eq_true rfl, Nat.le_of_ble_eq_true rfl⟩ (Nat.le_of_ble_eq_true rfl) dX6_saysTo_3 rfl (fun r_3 τ_3 h_3 => ?_)
  obtain ⟨rfl, rfl⟩ := h_3
  refine hg_iload2 (pc' := 7) cx dX6_saysTo_6 rfl ?_
  refine hg_ishr (pc' := 8) cx dX6_saysTo_7 rfl ?_
  refine hg_iconst (pc' := 9) cx 1 dX6_saysTo_8 (by decide) rfl ?_
  refine hg_iand (pc' := 10) cx dX6_saysTo_9 rfl ?_
  refine hg_istore3 (pc' := 11) cx rfl dX6_saysTo_10 rfl ?_
  refine hg_aload0 (pc' := 12) cx dX6_saysTo_11 rfl ?_
  refine hg_iload1 (pc' := 13) cx dX6_saysTo_12 rfl ?_
  refine hg_iconst (pc' := 14) cx (nI 3) dX6_saysTo_13 (by decide) rfl ?_
  refine cv_X6_48 (pc' := 17) cx (K_X6_it l E _ _ (by first | assumption | omega | decide) _ (by first | assumption | omega | decide)) ⟨rfl, rfl, Nat.le_of_ble_eq_true rfl, Nat.le_of_ble_eq_true rfl⟩ (Nat.le_of_ble_eq_true rfl) dX6_saysTo_14 rfl (fun r_14 τ_14 h_14 => ?_)
  obtain ⟨rfl, rfl⟩ := h_14
  refine hg_aload0 (pc' := 18) cx dX6_saysTo_17 rfl ?_
  refine hg_iload1 (pc' := 19) cx dX6_saysTo_18 rfl ?_
  refine hg_iconst (pc' := 20) cx (nI 2) dX6_saysTo_19 (by decide) rfl ?_
  refine cv_X6_48 (pc' := 23) cx (K_X6_it l E _ _ (by first | assumption | omega | decide) _ (by first | assumption | omega | decide)) ⟨rfl, rfl, Nat.le_of_ble_eq_true rfl, Nat.le_of_ble_eq_true rfl⟩ (Nat.le_of_ble_eq_true rfl) dX6_saysTo_20 rfl (fun r_20 τ_20 h_20 => ?_)
  obtain ⟨rfl, rfl⟩ := h_20
  refine hg_icmp_le (pc' := 26) cx 32 dX6_saysTo_23 (by decide) rfl (fun c_23 => ?_) (fun c_23 => ?_)
  ·
    have d_23 := Int32.not_lt.mpr c_23
    refine hg_iload3 (pc' := 33) cx dX6_saysTo_32 rfl ?_
    refine hg_istore4 (pc' := 35) cx rfl dX6_saysTo_33 rfl ?_
    refine hg_aload0 (pc' := 36) cx dX6_saysTo_35 rfl ?_
    refine hg_iload1 (pc' := 37) cx dX6_saysTo_36 rfl ?_
    refine hg_iconst (pc' := 38) cx (nI 4) dX6_saysTo_37 (by decide) rfl ?_
    refine cv_X6_48 (pc' := 41) cx (K_X6_it l E _ _ (by first | assumption | omega | decide) _ (by first | assumption | omega | decide)) ⟨rfl, rfl, Nat.le_of_ble_eq_true rfl, Nat.le_of_ble_eq_true rfl⟩ (Nat.le_of_ble_eq_true rfl) dX6_saysTo_38 rfl (fun r_38 τ_38 h_38 => ?_)
    obtain ⟨rfl, rfl⟩ := h_38
    refine hg_bipush (pc' := 43) cx 30 dX6_saysTo_41 (by decide) rfl ?_
    refine hg_icmp_ge (pc' := 46) cx 59 dX6_saysTo_43 (by decide) rfl (fun c_43 => ?_) (fun c_43 => ?_)
    ·
      have d_43 := Int32.not_lt.mpr c_43
      refine hg_iload3 (pc' := 60) cx dX6_saysTo_59 rfl ?_
      refine hg_istore5 (pc' := 62) cx rfl dX6_saysTo_60 rfl ?_
      refine hg_aload0 (pc' := 63) cx dX6_saysTo_62 rfl ?_
      refine hg_iload1 (pc' := 64) cx dX6_saysTo_63 rfl ?_
      refine hg_iconst (pc' := 65) cx (nI 0) dX6_saysTo_64 (by decide) rfl ?_
      refine cv_X6_48 (pc' := 68) cx (K_X6_it l E _ _ (by first | assumption | omega | decide) _ (by first | assumption | omega | decide)) ⟨rfl, rfl, Nat.le_of_ble_eq_true rfl, Nat.le_of_ble_eq_true rfl⟩ (Nat.le_of_ble_eq_true rfl) dX6_saysTo_65 rfl (fun r_65 τ_65 h_65 => ?_)
      obtain ⟨rfl, rfl⟩ := h_65
      refine hg_tsw cx [1, 2, 3, 4, 5] [104, 107, 110, 135, 151] 164 dX6_saysTo_68 (by decide) (by decide) (fun c_68 => ?_) (fun i v t hk ht c_68 => ?_)
      ·
        simp only [List.mem_cons, List.not_mem_nil, or_false, forall_eq_or_imp, forall_eq] at c_68
        refine hg_iload3 (pc' := 165) cx dX6_saysTo_164 rfl ?_
        refine hg_iret cx dX6_saysTo_165 ⟨_, rfl, ?_⟩
        exact ⟨by simp (decide := true) only [sp_says, sp_bowler, sp_cap, sp_bit, sp_hr, c_23, d_23, c_43, d_43, c_68, if_true, if_false, and_self, and_true, true_and, and_false, false_and], rfl⟩
      ·
        match i, hk, ht with
        | 0, hk, ht =>
          cases hk; cases ht
          refine hg_iload4 (pc' := 106) cx dX6_saysTo_104 rfl ?_
          refine hg_iret cx dX6_saysTo_106 ⟨_, rfl, ?_⟩
          exact ⟨by simp (decide := true) only [sp_says, sp_bowler, sp_cap, sp_bit, sp_hr, c_23, d_23, c_43, d_43, c_68, if_true, if_false, and_self, and_true, true_and, and_false, false_and], rfl⟩
        | 1, hk, ht =>
          cases hk; cases ht
          refine hg_iload5 (pc' := 109) cx dX6_saysTo_107 rfl ?_
          refine hg_iret cx dX6_saysTo_109 ⟨_, rfl, ?_⟩
          exact ⟨by simp (decide := true) only [sp_says, sp_bowler, sp_cap, sp_bit, sp_hr, c_23, d_23, c_43, d_43, c_68, if_true, if_false, and_self, and_true, true_and, and_false, false_and], rfl⟩
        | 2, hk, ht =>
          cases hk; cases ht
          refine hg_aload0 (pc' := 111) cx dX6_saysTo_110 rfl ?_
          refine hg_iload1 (pc' := 112) cx dX6_saysTo_111 rfl ?_
          refine hg_iconst (pc' := 113) cx (nI 3) dX6_saysTo_112 (by decide) rfl ?_
          refine cv_X6_48 (pc' := 116) cx (K_X6_it l E _ _ (by first | assumption | omega | decide) _ (by first | assumption | omega | decide)) ⟨rfl, rfl, Nat.le_of_ble_eq_true rfl, Nat.le_of_ble_eq_true rfl⟩ (Nat.le_of_ble_eq_true rfl) dX6_saysTo_113 rfl (fun r_113 τ_113 h_113 => ?_)
          obtain ⟨rfl, rfl⟩ := h_113
          refine hg_if_ne (pc' := 119) cx 133 dX6_saysTo_116 (by decide) rfl (fun c_116 => ?_) (fun c_116 => ?_)
          ·
            refine hg_iload3 (pc' := 134) cx dX6_saysTo_133 rfl ?_
            refine hg_iret cx dX6_saysTo_134 ⟨_, rfl, ?_⟩
            exact ⟨by simp (decide := true) only [sp_says, sp_bowler, sp_cap, sp_bit, sp_hr, c_23, d_23, c_43, d_43, c_68, c_116, if_true, if_false, and_self, and_true, true_and, and_false, false_and], rfl⟩
          ·
            refine hg_aload0 (pc' := 120) cx dX6_saysTo_119 rfl ?_
            refine hg_iload1 (pc' := 121) cx dX6_saysTo_120 rfl ?_
            refine hg_iconst (pc' := 122) cx (nI 2) dX6_saysTo_121 (by decide) rfl ?_
            refine cv_X6_48 (pc' := 125) cx (K_X6_it l E _ _ (by first | assumption | omega | decide) _ (by first | assumption | omega | decide)) ⟨rfl, rfl, Nat.le_of_ble_eq_true rfl, Nat.le_of_ble_eq_true rfl⟩ (Nat.le_of_ble_eq_true rfl) dX6_saysTo_122 rfl (fun r_122 τ_122 h_122 => ?_)
            obtain ⟨rfl, rfl⟩ := h_122
            refine hg_iconst (pc' := 126) cx 3 dX6_saysTo_125 (by decide) rfl ?_
            refine hg_icmp_ge (pc' := 129) cx 133 dX6_saysTo_126 (by decide) rfl (fun c_126 => ?_) (fun c_126 => ?_)
            ·
              have d_126 := Int32.not_lt.mpr c_126
              refine hg_iload3 (pc' := 134) cx dX6_saysTo_133 rfl ?_
              refine hg_iret cx dX6_saysTo_134 ⟨_, rfl, ?_⟩
              exact ⟨by simp (decide := true) only [sp_says, sp_bowler, sp_cap, sp_bit, sp_hr, c_23, d_23, c_43, d_43, c_68, c_116, c_126, d_126, if_true, if_false, and_self, and_true, true_and, and_false, false_and], rfl⟩
            ·
              have d_126 := Int32.not_le.mp c_126
              refine hg_iconst (pc' := 130) cx (-1) dX6_saysTo_129 (by decide) rfl ?_
              refine hg_goto cx 134 dX6_saysTo_130 (by decide) ?_
              refine hg_iret cx dX6_saysTo_134 ⟨_, rfl, ?_⟩
              exact ⟨by simp (decide := true) only [sp_says, sp_bowler, sp_cap, sp_bit, sp_hr, c_23, d_23, c_43, d_43, c_68, c_116, c_126, d_126, if_true, if_false, and_self, and_true, true_and, and_false, false_and], rfl⟩
        | 3, hk, ht =>
          cases hk; cases ht
          refine hg_aload0 (pc' := 136) cx dX6_saysTo_135 rfl ?_
          refine hg_iload1 (pc' := 137) cx dX6_saysTo_136 rfl ?_
          refine hg_iconst (pc' := 138) cx (nI 4) dX6_saysTo_137 (by decide) rfl ?_
          refine cv_X6_48 (pc' := 141) cx (K_X6_it l E _ _ (by first | assumption | omega | decide) _ (by first | assumption | omega | decide)) ⟨rfl, rfl, Nat.le_of_ble_eq_true rfl, Nat.le_of_ble_eq_true rfl⟩ (Nat.le_of_ble_eq_true rfl) dX6_saysTo_138 rfl (fun r_138 τ_138 h_138 => ?_)
          obtain ⟨rfl, rfl⟩ := h_138
          refine hg_if_ne (pc' := 144) cx 148 dX6_saysTo_141 (by decide) rfl (fun c_141 => ?_) (fun c_141 => ?_)
          ·
            refine hg_iload4 (pc' := 150) cx dX6_saysTo_148 rfl ?_
            refine hg_iret cx dX6_saysTo_150 ⟨_, rfl, ?_⟩
            exact ⟨by simp (decide := true) only [sp_says, sp_bowler, sp_cap, sp_bit, sp_hr, c_23, d_23, c_43, d_43, c_68, c_141, if_true, if_false, and_self, and_true, true_and, and_false, false_and], rfl⟩
          ·
            refine hg_iconst (pc' := 145) cx (-1) dX6_saysTo_144 (by decide) rfl ?_
            refine hg_goto cx 150 dX6_saysTo_145 (by decide) ?_
            refine hg_iret cx dX6_saysTo_150 ⟨_, rfl, ?_⟩
            exact ⟨by simp (decide := true) only [sp_says, sp_bowler, sp_cap, sp_bit, sp_hr, c_23, d_23, c_43, d_43, c_68, c_141, if_true, if_false, and_self, and_true, true_and, and_false, false_and], rfl⟩
        | 4, hk, ht =>
          cases hk; cases ht
          refine hg_iload2 (pc' := 152) cx dX6_saysTo_151 rfl ?_
          refine hg_bipush (pc' := 154) cx 7 dX6_saysTo_152 (by decide) rfl ?_
          refine hg_icmp_ne (pc' := 157) cx 161 dX6_saysTo_154 (by decide) rfl (fun c_154 => ?_) (fun c_154 => ?_)
          ·
            refine hg_iload5 (pc' := 163) cx dX6_saysTo_161 rfl ?_
            refine hg_iret cx dX6_saysTo_163 ⟨_, rfl, ?_⟩
            exact ⟨by simp (decide := true) only [sp_says, sp_bowler, sp_cap, sp_bit, sp_hr, c_23, d_23, c_43, d_43, c_68, c_154, if_true, if_false, and_self, and_true, true_and, and_false, false_and], rfl⟩
          ·
            refine hg_iconst (pc' := 158) cx 1 dX6_saysTo_157 (by decide) rfl ?_
            refine hg_goto cx 163 dX6_saysTo_158 (by decide) ?_
            refine hg_iret cx dX6_saysTo_163 ⟨_, rfl, ?_⟩
            exact ⟨by simp (decide := true) only [sp_says, sp_bowler, sp_cap, sp_bit, sp_hr, c_23, d_23, c_43, d_43, c_68, c_154, if_true, if_false, and_self, and_true, true_and, and_false, false_and], rfl⟩
        | j + 5, hk, ht => exact absurd hk (by simp)
    ·
      have d_43 := Int32.not_le.mp c_43
      refine hg_aload0 (pc' := 47) cx dX6_saysTo_46 rfl ?_
      refine gf_X6_9 (pc' := 50) cx dX6_saysTo_47 rfl ?_
      refine hg_iconst (pc' := 51) cx (nI 2) dX6_saysTo_50 (by decide) rfl ?_
      refine hg_iald2 (pc' := 52) cx (by decide) (hg_ceI51 E) (by first | assumption | omega | decide) (by decide) dX6_saysTo_51 rfl ?_
      refine hg_iload2 (pc' := 53) cx dX6_saysTo_52 rfl ?_
      refine hg_ishr (pc' := 54) cx dX6_saysTo_53 rfl ?_
      refine hg_iconst (pc' := 55) cx 1 dX6_saysTo_54 (by decide) rfl ?_
      refine hg_iand (pc' := 56) cx dX6_saysTo_55 rfl ?_
      refine hg_goto cx 60 dX6_saysTo_56 (by decide) ?_
      refine hg_istore5 (pc' := 62) cx rfl dX6_saysTo_60 rfl ?_
      refine hg_aload0 (pc' := 63) cx dX6_saysTo_62 rfl ?_
      refine hg_iload1 (pc' := 64) cx dX6_saysTo_63 rfl ?_
      refine hg_iconst (pc' := 65) cx (nI 0) dX6_saysTo_64 (by decide) rfl ?_
      refine cv_X6_48 (pc' := 68) cx (K_X6_it l E _ _ (by first | assumption | omega | decide) _ (by first | assumption | omega | decide)) ⟨rfl, rfl, Nat.le_of_ble_eq_true rfl, Nat.le_of_ble_eq_true rfl⟩ (Nat.le_of_ble_eq_true rfl) dX6_saysTo_65 rfl (fun r_65 τ_65 h_65 => ?_)
      obtain ⟨rfl, rfl⟩ := h_65
      refine hg_tsw cx [1, 2, 3, 4, 5] [104, 107, 110, 135, 151] 164 dX6_saysTo_68 (by decide) (by decide) (fun c_68 => ?_) (fun i v t hk ht c_68 => ?_)
      ·
        simp only [List.mem_cons, List.not_mem_nil, or_false, forall_eq_or_imp, forall_eq] at c_68
        refine hg_iload3 (pc' := 165) cx dX6_saysTo_164 rfl ?_
        refine hg_iret cx dX6_saysTo_165 ⟨_, rfl, ?_⟩
        exact ⟨by simp (decide := true) only [sp_says, sp_bowler, sp_cap, sp_bit, sp_hr, c_23, d_23, c_43, d_43, c_68, if_true, if_false, and_self, and_true, true_and, and_false, false_and], rfl⟩
      ·
        match i, hk, ht with
        | 0, hk, ht =>
          cases hk; cases ht
          refine hg_iload4 (pc' := 106) cx dX6_saysTo_104 rfl ?_
          refine hg_iret cx dX6_saysTo_106 ⟨_, rfl, ?_⟩
          exact ⟨by simp (decide := true) only [sp_says, sp_bowler, sp_cap, sp_bit, sp_hr, c_23, d_23, c_43, d_43, c_68, if_true, if_false, and_self, and_true, true_and, and_false, false_and], rfl⟩
        | 1, hk, ht =>
          cases hk; cases ht
          refine hg_iload5 (pc' := 109) cx dX6_saysTo_107 rfl ?_
          refine hg_iret cx dX6_saysTo_109 ⟨_, rfl, ?_⟩
          exact ⟨by simp (decide := true) only [sp_says, sp_bowler, sp_cap, sp_bit, sp_hr, c_23, d_23, c_43, d_43, c_68, if_true, if_false, and_self, and_true, true_and, and_false, false_and], rfl⟩
        | 2, hk, ht =>
          cases hk; cases ht
          refine hg_aload0 (pc' := 111) cx dX6_saysTo_110 rfl ?_
          refine hg_iload1 (pc' := 112) cx dX6_saysTo_111 rfl ?_
          refine hg_iconst (pc' := 113) cx (nI 3) dX6_saysTo_112 (by decide) rfl ?_
          refine cv_X6_48 (pc' := 116) cx (K_X6_it l E _ _ (by first | assumption | omega | decide) _ (by first | assumption | omega | decide)) ⟨rfl, rfl, Nat.le_of_ble_eq_true rfl, Nat.le_of_ble_eq_true rfl⟩ (Nat.le_of_ble_eq_true rfl) dX6_saysTo_113 rfl (fun r_113 τ_113 h_113 => ?_)
          obtain ⟨rfl, rfl⟩ := h_113
          refine hg_if_ne (pc' := 119) cx 133 dX6_saysTo_116 (by decide) rfl (fun c_116 => ?_) (fun c_116 => ?_)
          ·
            refine hg_iload3 (pc' := 134) cx dX6_saysTo_133 rfl ?_
            refine hg_iret cx dX6_saysTo_134 ⟨_, rfl, ?_⟩
            exact ⟨by simp (decide := true) only [sp_says, sp_bowler, sp_cap, sp_bit, sp_hr, c_23, d_23, c_43, d_43, c_68, c_116, if_true, if_false, and_self, and_true, true_and, and_false, false_and], rfl⟩
          ·
            refine hg_aload0 (pc' := 120) cx dX6_saysTo_119 rfl ?_
            refine hg_iload1 (pc' := 121) cx dX6_saysTo_120 rfl ?_
            refine hg_iconst (pc' := 122) cx (nI 2) dX6_saysTo_121 (by decide) rfl ?_
            refine cv_X6_48 (pc' := 125) cx (K_X6_it l E _ _ (by first | assumption | omega | decide) _ (by first | assumption | omega | decide)) ⟨rfl, rfl, Nat.le_of_ble_eq_true rfl, Nat.le_of_ble_eq_true rfl⟩ (Nat.le_of_ble_eq_true rfl) dX6_saysTo_122 rfl (fun r_122 τ_122 h_122 => ?_)
            obtain ⟨rfl, rfl⟩ := h_122
            refine hg_iconst (pc' := 126) cx 3 dX6_saysTo_125 (by decide) rfl ?_
            refine hg_icmp_ge (pc' := 129) cx 133 dX6_saysTo_126 (by decide) rfl (fun c_126 => ?_) (fun c_126 => ?_)
            ·
              have d_126 := Int32.not_lt.mpr c_126
              refine hg_iload3 (pc' := 134) cx dX6_saysTo_133 rfl ?_
              refine hg_iret cx dX6_saysTo_134 ⟨_, rfl, ?_⟩
              exact ⟨by simp (decide := true) only [sp_says, sp_bowler, sp_cap, sp_bit, sp_hr, c_23, d_23, c_43, d_43, c_68, c_116, c_126, d_126, if_true, if_false, and_self, and_true, true_and, and_false, false_and], rfl⟩
            ·
              have d_126 := Int32.not_le.mp c_126
              refine hg_iconst (pc' := 130) cx (-1) dX6_saysTo_129 (by decide) rfl ?_
              refine hg_goto cx 134 dX6_saysTo_130 (by decide) ?_
              refine hg_iret cx dX6_saysTo_134 ⟨_, rfl, ?_⟩
              exact ⟨by simp (decide := true) only [sp_says, sp_bowler, sp_cap, sp_bit, sp_hr, c_23, d_23, c_43, d_43, c_68, c_116, c_126, d_126, if_true, if_false, and_self, and_true, true_and, and_false, false_and], rfl⟩
        | 3, hk, ht =>
          cases hk; cases ht
          refine hg_aload0 (pc' := 136) cx dX6_saysTo_135 rfl ?_
          refine hg_iload1 (pc' := 137) cx dX6_saysTo_136 rfl ?_
          refine hg_iconst (pc' := 138) cx (nI 4) dX6_saysTo_137 (by decide) rfl ?_
          refine cv_X6_48 (pc' := 141) cx (K_X6_it l E _ _ (by first | assumption | omega | decide) _ (by first | assumption | omega | decide)) ⟨rfl, rfl, Nat.le_of_ble_eq_true rfl, Nat.le_of_ble_eq_true rfl⟩ (Nat.le_of_ble_eq_true rfl) dX6_saysTo_138 rfl (fun r_138 τ_138 h_138 => ?_)
          obtain ⟨rfl, rfl⟩ := h_138
          refine hg_if_ne (pc' := 144) cx 148 dX6_saysTo_141 (by decide) rfl (fun c_141 => ?_) (fun c_141 => ?_)
          ·
            refine hg_iload4 (pc' := 150) cx dX6_saysTo_148 rfl ?_
            refine hg_iret cx dX6_saysTo_150 ⟨_, rfl, ?_⟩
            exact ⟨by simp (decide := true) only [sp_says, sp_bowler, sp_cap, sp_bit, sp_hr, c_23, d_23, c_43, d_43, c_68, c_141, if_true, if_false, and_self, and_true, true_and, and_false, false_and], rfl⟩
          ·
            refine hg_iconst (pc' := 145) cx (-1) dX6_saysTo_144 (by decide) rfl ?_
            refine hg_goto cx 150 dX6_saysTo_145 (by decide) ?_
            refine hg_iret cx dX6_saysTo_150 ⟨_, rfl, ?_⟩
            exact ⟨by simp (decide := true) only [sp_says, sp_bowler, sp_cap, sp_bit, sp_hr, c_23, d_23, c_43, d_43, c_68, c_141, if_true, if_false, and_self, and_true, true_and, and_false, false_and], rfl⟩
        | 4, hk, ht =>
          cases hk; cases ht
          refine hg_iload2 (pc' := 152) cx dX6_saysTo_151 rfl ?_
          refine hg_bipush (pc' := 154) cx 7 dX6_saysTo_152 (by decide) rfl ?_
          refine hg_icmp_ne (pc' := 157) cx 161 dX6_saysTo_154 (by decide) rfl (fun c_154 => ?_) (fun c_154 => ?_)
          ·
            refine hg_iload5 (pc' := 163) cx dX6_saysTo_161 rfl ?_
            refine hg_iret cx dX6_saysTo_163 ⟨_, rfl, ?_⟩
            exact ⟨by simp (decide := true) only [sp_says, sp_bowler, sp_cap, sp_bit, sp_hr, c_23, d_23, c_43, d_43, c_68, c_154, if_true, if_false, and_self, and_true, true_and, and_false, false_and], rfl⟩
          ·
            refine hg_iconst (pc' := 158) cx 1 dX6_saysTo_157 (by decide) rfl ?_
            refine hg_goto cx 163 dX6_saysTo_158 (by decide) ?_
            refine hg_iret cx dX6_saysTo_163 ⟨_, rfl, ?_⟩
            exact ⟨by simp (decide := true) only [sp_says, sp_bowler, sp_cap, sp_bit, sp_hr, c_23, d_23, c_43, d_43, c_68, c_154, if_true, if_false, and_self, and_true, true_and, and_false, false_and], rfl⟩
        | j + 5, hk, ht => exact absurd hk (by simp)
  ·
    have d_23 := Int32.not_le.mp c_23
    refine hg_iconst (pc' := 27) cx 1 dX6_saysTo_26 (by decide) rfl ?_
    refine hg_iload3 (pc' := 28) cx dX6_saysTo_27 rfl ?_
    refine hg_isub (pc' := 29) cx dX6_saysTo_28 rfl ?_
    refine hg_goto cx 33 dX6_saysTo_29 (by decide) ?_
    refine hg_istore4 (pc' := 35) cx rfl dX6_saysTo_33 rfl ?_
    refine hg_aload0 (pc' := 36) cx dX6_saysTo_35 rfl ?_
    refine hg_iload1 (pc' := 37) cx dX6_saysTo_36 rfl ?_
    refine hg_iconst (pc' := 38) cx (nI 4) dX6_saysTo_37 (by decide) rfl ?_
    refine cv_X6_48 (pc' := 41) cx (K_X6_it l E _ _ (by first | assumption | omega | decide) _ (by first | assumption | omega | decide)) ⟨rfl, rfl, Nat.le_of_ble_eq_true rfl, Nat.le_of_ble_eq_true rfl⟩ (Nat.le_of_ble_eq_true rfl) dX6_saysTo_38 rfl (fun r_38 τ_38 h_38 => ?_)
    obtain ⟨rfl, rfl⟩ := h_38
    refine hg_bipush (pc' := 43) cx 30 dX6_saysTo_41 (by decide) rfl ?_
    refine hg_icmp_ge (pc' := 46) cx 59 dX6_saysTo_43 (by decide) rfl (fun c_43 => ?_) (fun c_43 => ?_)
    ·
      have d_43 := Int32.not_lt.mpr c_43
      refine hg_iload3 (pc' := 60) cx dX6_saysTo_59 rfl ?_
      refine hg_istore5 (pc' := 62) cx rfl dX6_saysTo_60 rfl ?_
      refine hg_aload0 (pc' := 63) cx dX6_saysTo_62 rfl ?_
      refine hg_iload1 (pc' := 64) cx dX6_saysTo_63 rfl ?_
      refine hg_iconst (pc' := 65) cx (nI 0) dX6_saysTo_64 (by decide) rfl ?_
      refine cv_X6_48 (pc' := 68) cx (K_X6_it l E _ _ (by first | assumption | omega | decide) _ (by first | assumption | omega | decide)) ⟨rfl, rfl, Nat.le_of_ble_eq_true rfl, Nat.le_of_ble_eq_true rfl⟩ (Nat.le_of_ble_eq_true rfl) dX6_saysTo_65 rfl (fun r_65 τ_65 h_65 => ?_)
      obtain ⟨rfl, rfl⟩ := h_65
      refine hg_tsw cx [1, 2, 3, 4, 5] [104, 107, 110, 135, 151] 164 dX6_saysTo_68 (by decide) (by decide) (fun c_68 => ?_) (fun i v t hk ht c_68 => ?_)
      ·
        simp only [List.mem_cons, List.not_mem_nil, or_false, forall_eq_or_imp, forall_eq] at c_68
        refine hg_iload3 (pc' := 165) cx dX6_saysTo_164 rfl ?_
        refine hg_iret cx dX6_saysTo_165 ⟨_, rfl, ?_⟩
        exact ⟨by simp (decide := true) only [sp_says, sp_bowler, sp_cap, sp_bit, sp_hr, c_23, d_23, c_43, d_43, c_68, if_true, if_false, and_self, and_true, true_and, and_false, false_and], rfl⟩
      ·
        match i, hk, ht with
        | 0, hk, ht =>
          cases hk; cases ht
          refine hg_iload4 (pc' := 106) cx dX6_saysTo_104 rfl ?_
          refine hg_iret cx dX6_saysTo_106 ⟨_, rfl, ?_⟩
          exact ⟨by simp (decide := true) only [sp_says, sp_bowler, sp_cap, sp_bit, sp_hr, c_23, d_23, c_43, d_43, c_68, if_true, if_false, and_self, and_true, true_and, and_false, false_and], rfl⟩
        | 1, hk, ht =>
          cases hk; cases ht
          refine hg_iload5 (pc' := 109) cx dX6_saysTo_107 rfl ?_
          refine hg_iret cx dX6_saysTo_109 ⟨_, rfl, ?_⟩
          exact ⟨by simp (decide := true) only [sp_says, sp_bowler, sp_cap, sp_bit, sp_hr, c_23, d_23, c_43, d_43, c_68, if_true, if_false, and_self, and_true, true_and, and_false, false_and], rfl⟩
        | 2, hk, ht =>
          cases hk; cases ht
          refine hg_aload0 (pc' := 111) cx dX6_saysTo_110 rfl ?_
          refine hg_iload1 (pc' := 112) cx dX6_saysTo_111 rfl ?_
          refine hg_iconst (pc' := 113) cx (nI 3) dX6_saysTo_112 (by decide) rfl ?_
          refine cv_X6_48 (pc' := 116) cx (K_X6_it l E _ _ (by first | assumption | omega | decide) _ (by first | assumption | omega | decide)) ⟨rfl, rfl, Nat.le_of_ble_eq_true rfl, Nat.le_of_ble_eq_true rfl⟩ (Nat.le_of_ble_eq_true rfl) dX6_saysTo_113 rfl (fun r_113 τ_113 h_113 => ?_)
          obtain ⟨rfl, rfl⟩ := h_113
          refine hg_if_ne (pc' := 119) cx 133 dX6_saysTo_116 (by decide) rfl (fun c_116 => ?_) (fun c_116 => ?_)
          ·
            refine hg_iload3 (pc' := 134) cx dX6_saysTo_133 rfl ?_
            refine hg_iret cx dX6_saysTo_134 ⟨_, rfl, ?_⟩
            exact ⟨by simp (decide := true) only [sp_says, sp_bowler, sp_cap, sp_bit, sp_hr, c_23, d_23, c_43, d_43, c_68, c_116, if_true, if_false, and_self, and_true, true_and, and_false, false_and], rfl⟩
          ·
            refine hg_aload0 (pc' := 120) cx dX6_saysTo_119 rfl ?_
            refine hg_iload1 (pc' := 121) cx dX6_saysTo_120 rfl ?_
            refine hg_iconst (pc' := 122) cx (nI 2) dX6_saysTo_121 (by decide) rfl ?_
            refine cv_X6_48 (pc' := 125) cx (K_X6_it l E _ _ (by first | assumption | omega | decide) _ (by first | assumption | omega | decide)) ⟨rfl, rfl, Nat.le_of_ble_eq_true rfl, Nat.le_of_ble_eq_true rfl⟩ (Nat.le_of_ble_eq_true rfl) dX6_saysTo_122 rfl (fun r_122 τ_122 h_122 => ?_)
            obtain ⟨rfl, rfl⟩ := h_122
            refine hg_iconst (pc' := 126) cx 3 dX6_saysTo_125 (by decide) rfl ?_
            refine hg_icmp_ge (pc' := 129) cx 133 dX6_saysTo_126 (by decide) rfl (fun c_126 => ?_) (fun c_126 => ?_)
            ·
              have d_126 := Int32.not_lt.mpr c_126
              refine hg_iload3 (pc' := 134) cx dX6_saysTo_133 rfl ?_
              refine hg_iret cx dX6_saysTo_134 ⟨_, rfl, ?_⟩
              exact ⟨by simp (decide := true) only [sp_says, sp_bowler, sp_cap, sp_bit, sp_hr, c_23, d_23, c_43, d_43, c_68, c_116, c_126, d_126, if_true, if_false, and_self, and_true, true_and, and_false, false_and], rfl⟩
            ·
              have d_126 := Int32.not_le.mp c_126
              refine hg_iconst (pc' := 130) cx (-1) dX6_saysTo_129 (by decide) rfl ?_
              refine hg_goto cx 134 dX6_saysTo_130 (by decide) ?_
              refine hg_iret cx dX6_saysTo_134 ⟨_, rfl, ?_⟩
              exact ⟨by simp (decide := true) only [sp_says, sp_bowler, sp_cap, sp_bit, sp_hr, c_23, d_23, c_43, d_43, c_68, c_116, c_126, d_126, if_true, if_false, and_self, and_true, true_and, and_false, false_and], rfl⟩
        | 3, hk, ht =>
          cases hk; cases ht
          refine hg_aload0 (pc' := 136) cx dX6_saysTo_135 rfl ?_
          refine hg_iload1 (pc' := 137) cx dX6_saysTo_136 rfl ?_
          refine hg_iconst (pc' := 138) cx (nI 4) dX6_saysTo_137 (by decide) rfl ?_
          refine cv_X6_48 (pc' := 141) cx (K_X6_it l E _ _ (by first | assumption | omega | decide) _ (by first | assumption | omega | decide)) ⟨rfl, rfl, Nat.le_of_ble_eq_true rfl, Nat.le_of_ble_eq_true rfl⟩ (Nat.le_of_ble_eq_true rfl) dX6_saysTo_138 rfl (fun r_138 τ_138 h_138 => ?_)
          obtain ⟨rfl, rfl⟩ := h_138
          refine hg_if_ne (pc' := 144) cx 148 dX6_saysTo_141 (by decide) rfl (fun c_141 => ?_) (fun c_141 => ?_)
          ·
            refine hg_iload4 (pc' := 150) cx dX6_saysTo_148 rfl ?_
            refine hg_iret cx dX6_saysTo_150 ⟨_, rfl, ?_⟩
            exact ⟨by simp (decide := true) only [sp_says, sp_bowler, sp_cap, sp_bit, sp_hr, c_23, d_23, c_43, d_43, c_68, c_141, if_true, if_false, and_self, and_true, true_and, and_false, false_and], rfl⟩
          ·
            refine hg_iconst (pc' := 145) cx (-1) dX6_saysTo_144 (by decide) rfl ?_
            refine hg_goto cx 150 dX6_saysTo_145 (by decide) ?_
            refine hg_iret cx dX6_saysTo_150 ⟨_, rfl, ?_⟩
            exact ⟨by simp (decide := true) only [sp_says, sp_bowler, sp_cap, sp_bit, sp_hr, c_23, d_23, c_43, d_43, c_68, c_141, if_true, if_false, and_self, and_true, true_and, and_false, false_and], rfl⟩
        | 4, hk, ht =>
          cases hk; cases ht
          refine hg_iload2 (pc' := 152) cx dX6_saysTo_151 rfl ?_
          refine hg_bipush (pc' := 154) cx 7 dX6_saysTo_152 (by decide) rfl ?_
          refine hg_icmp_ne (pc' := 157) cx 161 dX6_saysTo_154 (by decide) rfl (fun c_154 => ?_) (fun c_154 => ?_)
          ·
            refine hg_iload5 (pc' := 163) cx dX6_saysTo_161 rfl ?_
            refine hg_iret cx dX6_saysTo_163 ⟨_, rfl, ?_⟩
            exact ⟨by simp (decide := true) only [sp_says, sp_bowler, sp_cap, sp_bit, sp_hr, c_23, d_23, c_43, d_43, c_68, c_154, if_true, if_false, and_self, and_true, true_and, and_false, false_and], rfl⟩
          ·
            refine hg_iconst (pc' := 158) cx 1 dX6_saysTo_157 (by decide) rfl ?_
            refine hg_goto cx 163 dX6_saysTo_158 (by decide) ?_
            refine hg_iret cx dX6_saysTo_163 ⟨_, rfl, ?_⟩
            exact ⟨by simp (decide := true) only [sp_says, sp_bowler, sp_cap, sp_bit, sp_hr, c_23, d_23, c_43, d_43, c_68, c_154, if_true, if_false, and_self, and_true, true_and, and_false, false_and], rfl⟩
        | j + 5, hk, ht => exact absurd hk (by simp)
    ·
      have d_43 := Int32.not_le.mp c_43
      refine hg_aload0 (pc' := 47) cx dX6_saysTo_46 rfl ?_
      refine gf_X6_9 (pc' := 50) cx dX6_saysTo_47 rfl ?_
      refine hg_iconst (pc' := 51) cx (nI 2) dX6_saysTo_50 (by decide) rfl ?_
      refine hg_iald2 (pc' := 52) cx (by decide) (hg_ceI51 E) (by first | assumption | omega | decide) (by decide) dX6_saysTo_51 rfl ?_
      refine hg_iload2 (pc' := 53) cx dX6_saysTo_52 rfl ?_
      refine hg_ishr (pc' := 54) cx dX6_saysTo_53 rfl ?_
      refine hg_iconst (pc' := 55) cx 1 dX6_saysTo_54 (by decide) rfl ?_
      refine hg_iand (pc' := 56) cx dX6_saysTo_55 rfl ?_
      refine hg_goto cx 60 dX6_saysTo_56 (by decide) ?_
      refine hg_istore5 (pc' := 62) cx rfl dX6_saysTo_60 rfl ?_
      refine hg_aload0 (pc' := 63) cx dX6_saysTo_62 rfl ?_
      refine hg_iload1 (pc' := 64) cx dX6_saysTo_63 rfl ?_
      refine hg_iconst (pc' := 65) cx (nI 0) dX6_saysTo_64 (by decide) rfl ?_
      refine cv_X6_48 (pc' := 68) cx (K_X6_it l E _ _ (by first | assumption | omega | decide) _ (by first | assumption | omega | decide)) ⟨rfl, rfl, Nat.le_of_ble_eq_true rfl, Nat.le_of_ble_eq_true rfl⟩ (Nat.le_of_ble_eq_true rfl) dX6_saysTo_65 rfl (fun r_65 τ_65 h_65 => ?_)
      obtain ⟨rfl, rfl⟩ := h_65
      refine hg_tsw cx [1, 2, 3, 4, 5] [104, 107, 110, 135, 151] 164 dX6_saysTo_68 (by decide) (by decide) (fun c_68 => ?_) (fun i v t hk ht c_68 => ?_)
      ·
        simp only [List.mem_cons, List.not_mem_nil, or_false, forall_eq_or_imp, forall_eq] at c_68
        refine hg_iload3 (pc' := 165) cx dX6_saysTo_164 rfl ?_
        refine hg_iret cx dX6_saysTo_165 ⟨_, rfl, ?_⟩
        exact ⟨by simp (decide := true) only [sp_says, sp_bowler, sp_cap, sp_bit, sp_hr, c_23, d_23, c_43, d_43, c_68, if_true, if_false, and_self, and_true, true_and, and_false, false_and], rfl⟩
      ·
        match i, hk, ht with
        | 0, hk, ht =>
          cases hk; cases ht
          refine hg_iload4 (pc' := 106) cx dX6_saysTo_104 rfl ?_
          refine hg_iret cx dX6_saysTo_106 ⟨_, rfl, ?_⟩
          exact ⟨by simp (decide := true) only [sp_says, sp_bowler, sp_cap, sp_bit, sp_hr, c_23, d_23, c_43, d_43, c_68, if_true, if_false, and_self, and_true, true_and, and_false, false_and], rfl⟩
        | 1, hk, ht =>
          cases hk; cases ht
          refine hg_iload5 (pc' := 109) cx dX6_saysTo_107 rfl ?_
          refine hg_iret cx dX6_saysTo_109 ⟨_, rfl, ?_⟩
          exact ⟨by simp (decide := true) only [sp_says, sp_bowler, sp_cap, sp_bit, sp_hr, c_23, d_23, c_43, d_43, c_68, if_true, if_false, and_self, and_true, true_and, and_false, false_and], rfl⟩
        | 2, hk, ht =>
          cases hk; cases ht
          refine hg_aload0 (pc' := 111) cx dX6_saysTo_110 rfl ?_
          refine hg_iload1 (pc' := 112) cx dX6_saysTo_111 rfl ?_
          refine hg_iconst (pc' := 113) cx (nI 3) dX6_saysTo_112 (by decide) rfl ?_
          refine cv_X6_48 (pc' := 116) cx (K_X6_it l E _ _ (by first | assumption | omega | decide) _ (by first | assumption | omega | decide)) ⟨rfl, rfl, Nat.le_of_ble_eq_true rfl, Nat.le_of_ble_eq_true rfl⟩ (Nat.le_of_ble_eq_true rfl) dX6_saysTo_113 rfl (fun r_113 τ_113 h_113 => ?_)
          obtain ⟨rfl, rfl⟩ := h_113
          refine hg_if_ne (pc' := 119) cx 133 dX6_saysTo_116 (by decide) rfl (fun c_116 => ?_) (fun c_116 => ?_)
          ·
            refine hg_iload3 (pc' := 134) cx dX6_saysTo_133 rfl ?_
            refine hg_iret cx dX6_saysTo_134 ⟨_, rfl, ?_⟩
            exact ⟨by simp (decide := true) only [sp_says, sp_bowler, sp_cap, sp_bit, sp_hr, c_23, d_23, c_43, d_43, c_68, c_116, if_true, if_false, and_self, and_true, true_and, and_false, false_and], rfl⟩
          ·
            refine hg_aload0 (pc' := 120) cx dX6_saysTo_119 rfl ?_
            refine hg_iload1 (pc' := 121) cx dX6_saysTo_120 rfl ?_
            refine hg_iconst (pc' := 122) cx (nI 2) dX6_saysTo_121 (by decide) rfl ?_
            refine cv_X6_48 (pc' := 125) cx (K_X6_it l E _ _ (by first | assumption | omega | decide) _ (by first | assumption | omega | decide)) ⟨rfl, rfl, Nat.le_of_ble_eq_true rfl, Nat.le_of_ble_eq_true rfl⟩ (Nat.le_of_ble_eq_true rfl) dX6_saysTo_122 rfl (fun r_122 τ_122 h_122 => ?_)
            obtain ⟨rfl, rfl⟩ := h_122
            refine hg_iconst (pc' := 126) cx 3 dX6_saysTo_125 (by decide) rfl ?_
            refine hg_icmp_ge (pc' := 129) cx 133 dX6_saysTo_126 (by decide) rfl (fun c_126 => ?_) (fun c_126 => ?_)
            ·
              have d_126 := Int32.not_lt.mpr c_126
              refine hg_iload3 (pc' := 134) cx dX6_saysTo_133 rfl ?_
              refine hg_iret cx dX6_saysTo_134 ⟨_, rfl, ?_⟩
              exact ⟨by simp (decide := true) only [sp_says, sp_bowler, sp_cap, sp_bit, sp_hr, c_23, d_23, c_43, d_43, c_68, c_116, c_126, d_126, if_true, if_false, and_self, and_true, true_and, and_false, false_and], rfl⟩
            ·
              have d_126 := Int32.not_le.mp c_126
              refine hg_iconst (pc' := 130) cx (-1) dX6_saysTo_129 (by decide) rfl ?_
              refine hg_goto cx 134 dX6_saysTo_130 (by decide) ?_
              refine hg_iret cx dX6_saysTo_134 ⟨_, rfl, ?_⟩
              exact ⟨by simp (decide := true) only [sp_says, sp_bowler, sp_cap, sp_bit, sp_hr, c_23, d_23, c_43, d_43, c_68, c_116, c_126, d_126, if_true, if_false, and_self, and_true, true_and, and_false, false_and], rfl⟩
        | 3, hk, ht =>
          cases hk; cases ht
          refine hg_aload0 (pc' := 136) cx dX6_saysTo_135 rfl ?_
          refine hg_iload1 (pc' := 137) cx dX6_saysTo_136 rfl ?_
          refine hg_iconst (pc' := 138) cx (nI 4) dX6_saysTo_137 (by decide) rfl ?_
          refine cv_X6_48 (pc' := 141) cx (K_X6_it l E _ _ (by first | assumption | omega | decide) _ (by first | assumption | omega | decide)) ⟨rfl, rfl, Nat.le_of_ble_eq_true rfl, Nat.le_of_ble_eq_true rfl⟩ (Nat.le_of_ble_eq_true rfl) dX6_saysTo_138 rfl (fun r_138 τ_138 h_138 => ?_)
          obtain ⟨rfl, rfl⟩ := h_138
          refine hg_if_ne (pc' := 144) cx 148 dX6_saysTo_141 (by decide) rfl (fun c_141 => ?_) (fun c_141 => ?_)
          ·
            refine hg_iload4 (pc' := 150) cx dX6_saysTo_148 rfl ?_
            refine hg_iret cx dX6_saysTo_150 ⟨_, rfl, ?_⟩
            exact ⟨by simp (decide := true) only [sp_says, sp_bowler, sp_cap, sp_bit, sp_hr, c_23, d_23, c_43, d_43, c_68, c_141, if_true, if_false, and_self, and_true, true_and, and_false, false_and], rfl⟩
          ·
            refine hg_iconst (pc' := 145) cx (-1) dX6_saysTo_144 (by decide) rfl ?_
            refine hg_goto cx 150 dX6_saysTo_145 (by decide) ?_
            refine hg_iret cx dX6_saysTo_150 ⟨_, rfl, ?_⟩
            exact ⟨by simp (decide := true) only [sp_says, sp_bowler, sp_cap, sp_bit, sp_hr, c_23, d_23, c_43, d_43, c_68, c_141, if_true, if_false, and_self, and_true, true_and, and_false, false_and], rfl⟩
        | 4, hk, ht =>
          cases hk; cases ht
          refine hg_iload2 (pc' := 152) cx dX6_saysTo_151 rfl ?_
          refine hg_bipush (pc' := 154) cx 7 dX6_saysTo_152 (by decide) rfl ?_
          refine hg_icmp_ne (pc' := 157) cx 161 dX6_saysTo_154 (by decide) rfl (fun c_154 => ?_) (fun c_154 => ?_)
          ·
            refine hg_iload5 (pc' := 163) cx dX6_saysTo_161 rfl ?_
            refine hg_iret cx dX6_saysTo_163 ⟨_, rfl, ?_⟩
            exact ⟨by simp (decide := true) only [sp_says, sp_bowler, sp_cap, sp_bit, sp_hr, c_23, d_23, c_43, d_43, c_68, c_154, if_true, if_false, and_self, and_true, true_and, and_false, false_and], rfl⟩
          ·
            refine hg_iconst (pc' := 158) cx 1 dX6_saysTo_157 (by decide) rfl ?_
            refine hg_goto cx 163 dX6_saysTo_158 (by decide) ?_
            refine hg_iret cx dX6_saysTo_163 ⟨_, rfl, ?_⟩
            exact ⟨by simp (decide := true) only [sp_says, sp_bowler, sp_cap, sp_bit, sp_hr, c_23, d_23, c_43, d_43, c_68, c_154, if_true, if_false, and_self, and_true, true_and, and_false, false_and], rfl⟩
        | j + 5, hk, ht => exact absurd hk (by simp)
set_option maxHeartbeats 4000000 in
set_option maxRecDepth 100000 in
theorem K_X6_weighs (l : Launch) (E : hg_Wd) (σ : hg_Mem) (h : Nat) (hh : h < 10) : hg_C l E yX6_weighs cX6_weighs 3 (some .int) { frames := 1, cells := 0, slots := 0, locals := 22 } [.ref (hg_ad E 50), .int (nI h)] σ (hg_pi (fun r τ => r = sp_weighs (sp_hr (σ.1 51) h) (σ.1 51 0) ∧ σ = τ)) := by
  refine hg_intro (by decide) [some (.ref (hg_ad E 50)), some (.int (nI h)), none] rfl (Nat.le_of_ble_eq_true rfl) ?_
  intro p e s m args below meth c cx
  have cx : hg_Cx E p s m args meth c cX6_weighs 3 RX6 (some .int) := cx
  refine hg_iconst (pc' := 1) cx 1 dX6_weighs_0 (by decide) rfl ?_
  refine hg_aload0 (pc' := 2) cx dX6_weighs_1 rfl ?_
  refine hg_iload1 (pc' := 3) cx dX6_weighs_2 rfl ?_
  refine hg_iconst (pc' := 4) cx (nI 4) dX6_weighs_3 (by decide) rfl ?_
  refine cv_X6_48 (pc' := 7) cx (K_X6_it l E _ _ (by first | assumption | omega | decide) _ (by first | assumption | omega | decide)) ⟨rfl, rfl, Nat.le_of_ble_eq_true rfl, Nat.le_of_ble_eq_true rfl⟩ (Nat.le_of_ble_eq_true rfl) dX6_weighs_4 rfl (fun r_4 τ_4 h_4 => ?_)
  obtain ⟨rfl, rfl⟩ := h_4
  refine hg_bipush (pc' := 9) cx 50 dX6_weighs_7 (by decide) rfl ?_
  refine hg_idiv (pc' := 10) cx (by decide) dX6_weighs_9 rfl ?_
  refine hg_iadd (pc' := 11) cx dX6_weighs_10 rfl ?_
  refine hg_istore2 (pc' := 12) cx rfl dX6_weighs_11 rfl ?_
  refine hg_aload0 (pc' := 13) cx dX6_weighs_12 rfl ?_
  refine hg_iload1 (pc' := 14) cx dX6_weighs_13 rfl ?_
  refine hg_iconst (pc' := 15) cx (nI 0) dX6_weighs_14 (by decide) rfl ?_
  refine cv_X6_48 (pc' := 18) cx (K_X6_it l E _ _ (by first | assumption | omega | decide) _ (by first | assumption | omega | decide)) ⟨rfl, rfl, Nat.le_of_ble_eq_true rfl, Nat.le_of_ble_eq_true rfl⟩ (Nat.le_of_ble_eq_true rfl) dX6_weighs_15 rfl (fun r_15 τ_15 h_15 => ?_)
  obtain ⟨rfl, rfl⟩ := h_15
  refine hg_tsw cx [1, 2, 3, 4, 5] [52, 77, 54, 56, 60] 77 dX6_weighs_18 (by decide) (by decide) (fun c_18 => ?_) (fun i v t hk ht c_18 => ?_)
  ·
    simp only [List.mem_cons, List.not_mem_nil, or_false, forall_eq_or_imp, forall_eq] at c_18
    refine hg_iconst (pc' := 78) cx 1 dX6_weighs_77 (by decide) rfl ?_
    refine hg_iret cx dX6_weighs_78 ⟨_, rfl, ?_⟩
    exact ⟨by simp (decide := true) only [sp_weighs, sp_hr, c_18, if_true, if_false], rfl⟩
  ·
    match i, hk, ht with
    | 0, hk, ht =>
      cases hk; cases ht
      refine hg_iload2 (pc' := 53) cx dX6_weighs_52 rfl ?_
      refine hg_iret cx dX6_weighs_53 ⟨_, rfl, ?_⟩
      exact ⟨by simp (decide := true) only [sp_weighs, sp_hr, c_18, if_true, if_false], rfl⟩
    | 1, hk, ht =>
      cases hk; cases ht
      refine hg_iconst (pc' := 78) cx 1 dX6_weighs_77 (by decide) rfl ?_
      refine hg_iret cx dX6_weighs_78 ⟨_, rfl, ?_⟩
      exact ⟨by simp (decide := true) only [sp_weighs, sp_hr, c_18, if_true, if_false], rfl⟩
    | 2, hk, ht =>
      cases hk; cases ht
      refine hg_iconst (pc' := 55) cx 3 dX6_weighs_54 (by decide) rfl ?_
      refine hg_iret cx dX6_weighs_55 ⟨_, rfl, ?_⟩
      exact ⟨by simp (decide := true) only [sp_weighs, sp_hr, c_18, if_true, if_false], rfl⟩
    | 3, hk, ht =>
      cases hk; cases ht
      refine hg_iconst (pc' := 57) cx 2 dX6_weighs_56 (by decide) rfl ?_
      refine hg_iload2 (pc' := 58) cx dX6_weighs_57 rfl ?_
      refine hg_imul (pc' := 59) cx dX6_weighs_58 rfl ?_
      refine hg_iret cx dX6_weighs_59 ⟨_, rfl, ?_⟩
      exact ⟨by simp (decide := true) only [sp_weighs, sp_hr, c_18, if_true, if_false], rfl⟩
    | 4, hk, ht =>
      cases hk; cases ht
      refine hg_aload0 (pc' := 61) cx dX6_weighs_60 rfl ?_
      refine gf_X6_9 (pc' := 64) cx dX6_weighs_61 rfl ?_
      refine hg_iconst (pc' := 65) cx (nI 0) dX6_weighs_64 (by decide) rfl ?_
      refine hg_iald2 (pc' := 66) cx (by decide) (hg_ceI51 E) (by first | assumption | omega | decide) (by decide) dX6_weighs_65 rfl ?_
      refine hg_iconst (pc' := 67) cx 3 dX6_weighs_66 (by decide) rfl ?_
      refine hg_irem (pc' := 68) cx (by decide) dX6_weighs_67 rfl ?_
      refine hg_if_ne (pc' := 71) cx 75 dX6_weighs_68 (by decide) rfl (fun c_68 => ?_) (fun c_68 => ?_)
      ·
        refine hg_iconst (pc' := 76) cx 1 dX6_weighs_75 (by decide) rfl ?_
        refine hg_iret cx dX6_weighs_76 ⟨_, rfl, ?_⟩
        exact ⟨by simp (decide := true) only [sp_weighs, sp_hr, c_18, c_68, if_true, if_false], rfl⟩
      ·
        refine hg_iconst (pc' := 72) cx 2 dX6_weighs_71 (by decide) rfl ?_
        refine hg_goto cx 76 dX6_weighs_72 (by decide) ?_
        refine hg_iret cx dX6_weighs_76 ⟨_, rfl, ?_⟩
        exact ⟨by simp (decide := true) only [sp_weighs, sp_hr, c_18, c_68, if_true, if_false], rfl⟩
    | j + 5, hk, ht => exact absurd hk (by simp)
set_option maxHeartbeats 4000000 in
set_option maxRecDepth 100000 in
theorem K_X6_doesLearn (l : Launch) (E : hg_Wd) (σ : hg_Mem) (h : Nat) (hh : h < 10) : hg_C l E yX6_doesLearn cX6_doesLearn 2 (some .boolean) { frames := 1, cells := 0, slots := 0, locals := 22 } [.ref (hg_ad E 50), .int (nI h)] σ (hg_pi (fun r τ => r = sp_learns (sp_hr (σ.1 51) h) (σ.1 51 0) ∧ σ = τ)) := by
  refine hg_intro (by decide) [some (.ref (hg_ad E 50)), some (.int (nI h))] rfl (Nat.le_of_ble_eq_true rfl) ?_
  intro p e s m args below meth c cx
  have cx : hg_Cx E p s m args meth c cX6_doesLearn 2 RX6 (some .boolean) := cx
  refine hg_aload0 (pc' := 1) cx dX6_doesLearn_0 rfl ?_
  refine hg_iload1 (pc' := 2) cx dX6_doesLearn_1 rfl ?_
  refine hg_iconst (pc' := 3) cx (nI 0) dX6_doesLearn_2 (by decide) rfl ?_
  refine cv_X6_48 (pc' := 6) cx (K_X6_it l E _ _ (by first | assumption | omega | decide) _ (by first | assumption | omega | decide)) ⟨rfl, rfl, Nat.le_of_ble_eq_true rfl, Nat.le_of_ble_eq_true rfl⟩ (Nat.le_of_ble_eq_true rfl) dX6_doesLearn_3 rfl (fun r_3 τ_3 h_3 => ?_)
  obtain ⟨rfl, rfl⟩ := h_3
  refine hg_tsw cx [1, 2, 3, 4] [36, 57, 38, 40] 57 dX6_doesLearn_6 (by decide) (by decide) (fun c_6 => ?_) (fun i v t hk ht c_6 => ?_)
  ·
    simp only [List.mem_cons, List.not_mem_nil, or_false, forall_eq_or_imp, forall_eq] at c_6
    refine hg_aload0 (pc' := 58) cx dX6_doesLearn_57 rfl ?_
    refine hg_iload1 (pc' := 59) cx dX6_doesLearn_58 rfl ?_
    refine hg_iconst (pc' := 60) cx (nI 4) dX6_doesLearn_59 (by decide) rfl ?_
    refine cv_X6_48 (pc' := 63) cx (K_X6_it l E _ _ (by first | assumption | omega | decide) _ (by first | assumption | omega | decide)) ⟨rfl, rfl, Nat.le_of_ble_eq_true rfl, Nat.le_of_ble_eq_true rfl⟩ (Nat.le_of_ble_eq_true rfl) dX6_doesLearn_60 rfl (fun r_60 τ_60 h_60 => ?_)
    obtain ⟨rfl, rfl⟩ := h_60
    refine hg_bipush (pc' := 65) cx 50 dX6_doesLearn_63 (by decide) rfl ?_
    refine hg_icmp_lt (pc' := 68) cx 72 dX6_doesLearn_65 (by decide) rfl (fun c_65 => ?_) (fun c_65 => ?_)
    ·
      refine hg_iconst (pc' := 73) cx 0 dX6_doesLearn_72 (by decide) rfl ?_
      refine hg_zret cx rfl dX6_doesLearn_73 ⟨_, rfl, ?_⟩
      exact ⟨by first | (simp (decide := true) only [sp_learns, sp_hr, c_6, c_65, if_true, if_false]; done) | (simp (decide := true) only [sp_learns, sp_hr, c_6, c_65, if_true, if_false]; grind), rfl⟩
    ·
      refine hg_iconst (pc' := 69) cx 1 dX6_doesLearn_68 (by decide) rfl ?_
      refine hg_goto cx 73 dX6_doesLearn_69 (by decide) ?_
      refine hg_zret cx rfl dX6_doesLearn_73 ⟨_, rfl, ?_⟩
      exact ⟨by first | (simp (decide := true) only [sp_learns, sp_hr, c_6, c_65, if_true, if_false]; done) | (simp (decide := true) only [sp_learns, sp_hr, c_6, c_65, if_true, if_false]; grind), rfl⟩
  ·
    match i, hk, ht with
    | 0, hk, ht =>
      cases hk; cases ht
      refine hg_iconst (pc' := 37) cx 1 dX6_doesLearn_36 (by decide) rfl ?_
      refine hg_zret cx rfl dX6_doesLearn_37 ⟨_, rfl, ?_⟩
      exact ⟨by first | (simp (decide := true) only [sp_learns, sp_hr, c_6, if_true, if_false]; done) | (simp (decide := true) only [sp_learns, sp_hr, c_6, if_true, if_false]; grind), rfl⟩
    | 1, hk, ht =>
      cases hk; cases ht
      refine hg_aload0 (pc' := 58) cx dX6_doesLearn_57 rfl ?_
      refine hg_iload1 (pc' := 59) cx dX6_doesLearn_58 rfl ?_
      refine hg_iconst (pc' := 60) cx (nI 4) dX6_doesLearn_59 (by decide) rfl ?_
      refine cv_X6_48 (pc' := 63) cx (K_X6_it l E _ _ (by first | assumption | omega | decide) _ (by first | assumption | omega | decide)) ⟨rfl, rfl, Nat.le_of_ble_eq_true rfl, Nat.le_of_ble_eq_true rfl⟩ (Nat.le_of_ble_eq_true rfl) dX6_doesLearn_60 rfl (fun r_60 τ_60 h_60 => ?_)
      obtain ⟨rfl, rfl⟩ := h_60
      refine hg_bipush (pc' := 65) cx 50 dX6_doesLearn_63 (by decide) rfl ?_
      refine hg_icmp_lt (pc' := 68) cx 72 dX6_doesLearn_65 (by decide) rfl (fun c_65 => ?_) (fun c_65 => ?_)
      ·
        refine hg_iconst (pc' := 73) cx 0 dX6_doesLearn_72 (by decide) rfl ?_
        refine hg_zret cx rfl dX6_doesLearn_73 ⟨_, rfl, ?_⟩
        exact ⟨by first | (simp (decide := true) only [sp_learns, sp_hr, c_6, c_65, if_true, if_false]; done) | (simp (decide := true) only [sp_learns, sp_hr, c_6, c_65, if_true, if_false]; grind), rfl⟩
      ·
        refine hg_iconst (pc' := 69) cx 1 dX6_doesLearn_68 (by decide) rfl ?_
        refine hg_goto cx 73 dX6_doesLearn_69 (by decide) ?_
        refine hg_zret cx rfl dX6_doesLearn_73 ⟨_, rfl, ?_⟩
        exact ⟨by first | (simp (decide := true) only [sp_learns, sp_hr, c_6, c_65, if_true, if_false]; done) | (simp (decide := true) only [sp_learns, sp_hr, c_6, c_65, if_true, if_false]; grind), rfl⟩
    | 2, hk, ht =>
      cases hk; cases ht
      refine hg_iconst (pc' := 39) cx 0 dX6_doesLearn_38 (by decide) rfl ?_
      refine hg_zret cx rfl dX6_doesLearn_39 ⟨_, rfl, ?_⟩
      exact ⟨by first | (simp (decide := true) only [sp_learns, sp_hr, c_6, if_true, if_false]; done) | (simp (decide := true) only [sp_learns, sp_hr, c_6, if_true, if_false]; grind), rfl⟩
    | 3, hk, ht =>
      cases hk; cases ht
      refine hg_aload0 (pc' := 41) cx dX6_doesLearn_40 rfl ?_
      refine gf_X6_9 (pc' := 44) cx dX6_doesLearn_41 rfl ?_
      refine hg_iconst (pc' := 45) cx (nI 0) dX6_doesLearn_44 (by decide) rfl ?_
      refine hg_iald2 (pc' := 46) cx (by decide) (hg_ceI51 E) (by first | assumption | omega | decide) (by decide) dX6_doesLearn_45 rfl ?_
      refine hg_iconst (pc' := 47) cx 2 dX6_doesLearn_46 (by decide) rfl ?_
      refine hg_irem (pc' := 48) cx (by decide) dX6_doesLearn_47 rfl ?_
      refine hg_if_ne (pc' := 51) cx 55 dX6_doesLearn_48 (by decide) rfl (fun c_48 => ?_) (fun c_48 => ?_)
      ·
        refine hg_iconst (pc' := 56) cx 0 dX6_doesLearn_55 (by decide) rfl ?_
        refine hg_zret cx rfl dX6_doesLearn_56 ⟨_, rfl, ?_⟩
        exact ⟨by first | (simp (decide := true) only [sp_learns, sp_hr, c_6, c_48, if_true, if_false]; done) | (simp (decide := true) only [sp_learns, sp_hr, c_6, c_48, if_true, if_false]; grind), rfl⟩
      ·
        refine hg_iconst (pc' := 52) cx 1 dX6_doesLearn_51 (by decide) rfl ?_
        refine hg_goto cx 56 dX6_doesLearn_52 (by decide) ?_
        refine hg_zret cx rfl dX6_doesLearn_56 ⟨_, rfl, ?_⟩
        exact ⟨by first | (simp (decide := true) only [sp_learns, sp_hr, c_6, c_48, if_true, if_false]; done) | (simp (decide := true) only [sp_learns, sp_hr, c_6, c_48, if_true, if_false]; grind), rfl⟩
    | j + 4, hk, ht => exact absurd hk (by simp)
set_option maxHeartbeats 4000000 in
set_option maxRecDepth 100000 in
theorem K_X6_stirs (l : Launch) (E : hg_Wd) (σ : hg_Mem) (h : Nat) (hh : h < 10) : hg_C l E yX6_stirs cX6_stirs 2 (some .int) { frames := 1, cells := 0, slots := 0, locals := 22 } [.ref (hg_ad E 50), .int (nI h)] σ (hg_pi (fun r τ => r = sp_stirs (sp_hr (σ.1 51) h) ∧ σ = τ)) := by
  refine hg_intro (by decide) [some (.ref (hg_ad E 50)), some (.int (nI h))] rfl (Nat.le_of_ble_eq_true rfl) ?_
  intro p e s m args below meth c cx
  have cx : hg_Cx E p s m args meth c cX6_stirs 2 RX6 (some .int) := cx
  refine hg_aload0 (pc' := 1) cx dX6_stirs_0 rfl ?_
  refine hg_iload1 (pc' := 2) cx dX6_stirs_1 rfl ?_
  refine hg_iconst (pc' := 3) cx (nI 0) dX6_stirs_2 (by decide) rfl ?_
  refine cv_X6_48 (pc' := 6) cx (K_X6_it l E _ _ (by first | assumption | omega | decide) _ (by first | assumption | omega | decide)) ⟨rfl, rfl, Nat.le_of_ble_eq_true rfl, Nat.le_of_ble_eq_true rfl⟩ (Nat.le_of_ble_eq_true rfl) dX6_stirs_3 rfl (fun r_3 τ_3 h_3 => ?_)
  obtain ⟨rfl, rfl⟩ := h_3
  refine hg_tsw cx [1, 2, 3, 4, 5] [40, 42, 45, 40, 40] 47 dX6_stirs_6 (by decide) (by decide) (fun c_6 => ?_) (fun i v t hk ht c_6 => ?_)
  ·
    simp only [List.mem_cons, List.not_mem_nil, or_false, forall_eq_or_imp, forall_eq] at c_6
    refine hg_iconst (pc' := 48) cx 5 dX6_stirs_47 (by decide) rfl ?_
    refine hg_iret cx dX6_stirs_48 ⟨_, rfl, ?_⟩
    exact ⟨by simp (decide := true) only [sp_stirs, sp_hr, c_6, if_true, if_false, or_true, true_or, or_false, false_or], rfl⟩
  ·
    match i, hk, ht with
    | 0, hk, ht =>
      cases hk; cases ht
      refine hg_iconst (pc' := 41) cx 3 dX6_stirs_40 (by decide) rfl ?_
      refine hg_iret cx dX6_stirs_41 ⟨_, rfl, ?_⟩
      exact ⟨by simp (decide := true) only [sp_stirs, sp_hr, c_6, if_true, if_false, or_true, true_or, or_false, false_or], rfl⟩
    | 1, hk, ht =>
      cases hk; cases ht
      refine hg_bipush (pc' := 44) cx 10 dX6_stirs_42 (by decide) rfl ?_
      refine hg_iret cx dX6_stirs_44 ⟨_, rfl, ?_⟩
      exact ⟨by simp (decide := true) only [sp_stirs, sp_hr, c_6, if_true, if_false, or_true, true_or, or_false, false_or], rfl⟩
    | 2, hk, ht =>
      cases hk; cases ht
      refine hg_iconst (pc' := 46) cx 1 dX6_stirs_45 (by decide) rfl ?_
      refine hg_iret cx dX6_stirs_46 ⟨_, rfl, ?_⟩
      exact ⟨by simp (decide := true) only [sp_stirs, sp_hr, c_6, if_true, if_false, or_true, true_or, or_false, false_or], rfl⟩
    | 3, hk, ht =>
      cases hk; cases ht
      refine hg_iconst (pc' := 41) cx 3 dX6_stirs_40 (by decide) rfl ?_
      refine hg_iret cx dX6_stirs_41 ⟨_, rfl, ?_⟩
      exact ⟨by simp (decide := true) only [sp_stirs, sp_hr, c_6, if_true, if_false, or_true, true_or, or_false, false_or], rfl⟩
    | 4, hk, ht =>
      cases hk; cases ht
      refine hg_iconst (pc' := 41) cx 3 dX6_stirs_40 (by decide) rfl ?_
      refine hg_iret cx dX6_stirs_41 ⟨_, rfl, ?_⟩
      exact ⟨by simp (decide := true) only [sp_stirs, sp_hr, c_6, if_true, if_false, or_true, true_or, or_false, false_or], rfl⟩
    | j + 5, hk, ht => exact absurd hk (by simp)
set_option maxHeartbeats 4000000 in
set_option maxRecDepth 100000 in
theorem K_X6_trueOnes (l : Launch) (E : hg_Wd) (σ : hg_Mem)  : hg_C l E yX6_trueOnes cX6_trueOnes 1 (some .int) { frames := 0, cells := 0, slots := 0, locals := 0 } [.ref (hg_ad E 50)] σ (hg_pi (fun r τ => r = sp_trueOnes (σ.1 51 2) (σ.1 51 1) ∧ σ = τ)) := by
  refine hg_intro (by decide) [some (.ref (hg_ad E 50))] rfl (Nat.le_of_ble_eq_true rfl) ?_
  intro p e s m args below meth c cx
  have cx : hg_Cx E p s m args meth c cX6_trueOnes 1 RX6 (some .int) := cx
  refine hg_sipush (pc' := 3) cx 255 dX6_trueOnes_0 (by decide) rfl ?_
  refine hg_aload0 (pc' := 4) cx dX6_trueOnes_3 rfl ?_
  refine gf_X6_9 (pc' := 7) cx dX6_trueOnes_4 rfl ?_
  refine hg_iconst (pc' := 8) cx (nI 1) dX6_trueOnes_7 (by decide) rfl ?_
  refine hg_iald2 (pc' := 9) cx (by decide) (hg_ceI51 E) (by first | assumption | omega | decide) (by decide) dX6_trueOnes_8 rfl ?_
  refine hg_aload0 (pc' := 10) cx dX6_trueOnes_9 rfl ?_
  refine gf_X6_9 (pc' := 13) cx dX6_trueOnes_10 rfl ?_
  refine hg_iconst (pc' := 14) cx (nI 2) dX6_trueOnes_13 (by decide) rfl ?_
  refine hg_iald2 (pc' := 15) cx (by decide) (hg_ceI51 E) (by first | assumption | omega | decide) (by decide) dX6_trueOnes_14 rfl ?_
  refine hg_ixor (pc' := 16) cx dX6_trueOnes_15 rfl ?_
  refine hg_iconst (pc' := 17) cx (-1) dX6_trueOnes_16 (by decide) rfl ?_
  refine hg_ixor (pc' := 18) cx dX6_trueOnes_17 rfl ?_
  refine hg_iand (pc' := 19) cx dX6_trueOnes_18 rfl ?_
  refine hg_iret cx dX6_trueOnes_19 ⟨_, rfl, ?_⟩
  exact ⟨sp_trueOnes_c _ _, rfl⟩
set_option maxHeartbeats 4000000 in
set_option maxRecDepth 100000 in
theorem K_X6_merit (l : Launch) (E : hg_Wd) (σ : hg_Mem) (h : Nat) (hh : h < 10) : hg_C l E yX6_merit cX6_merit 2 (some .int) { frames := 1, cells := 0, slots := 0, locals := 22 } [.ref (hg_ad E 50), .int (nI h)] σ (hg_pi (fun r τ => r = σ.1 51 (4 + 6 * h + 2) - σ.1 51 (4 + 6 * h + 3) ∧ σ = τ)) := by
  refine hg_intro (by decide) [some (.ref (hg_ad E 50)), some (.int (nI h))] rfl (Nat.le_of_ble_eq_true rfl) ?_
  intro p e s m args below meth c cx
  have cx : hg_Cx E p s m args meth c cX6_merit 2 RX6 (some .int) := cx
  refine hg_aload0 (pc' := 1) cx dX6_merit_0 rfl ?_
  refine hg_iload1 (pc' := 2) cx dX6_merit_1 rfl ?_
  refine hg_iconst (pc' := 3) cx (nI 2) dX6_merit_2 (by decide) rfl ?_
  refine cv_X6_48 (pc' := 6) cx (K_X6_it l E _ _ (by first | assumption | omega | decide) _ (by first | assumption | omega | decide)) ⟨rfl, rfl, Nat.le_of_ble_eq_true rfl, Nat.le_of_ble_eq_true rfl⟩ (Nat.le_of_ble_eq_true rfl) dX6_merit_3 rfl (fun r_3 τ_3 h_3 => ?_)
  obtain ⟨rfl, rfl⟩ := h_3
  refine hg_aload0 (pc' := 7) cx dX6_merit_6 rfl ?_
  refine hg_iload1 (pc' := 8) cx dX6_merit_7 rfl ?_
  refine hg_iconst (pc' := 9) cx (nI 3) dX6_merit_8 (by decide) rfl ?_
  refine cv_X6_48 (pc' := 12) cx (K_X6_it l E _ _ (by first | assumption | omega | decide) _ (by first | assumption | omega | decide)) ⟨rfl, rfl, Nat.le_of_ble_eq_true rfl, Nat.le_of_ble_eq_true rfl⟩ (Nat.le_of_ble_eq_true rfl) dX6_merit_9 rfl (fun r_9 τ_9 h_9 => ?_)
  obtain ⟨rfl, rfl⟩ := h_9
  refine hg_isub (pc' := 13) cx dX6_merit_12 rfl ?_
  refine hg_iret cx dX6_merit_13 ⟨_, rfl, ?_⟩
  exact ⟨rfl, rfl⟩
