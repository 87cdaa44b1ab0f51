set_option maxHeartbeats 4000000 in
set_option maxRecDepth 100000 in
theorem K_X2_mayHave (l : Launch) (E : hg_Wd) (σ : hg_Mem) (b : Int32) : hg_C l E yX2_mayHave cX2_mayHave 1 (some .boolean) { frames := 0, cells := 0, slots := 0, locals := 0 } [.int b] σ (hg_pi (fun r τ => r = sp_may b ∧ σ = τ)) := by
  refine hg_intro (by decide) [some (.int b)] rfl (Nat.le_of_ble_eq_true rfl) ?_
  intro p e s m args below meth c cx
  have cx : hg_Cx E p s m args meth c cX2_mayHave 1 RX2 (some .boolean) := cx
  refine hg_iload0 (pc' := 1) cx dX2_mayHave_0 rfl ?_
  refine hg_if_eq (pc' := 4) cx 22 dX2_mayHave_1 (by decide) rfl (fun c_1 => ?_) (fun c_1 => ?_)
  ·
    refine hg_iconst (pc' := 23) cx 1 dX2_mayHave_22 (by decide) rfl ?_
    refine hg_goto cx 27 dX2_mayHave_23 (by decide) ?_
    refine hg_zret cx rfl dX2_mayHave_27 ⟨_, rfl, ?_⟩
    exact ⟨by first | rfl | (simp [sp_may, c_1]; done) | (simp (decide := true) only [sp_may, c_1, ↓reduceIte, and_true, true_and, and_false, false_and, or_false, false_or, true_or, or_true]; done) | (simp only [sp_may]; grind) | (simp_all [sp_may]; done), rfl⟩
  ·
    refine hg_iload0 (pc' := 5) cx dX2_mayHave_4 rfl ?_
    refine hg_bipush (pc' := 7) cx 8 dX2_mayHave_5 (by decide) rfl ?_
    refine hg_icmp_eq (pc' := 10) cx 22 dX2_mayHave_7 (by decide) rfl (fun c_7 => ?_) (fun c_7 => ?_)
    ·
      refine hg_iconst (pc' := 23) cx 1 dX2_mayHave_22 (by decide) rfl ?_
      refine hg_goto cx 27 dX2_mayHave_23 (by decide) ?_
      refine hg_zret cx rfl dX2_mayHave_27 ⟨_, rfl, ?_⟩
      exact ⟨by first | rfl | (simp [sp_may, c_1, c_7]; done) | (simp (decide := true) only [sp_may, c_1, c_7, ↓reduceIte, and_true, true_and, and_false, false_and, or_false, false_or, true_or, or_true]; done) | (simp only [sp_may]; grind) | (simp_all [sp_may]; done), rfl⟩
    ·
      refine hg_iload0 (pc' := 11) cx dX2_mayHave_10 rfl ?_
      refine hg_bipush (pc' := 13) cx 16 dX2_mayHave_11 (by decide) rfl ?_
      refine hg_icmp_eq (pc' := 16) cx 22 dX2_mayHave_13 (by decide) rfl (fun c_13 => ?_) (fun c_13 => ?_)
      ·
        refine hg_iconst (pc' := 23) cx 1 dX2_mayHave_22 (by decide) rfl ?_
        refine hg_goto cx 27 dX2_mayHave_23 (by decide) ?_
        refine hg_zret cx rfl dX2_mayHave_27 ⟨_, rfl, ?_⟩
        exact ⟨by first | rfl | (simp [sp_may, c_1, c_7, c_13]; done) | (simp (decide := true) only [sp_may, c_1, c_7, c_13, ↓reduceIte, and_true, true_and, and_false, false_and, or_false, false_or, true_or, or_true]; done) | (simp only [sp_may]; grind) | (simp_all [sp_may]; done), rfl⟩
      ·
        refine hg_iload0 (pc' := 17) cx dX2_mayHave_16 rfl ?_
        refine hg_bipush (pc' := 19) cx 64 dX2_mayHave_17 (by decide) rfl ?_
        refine hg_icmp_ne (pc' := 22) cx 26 dX2_mayHave_19 (by decide) rfl (fun c_19 => ?_) (fun c_19 => ?_)
        ·
          refine hg_iconst (pc' := 27) cx 0 dX2_mayHave_26 (by decide) rfl ?_
          refine hg_zret cx rfl dX2_mayHave_27 ⟨_, rfl, ?_⟩
          exact ⟨by first | rfl | (simp [sp_may, c_1, c_7, c_13, c_19]; done) | (simp (decide := true) only [sp_may, c_1, c_7, c_13, c_19, ↓reduceIte, and_true, true_and, and_false, false_and, or_false, false_or, true_or, or_true]; done) | (simp only [sp_may]; grind) | (simp_all [sp_may]; done), rfl⟩
        ·
          refine hg_iconst (pc' := 23) cx 1 dX2_mayHave_22 (by decide) rfl ?_
          refine hg_goto cx 27 dX2_mayHave_23 (by decide) ?_
          refine hg_zret cx rfl dX2_mayHave_27 ⟨_, rfl, ?_⟩
          exact ⟨by first | rfl | (simp [sp_may, c_1, c_7, c_13, c_19]; done) | (simp (decide := true) only [sp_may, c_1, c_7, c_13, c_19, ↓reduceIte, and_true, true_and, and_false, false_and, or_false, false_or, true_or, or_true]; done) | (simp only [sp_may]; grind) | (simp_all [sp_may]; done), rfl⟩
set_option maxHeartbeats 4000000 in
set_option maxRecDepth 100000 in
theorem K_X2_isMissing (l : Launch) (E : hg_Wd) (σ : hg_Mem) (i : Nat) (hi1 : 12 ≤ i) (hi2 : i < 16) : hg_C l E yX2_isMissing cX2_isMissing 1 (some .boolean) { frames := 0, cells := 0, slots := 0, locals := 0 } [.ref (hg_ad E i)] σ (hg_pi (fun r τ => r = (if σ.1 i 1 = 0 then 1 else 0) ∧ σ = τ)) := by
  refine hg_intro (by decide) [some (.ref (hg_ad E i))] rfl (Nat.le_of_ble_eq_true rfl) ?_
  intro p e s m args below meth c cx
  have cx : hg_Cx E p s m args meth c cX2_isMissing 1 RX2 (some .boolean) := cx
  refine hg_aload0 (pc' := 1) cx dX2_isMissing_0 rfl ?_
  refine gf_X2_15 (pc' := 4) cx (by first | assumption | omega | decide) (by first | assumption | omega | decide) dX2_isMissing_1 rfl ?_
  refine hg_if_ne (pc' := 7) cx 11 dX2_isMissing_4 (by decide) rfl (fun c_4 => ?_) (fun c_4 => ?_)
  ·
    refine hg_iconst (pc' := 12) cx 0 dX2_isMissing_11 (by decide) rfl ?_
    refine hg_zret cx rfl dX2_isMissing_12 ⟨_, rfl, ?_⟩
    exact ⟨by first | rfl | (simp [sp_bit, c_4]; done) | (simp (decide := true) only [sp_bit, c_4, ↓reduceIte, and_true, true_and, and_false, false_and, or_false, false_or, true_or, or_true]; done) | (simp only [sp_bit]; grind) | (simp_all [sp_bit]; done), rfl⟩
  ·
    refine hg_iconst (pc' := 8) cx 1 dX2_isMissing_7 (by decide) rfl ?_
    refine hg_goto cx 12 dX2_isMissing_8 (by decide) ?_
    refine hg_zret cx rfl dX2_isMissing_12 ⟨_, rfl, ?_⟩
    exact ⟨by first | rfl | (simp [sp_bit, c_4]; done) | (simp (decide := true) only [sp_bit, c_4, ↓reduceIte, and_true, true_and, and_false, false_and, or_false, false_or, true_or, or_true]; done) | (simp only [sp_bit]; grind) | (simp_all [sp_bit]; done), rfl⟩
set_option maxHeartbeats 4000000 in
set_option maxRecDepth 100000 in
theorem K_X2_hasRun (l : Launch) (E : hg_Wd) (σ : hg_Mem) (i : Nat) (hi1 : 12 ≤ i) (hi2 : i < 16) (f : Int32) (n : Int32) : hg_C l E yX2_hasRun cX2_hasRun 3 (some .boolean) { frames := 0, cells := 0, slots := 0, locals := 0 } [.ref (hg_ad E i), .int f, .int n] σ (hg_pi (fun r τ => r = sp_run (σ.1 i 2) f n ∧ σ = τ)) := by
  refine hg_intro (by decide) [some (.ref (hg_ad E i)), some (.int f), some (.int n)] rfl (Nat.le_of_ble_eq_true rfl) ?_
  intro p e s m args below meth c cx
  have cx : hg_Cx E p s m args meth c cX2_hasRun 3 RX2 (some .boolean) := cx
  refine hg_iload1 (pc' := 1) cx dX2_hasRun_0 rfl ?_
  refine hg_if_lt (pc' := 4) cx 30 dX2_hasRun_1 (by decide) rfl (fun c_1 => ?_) (fun c_1 => ?_)
  ·
    refine hg_iconst (pc' := 31) cx 0 dX2_hasRun_30 (by decide) rfl ?_
    refine hg_zret cx rfl dX2_hasRun_31 ⟨_, rfl, ?_⟩
    refine ⟨?_, rfl⟩
    unfold sp_run
    first
      | (rw [if_neg (fun z => Int32.not_le.mpr c_1 z.1)]; done)
      | (rw [if_neg (fun z => Int32.not_le.mpr c_5 z.2.1)]; done)
      | (rw [if_neg (fun z => Int32.not_le.mpr c_13 z.2.2.1)]; done)
      | (rw [if_neg (fun z => Int32.not_le.mpr c_23 z.2.2.2)]; done)
      | (rw [if_pos ⟨Int32.not_lt.mp c_1, Int32.not_lt.mp c_5, Int32.not_lt.mp c_13, Int32.not_lt.mp c_23⟩]; done)
  ·
    refine hg_iload2 (pc' := 5) cx dX2_hasRun_4 rfl ?_
    refine hg_if_lt (pc' := 8) cx 30 dX2_hasRun_5 (by decide) rfl (fun c_5 => ?_) (fun c_5 => ?_)
    ·
      refine hg_iconst (pc' := 31) cx 0 dX2_hasRun_30 (by decide) rfl ?_
      refine hg_zret cx rfl dX2_hasRun_31 ⟨_, rfl, ?_⟩
      refine ⟨?_, rfl⟩
      unfold sp_run
      first
        | (rw [if_neg (fun z => Int32.not_le.mpr c_1 z.1)]; done)
        | (rw [if_neg (fun z => Int32.not_le.mpr c_5 z.2.1)]; done)
        | (rw [if_neg (fun z => Int32.not_le.mpr c_13 z.2.2.1)]; done)
        | (rw [if_neg (fun z => Int32.not_le.mpr c_23 z.2.2.2)]; done)
        | (rw [if_pos ⟨Int32.not_lt.mp c_1, Int32.not_lt.mp c_5, Int32.not_lt.mp c_13, Int32.not_lt.mp c_23⟩]; done)
    ·
      refine hg_iload2 (pc' := 9) cx dX2_hasRun_8 rfl ?_
      refine hg_aload0 (pc' := 10) cx dX2_hasRun_9 rfl ?_
      refine gf_X2_29 (pc' := 13) cx (by first | assumption | omega | decide) (by first | assumption | omega | decide) dX2_hasRun_10 rfl ?_
      refine hg_icmp_gt (pc' := 16) cx 30 dX2_hasRun_13 (by decide) rfl (fun c_13 => ?_) (fun c_13 => ?_)
      ·
        refine hg_iconst (pc' := 31) cx 0 dX2_hasRun_30 (by decide) rfl ?_
        refine hg_zret cx rfl dX2_hasRun_31 ⟨_, rfl, ?_⟩
        refine ⟨?_, rfl⟩
        unfold sp_run
        first
          | (rw [if_neg (fun z => Int32.not_le.mpr c_1 z.1)]; done)
          | (rw [if_neg (fun z => Int32.not_le.mpr c_5 z.2.1)]; done)
          | (rw [if_neg (fun z => Int32.not_le.mpr c_13 z.2.2.1)]; done)
          | (rw [if_neg (fun z => Int32.not_le.mpr c_23 z.2.2.2)]; done)
          | (rw [if_pos ⟨Int32.not_lt.mp c_1, Int32.not_lt.mp c_5, Int32.not_lt.mp c_13, Int32.not_lt.mp c_23⟩]; done)
      ·
        refine hg_iload1 (pc' := 17) cx dX2_hasRun_16 rfl ?_
        refine hg_aload0 (pc' := 18) cx dX2_hasRun_17 rfl ?_
        refine gf_X2_29 (pc' := 21) cx (by first | assumption | omega | decide) (by first | assumption | omega | decide) dX2_hasRun_18 rfl ?_
        refine hg_iload2 (pc' := 22) cx dX2_hasRun_21 rfl ?_
        refine hg_isub (pc' := 23) cx dX2_hasRun_22 rfl ?_
        refine hg_icmp_gt (pc' := 26) cx 30 dX2_hasRun_23 (by decide) rfl (fun c_23 => ?_) (fun c_23 => ?_)
        ·
          refine hg_iconst (pc' := 31) cx 0 dX2_hasRun_30 (by decide) rfl ?_
          refine hg_zret cx rfl dX2_hasRun_31 ⟨_, rfl, ?_⟩
          refine ⟨?_, rfl⟩
          unfold sp_run
          first
            | (rw [if_neg (fun z => Int32.not_le.mpr c_1 z.1)]; done)
            | (rw [if_neg (fun z => Int32.not_le.mpr c_5 z.2.1)]; done)
            | (rw [if_neg (fun z => Int32.not_le.mpr c_13 z.2.2.1)]; done)
            | (rw [if_neg (fun z => Int32.not_le.mpr c_23 z.2.2.2)]; done)
            | (rw [if_pos ⟨Int32.not_lt.mp c_1, Int32.not_lt.mp c_5, Int32.not_lt.mp c_13, Int32.not_lt.mp c_23⟩]; done)
        ·
          refine hg_iconst (pc' := 27) cx 1 dX2_hasRun_26 (by decide) rfl ?_
          refine hg_goto cx 31 dX2_hasRun_27 (by decide) ?_
          refine hg_zret cx rfl dX2_hasRun_31 ⟨_, rfl, ?_⟩
          refine ⟨?_, rfl⟩
          unfold sp_run
          first
            | (rw [if_neg (fun z => Int32.not_le.mpr c_1 z.1)]; done)
            | (rw [if_neg (fun z => Int32.not_le.mpr c_5 z.2.1)]; done)
            | (rw [if_neg (fun z => Int32.not_le.mpr c_13 z.2.2.1)]; done)
            | (rw [if_neg (fun z => Int32.not_le.mpr c_23 z.2.2.2)]; done)
            | (rw [if_pos ⟨Int32.not_lt.mp c_1, Int32.not_lt.mp c_5, Int32.not_lt.mp c_13, Int32.not_lt.mp c_23⟩]; done)
set_option maxHeartbeats 4000000 in
set_option maxRecDepth 100000 in
theorem K_X5_noSheet (l : Launch) (E : hg_Wd) (σ : hg_Mem) (s : Int32) : hg_C l E yX5_noSheet cX5_noSheet 1 (some .boolean) { frames := 1, cells := 0, slots := 0, locals := 22 } [.int s] σ (hg_pi (fun r τ => r = sp_out s 0 3 ∧ σ = τ)) := by
  refine hg_intro (by decide) [some (.int s)] rfl (Nat.le_of_ble_eq_true rfl) ?_
  intro p e s m args below meth c cx
  have cx : hg_Cx E p s m args meth c cX5_noSheet 1 RX5 (some .boolean) := cx
  refine hg_iload0 (pc' := 1) cx dX5_noSheet_0 rfl ?_
  refine hg_iconst (pc' := 2) cx 0 dX5_noSheet_1 (by decide) rfl ?_
  refine hg_iconst (pc' := 3) cx 3 dX5_noSheet_2 (by decide) rfl ?_
  refine cs_X5_40 (pc' := 6) cx (K_X5_outside l E _ _ _ _) ⟨rfl, rfl, Nat.le_of_ble_eq_true rfl, Nat.le_of_ble_eq_true rfl⟩ (Nat.le_of_ble_eq_true rfl) dX5_noSheet_3 rfl (fun r_3 τ_3 h_3 => ?_)
  obtain ⟨rfl, rfl⟩ := h_3
  refine hg_zret cx (hg_z01 _) dX5_noSheet_6 ⟨_, rfl, ?_⟩
  exact ⟨rfl, rfl⟩
set_option maxHeartbeats 4000000 in
set_option maxRecDepth 100000 in
theorem K_J7_fill_d0a16 (l : Launch) (E : hg_Wd) (σ : hg_Mem) (a : Nat) (ha1 : 16 ≤ a) (ha2 : a < 20) (v : Int64) : hg_C l E yJ7_fill_d0a16 cJ7_fill_d0a16 5 none { frames := 0, cells := 0, slots := 0, locals := 0 } [.ref (hg_ad E a), .long v] σ (hg_pv (fun τ => τ.1 = σ.1 ∧ (∀ j, j ≠ a → τ.2 j = σ.2 j) ∧ ∀ k, k < 40 → τ.2 a k = v)) := by
  refine hg_intro (by decide) [some (.ref (hg_ad E a)), some (.long v), none, none, none] rfl (Nat.le_of_ble_eq_true rfl) ?_
  intro p e s m args below meth c cx
  have cx : hg_Cx E p s m args meth c cJ7_fill_d0a16 5 RJ7 none := cx
  refine hg_iconst (pc' := 1) cx (nI 0) dJ7_fill_d0a16_0 (by decide) rfl ?_
  refine hg_istore3 (pc' := 2) cx rfl dJ7_fill_d0a16_1 rfl ?_
  refine hg_aload0 (pc' := 3) cx dJ7_fill_d0a16_2 rfl ?_
  refine hg_alenN (pc' := 4) cx ha1 ha2 dJ7_fill_d0a16_3 rfl ?_
  refine hg_istore4 (pc' := 6) cx rfl dJ7_fill_d0a16_4 rfl ?_
  refine hg_nm (fun μ hμ => ?_)
  refine hg_loop (α := hg_Mem × Nat) (I := fun z => z.2 ≤ 40 ∧ z.1.1 = σ.1 ∧ (∀ x, x ≠ a → z.1.2 x = σ.2 x) ∧ ∀ k, k < z.2 → z.1.2 a k = v) (P := fun z => hg_G E p l e { frames := 0, cells := 0, slots := 0, locals := 0 } s m args below meth c 5 (MQ below (hg_Qc E (hg_pv (fun τ => τ.1 = σ.1 ∧ (∀ j, j ≠ a → τ.2 j = σ.2 j) ∧ ∀ k, k < 40 → τ.2 a k = v))) args s 0 0 (hg_AW E)) z.1 6 [some (.ref (hg_ad E a)), some (.long v), none, some (.int (nI z.2)), some (.int (nI 40))] []) (fun z => 40 - z.2) ?_ (μ, 0) ?_
  rotate_left
  · subst hμ
    try dsimp only
    exact ⟨by omega, rfl, fun _ _ => rfl, fun k hk => absurd hk (Nat.not_lt_zero k)⟩
  clear hμ μ
  rintro ⟨τ, j⟩ hI ih_6
  try dsimp only at hI ih_6 ⊢
  have hj40 := hI.1
  refine hg_iload3 (pc' := 7) cx dJ7_fill_d0a16_6 rfl ?_
  refine hg_iload4 (pc' := 9) cx dJ7_fill_d0a16_7 rfl ?_
  refine hg_icmp_ge (pc' := 12) cx 22 dJ7_fill_d0a16_9 (by decide) rfl (fun c_9 => ?_) (fun c_9 => ?_)
  ·
    have hj := hg_ge (n := 40) (j := j) rfl (by omega) (by omega) c_9
    refine hg_vret cx dJ7_fill_d0a16_22 ⟨rfl, ?_⟩
    exact ⟨hI.2.1, hI.2.2.1, fun k hk => hI.2.2.2 k (by omega)⟩
  ·
    have hj := hg_nge (n := 40) (j := j) rfl (by omega) (by omega) c_9
    refine hg_aload0 (pc' := 13) cx dJ7_fill_d0a16_12 rfl ?_
    refine hg_iload3 (pc' := 14) cx dJ7_fill_d0a16_13 rfl ?_
    refine hg_lload1 (pc' := 15) cx dJ7_fill_d0a16_14 rfl ?_
    refine hg_last2 (pc' := 16) cx (by omega) (fun f g => hg_ceNum E f g ha1 ha2) (by omega) (by decide) dJ7_fill_d0a16_15 rfl ?_
    refine hg_iinc3p (pc' := 19) cx rfl dJ7_fill_d0a16_16 rfl ?_
    refine hg_goto cx 6 dJ7_fill_d0a16_19 (by decide) ?_
    rw [nI_1]
    refine hg_nm (fun μ hμ => ?_)
    refine ih_6 (μ, j + 1) ?_ ?_
    · subst hμ
      try dsimp only
      rw [hg_sL_eq]
      refine ⟨by omega, hI.2.1, fun x hx => (hg_sM_ne _ _ hx).trans (hI.2.2.1 x hx), fun k hk => ?_⟩
      rw [hg_sM_at]
      by_cases q : k = j
      · rw [q, va_upE]
      · rw [va_upN _ _ q]; exact hI.2.2.2 k (by omega)
    · show 40 - (j + 1) < 40 - j
      omega
set_option maxHeartbeats 4000000 in
set_option maxRecDepth 100000 in
theorem K_X2_begin (l : Launch) (E : hg_Wd) (σ : hg_Mem) (i : Nat) (hi1 : 12 ≤ i) (hi2 : i < 16) (b : Int32) (n : Int32) : hg_C l E yX2_begin cX2_begin 3 none { frames := 1, cells := 0, slots := 0, locals := 24 } [.ref (hg_ad E i), .int b, .int n] σ (hg_pv (fun τ => τ.1 = va_up σ.1 i (va_up (va_up (σ.1 i) 1 b) 2 (if b = 0 then 0 else sp_min n 40)) ∧ (∀ j, j ≠ i + 4 → τ.2 j = σ.2 j) ∧ ∀ k, k < 40 → τ.2 (i + 4) k = 0)) := by
  refine hg_intro (by decide) [some (.ref (hg_ad E i)), some (.int b), some (.int n)] rfl (Nat.le_of_ble_eq_true rfl) ?_
  intro p e s m args below meth c cx
  have cx : hg_Cx E p s m args meth c cX2_begin 3 RX2 none := cx
  refine hg_aload0 (pc' := 1) cx dX2_begin_0 rfl ?_
  refine hg_iload1 (pc' := 2) cx dX2_begin_1 rfl ?_
  refine pf_X2_15 (pc' := 5) cx (by first | assumption | omega | decide) (by first | assumption | omega | decide) dX2_begin_2 rfl ?_
  refine hg_aload0 (pc' := 6) cx dX2_begin_5 rfl ?_
  refine hg_aload0 (pc' := 7) cx dX2_begin_6 rfl ?_
  refine cv_X2_19 (pc' := 10) cx (by first | assumption | omega | decide) (by first | assumption | omega | decide) (K_X2_isMissing l E _ _ (by first | assumption | omega | decide) (by first | assumption | omega | decide)) ⟨rfl, rfl, Nat.le_of_ble_eq_true rfl, Nat.le_of_ble_eq_true rfl⟩ (Nat.le_of_ble_eq_true rfl) dX2_begin_7 rfl (fun r_7 τ_7 h_7 => ?_)
  obtain ⟨rfl, rfl⟩ := h_7
  refine hg_if_eq (pc' := 13) cx 17 dX2_begin_10 (by decide) rfl (fun c_10 => ?_) (fun c_10 => ?_)
  ·
    refine hg_iload2 (pc' := 18) cx dX2_begin_17 rfl ?_
    refine hg_bipush (pc' := 20) cx 40 dX2_begin_18 (by decide) rfl ?_
    refine hg_mmin (pc' := 23) cx lm_X2_23 hg_wmin (Nat.le_of_ble_eq_true rfl) (Nat.le_of_ble_eq_true rfl) dX2_begin_20 rfl ?_
    refine pf_X2_29 (pc' := 26) cx (by first | assumption | omega | decide) (by first | assumption | omega | decide) dX2_begin_23 rfl ?_
    refine hg_aload0 (pc' := 27) cx dX2_begin_26 rfl ?_
    refine gf_X2_9 (pc' := 30) cx (by first | assumption | omega | decide) (by first | assumption | omega | decide) dX2_begin_27 rfl ?_
    refine hg_lconst (pc' := 31) cx 0 dX2_begin_30 (by decide) rfl ?_
    refine cs_X2_32 (pc' := 34) cx (K_J7_fill_d0a16 l E _ (i + 4) (by omega) (by omega) 0) ⟨rfl, rfl, Nat.le_of_ble_eq_true rfl, Nat.le_of_ble_eq_true rfl⟩ (Nat.le_of_ble_eq_true rfl) dX2_begin_31 rfl (fun τ_31 h_31 => ?_)
    skip
    refine hg_vret cx dX2_begin_34 ⟨rfl, ?_⟩
    rw [hg_sI_eq, hg_sH_at, va_upE] at c_10
    refine ⟨?_, fun j hj => (h_31.2.1 j hj).trans rfl, h_31.2.2⟩
    rw [h_31.1]
    simp only [hg_sI_eq, hg_sH_at, hg_sH_sH]
    first
      | (rw [if_neg (hg_b0 c_10)]; rfl)
      | (rw [if_pos (hg_b1 c_10)]; rfl)
  ·
    refine hg_iconst (pc' := 14) cx 0 dX2_begin_13 (by decide) rfl ?_
    refine hg_goto cx 23 dX2_begin_14 (by decide) ?_
    refine pf_X2_29 (pc' := 26) cx (by first | assumption | omega | decide) (by first | assumption | omega | decide) dX2_begin_23 rfl ?_
    refine hg_aload0 (pc' := 27) cx dX2_begin_26 rfl ?_
    refine gf_X2_9 (pc' := 30) cx (by first | assumption | omega | decide) (by first | assumption | omega | decide) dX2_begin_27 rfl ?_
    refine hg_lconst (pc' := 31) cx 0 dX2_begin_30 (by decide) rfl ?_
    refine cs_X2_32 (pc' := 34) cx (K_J7_fill_d0a16 l E _ (i + 4) (by omega) (by omega) 0) ⟨rfl, rfl, Nat.le_of_ble_eq_true rfl, Nat.le_of_ble_eq_true rfl⟩ (Nat.le_of_ble_eq_true rfl) dX2_begin_31 rfl (fun τ_31 h_31 => ?_)
    skip
    refine hg_vret cx dX2_begin_34 ⟨rfl, ?_⟩
    rw [hg_sI_eq, hg_sH_at, va_upE] at c_10
    refine ⟨?_, fun j hj => (h_31.2.1 j hj).trans rfl, h_31.2.2⟩
    rw [h_31.1]
    simp only [hg_sI_eq, hg_sH_at, hg_sH_sH]
    first
      | (rw [if_neg (hg_b0 c_10)]; rfl)
      | (rw [if_pos (hg_b1 c_10)]; rfl)
set_option maxHeartbeats 4000000 in
set_option maxRecDepth 100000 in
theorem K_X2_put (l : Launch) (E : hg_Wd) (σ : hg_Mem) (i : Nat) (hi1 : 12 ≤ i) (hi2 : i < 16) (j : Nat) (hj : j < 40) (hl : nI j < σ.1 i 2) (v : Int64) : hg_C l E yX2_put cX2_put 4 none { frames := 0, cells := 0, slots := 0, locals := 0 } [.ref (hg_ad E i), .int (nI j), .long v] σ (hg_pv (fun τ => hg_sL σ (i + 4) j (sp_cut (σ.1 i 1) v) = τ)) := by
  refine hg_intro (by decide) [some (.ref (hg_ad E i)), some (.int (nI j)), some (.long v), none] rfl (Nat.le_of_ble_eq_true rfl) ?_
  intro p e s m args below meth c cx
  have cx : hg_Cx E p s m args meth c cX2_put 4 RX2 none := cx
  refine hg_iload1 (pc' := 1) cx dX2_put_0 rfl ?_
  refine hg_if_lt (pc' := 4) cx 12 dX2_put_1 (by decide) rfl (fun c_1 => ?_) (fun c_1 => ?_)
  ·
    exact absurd c_1 (nI_pos (by omega))
  ·
    refine hg_iload1 (pc' := 5) cx dX2_put_4 rfl ?_
    refine hg_aload0 (pc' := 6) cx dX2_put_5 rfl ?_
    refine gf_X2_29 (pc' := 9) cx (by first | assumption | omega | decide) (by first | assumption | omega | decide) dX2_put_6 rfl ?_
    refine hg_icmp_lt (pc' := 12) cx 13 dX2_put_9 (by decide) rfl (fun c_9 => ?_) (fun c_9 => ?_)
    ·
      refine hg_aload0 (pc' := 14) cx dX2_put_13 rfl ?_
      refine gf_X2_15 (pc' := 17) cx (by first | assumption | omega | decide) (by first | assumption | omega | decide) dX2_put_14 rfl ?_
      refine hg_bipush (pc' := 19) cx 8 dX2_put_17 (by decide) rfl ?_
      refine hg_icmp_ne (pc' := 22) cx 35 dX2_put_19 (by decide) rfl (fun c_19 => ?_) (fun c_19 => ?_)
      ·
        refine hg_aload0 (pc' := 36) cx dX2_put_35 rfl ?_
        refine gf_X2_15 (pc' := 39) cx (by first | assumption | omega | decide) (by first | assumption | omega | decide) dX2_put_36 rfl ?_
        refine hg_bipush (pc' := 41) cx 16 dX2_put_39 (by decide) rfl ?_
        refine hg_icmp_ne (pc' := 44) cx 57 dX2_put_41 (by decide) rfl (fun c_41 => ?_) (fun c_41 => ?_)
        ·
          refine hg_aload0 (pc' := 58) cx dX2_put_57 rfl ?_
          refine gf_X2_9 (pc' := 61) cx (by first | assumption | omega | decide) (by first | assumption | omega | decide) dX2_put_58 rfl ?_
          refine hg_iload1 (pc' := 62) cx dX2_put_61 rfl ?_
          refine hg_lload2 (pc' := 63) cx dX2_put_62 rfl ?_
          refine hg_last2 (i := i + 4) cx (by omega) (fun f g => hg_ceNum E f g (by omega) (by omega)) hj (by decide) dX2_put_63 rfl ?_
          refine hg_vret cx dX2_put_64 ⟨rfl, ?_⟩
          simp (decide := true) only [sp_cut, c_1, c_9, c_19, c_41, if_true, if_false]
        ·
          refine hg_aload0 (pc' := 45) cx dX2_put_44 rfl ?_
          refine gf_X2_9 (pc' := 48) cx (by first | assumption | omega | decide) (by first | assumption | omega | decide) dX2_put_45 rfl ?_
          refine hg_iload1 (pc' := 49) cx dX2_put_48 rfl ?_
          refine hg_lload2 (pc' := 50) cx dX2_put_49 rfl ?_
          refine hg_l2i (pc' := 51) cx dX2_put_50 rfl ?_
          refine hg_i2s (pc' := 52) cx dX2_put_51 rfl ?_
          refine hg_i2l (pc' := 53) cx dX2_put_52 rfl ?_
          refine hg_last2 (i := i + 4) cx (by omega) (fun f g => hg_ceNum E f g (by omega) (by omega)) hj (by decide) dX2_put_53 rfl ?_
          refine hg_goto cx 64 dX2_put_54 (by decide) ?_
          refine hg_vret cx dX2_put_64 ⟨rfl, ?_⟩
          simp (decide := true) only [sp_cut, c_1, c_9, c_19, c_41, if_true, if_false]
      ·
        refine hg_aload0 (pc' := 23) cx dX2_put_22 rfl ?_
        refine gf_X2_9 (pc' := 26) cx (by first | assumption | omega | decide) (by first | assumption | omega | decide) dX2_put_23 rfl ?_
        refine hg_iload1 (pc' := 27) cx dX2_put_26 rfl ?_
        refine hg_lload2 (pc' := 28) cx dX2_put_27 rfl ?_
        refine hg_l2i (pc' := 29) cx dX2_put_28 rfl ?_
        refine hg_i2b (pc' := 30) cx dX2_put_29 rfl ?_
        refine hg_i2l (pc' := 31) cx dX2_put_30 rfl ?_
        refine hg_last2 (i := i + 4) cx (by omega) (fun f g => hg_ceNum E f g (by omega) (by omega)) hj (by decide) dX2_put_31 rfl ?_
        refine hg_goto cx 64 dX2_put_32 (by decide) ?_
        refine hg_vret cx dX2_put_64 ⟨rfl, ?_⟩
        simp (decide := true) only [sp_cut, c_1, c_9, c_19, if_true, if_false]
    ·
      exact absurd hl c_9
set_option maxHeartbeats 4000000 in
set_option maxRecDepth 100000 in
theorem K_X5_sheet (l : Launch) (E : hg_Wd) (σ : hg_Mem) (S : sp_S) (hc : cw_C σ S) (s : Int32) (b : Int32) (n : Int32) : hg_C l E yX5_sheet cX5_sheet 4 (some .int) { frames := 2, cells := 0, slots := 0, locals := 46 } [.ref (hg_ad E 0), .int s, .int b, .int n] σ (hg_pi (fun r τ => cw_P σ (op_sheet S s b n) r τ)) := by
  refine hg_intro (by decide) [some (.ref (hg_ad E 0)), some (.int s), some (.int b), some (.int n)] rfl (Nat.le_of_ble_eq_true rfl) ?_
  intro p e s m args below meth c cx
  have cx : hg_Cx E p s m args meth c cX5_sheet 4 RX5 (some .int) := cx
  obtain ⟨hn10, hn, g0, g1, g2, hag⟩ := hc.get
  refine hg_iload1 (pc' := 1) cx dX5_sheet_0 rfl ?_
  refine cs_X5_191 (pc' := 4) cx (K_X5_noSheet l E _ _) ⟨rfl, rfl, Nat.le_of_ble_eq_true rfl, Nat.le_of_ble_eq_true rfl⟩ (Nat.le_of_ble_eq_true rfl) dX5_sheet_1 rfl (fun r_1 τ_1 h_1 => ?_)
  obtain ⟨rfl, rfl⟩ := h_1
  refine hg_if_ne (pc' := 7) cx 14 dX5_sheet_4 (by decide) rfl (fun c_4 => ?_) (fun c_4 => ?_)
  ·
    refine hg_aload0 (pc' := 15) cx dX5_sheet_14 rfl ?_
    refine hg_ldc (pc' := 17) cx kc_X5_44 dX5_sheet_15 rfl ?_
    refine cv_X5_45 (pc' := 20) cx (K_X5_finding l E _ (-1000000001) 0 (by decide) (by decide)) ⟨rfl, rfl, Nat.le_of_ble_eq_true rfl, Nat.le_of_ble_eq_true rfl⟩ (Nat.le_of_ble_eq_true rfl) dX5_sheet_17 rfl (fun r_17 τ_17 h_17 => ?_)
    obtain ⟨rfl, rfl⟩ := h_17
    refine hg_iret cx dX5_sheet_20 ⟨_, rfl, ?_⟩
    simp only [op_sheet, c_4, not_true_eq_false, not_false_eq_true, true_or, or_true, false_or, or_false, or_self, if_true, if_false, and_self]
    exact hc.find (by decide) (by decide)
  ·
    refine hg_iload2 (pc' := 8) cx dX5_sheet_7 rfl ?_
    refine cs_X5_194 (pc' := 11) cx (K_X2_mayHave l E _ _) ⟨rfl, rfl, Nat.le_of_ble_eq_true rfl, Nat.le_of_ble_eq_true rfl⟩ (Nat.le_of_ble_eq_true rfl) dX5_sheet_8 rfl (fun r_8 τ_8 h_8 => ?_)
    obtain ⟨rfl, rfl⟩ := h_8
    refine hg_if_ne (pc' := 14) cx 21 dX5_sheet_11 (by decide) rfl (fun c_11 => ?_) (fun c_11 => ?_)
    ·
      obtain ⟨a, -, ha3, rfl⟩ := sp_out_of 0 3 (by decide) (by decide) (by decide) (by decide) c_4
      have hca : (nI a).toNatClampNeg = a := nI_clamp (by omega)
      obtain ⟨s1a, s2a, s3a⟩ := hc.2.2.2.2.2.2 a (by omega)
      refine hg_iload3 (pc' := 22) cx dX5_sheet_21 rfl ?_
      refine hg_if_ge (pc' := 25) cx 32 dX5_sheet_22 (by decide) rfl (fun c_22 => ?_) (fun c_22 => ?_)
      ·
        refine hg_iload3 (pc' := 33) cx dX5_sheet_32 rfl ?_
        refine hg_bipush (pc' := 35) cx 40 dX5_sheet_33 (by decide) rfl ?_
        refine hg_icmp_le (pc' := 38) cx 45 dX5_sheet_35 (by decide) rfl (fun c_35 => ?_) (fun c_35 => ?_)
        ·
          refine hg_aload0 (pc' := 46) cx dX5_sheet_45 rfl ?_
          refine gf_X5_31 (pc' := 49) cx dX5_sheet_46 rfl ?_
          refine hg_iload1 (pc' := 50) cx dX5_sheet_49 rfl ?_
          refine hg_shat (j := a) cx (by omega) dX5_sheet_50 rfl ?_
          refine hg_iload2 (pc' := 52) cx dX5_sheet_51 rfl ?_
          refine hg_iload3 (pc' := 53) cx dX5_sheet_52 rfl ?_
          refine cv_X5_198 (pc' := 56) cx (by first | assumption | omega | decide) (by first | assumption | omega | decide) (K_X2_begin l E _ _ (by first | assumption | omega | decide) (by first | assumption | omega | decide) _ _) ⟨rfl, rfl, Nat.le_of_ble_eq_true rfl, Nat.le_of_ble_eq_true rfl⟩ (Nat.le_of_ble_eq_true rfl) dX5_sheet_53 rfl (fun τ_53 h_53 => ?_)
          skip
          refine hg_aload0 (pc' := 57) cx dX5_sheet_56 rfl ?_
          refine gf_X5_31 (pc' := 60) cx dX5_sheet_57 rfl ?_
          refine hg_iload1 (pc' := 61) cx dX5_sheet_60 rfl ?_
          refine hg_shat (j := a) cx (by omega) dX5_sheet_61 rfl ?_
          refine gf_X5_201 (pc' := 65) cx (by first | assumption | omega | decide) (by first | assumption | omega | decide) dX5_sheet_62 rfl ?_
          refine hg_iret cx dX5_sheet_65 ⟨_, rfl, ?_⟩
          simp only [op_sheet, c_4, c_11, if_neg (Int32.not_lt.mpr c_22), if_neg (Int32.not_lt.mpr c_35), not_true_eq_false, or_self, if_false, hca]
          have hm : sp_min n 40 = n := by rw [sp_min, if_neg (Int32.not_lt.mpr c_35)]
          rw [hm] at h_53
          refine ⟨?_, hc.sheet (by omega) b _ h_53.1 (fun j hj => h_53.2.1 j (by omega)) (fun k hk => (congrArg (fun z => τ_53.2 z k) (show 16 + a = 12 + a + 4 by omega)).trans (h_53.2.2 k hk))⟩
          rw [h_53.1, va_upE, va_upE]
        ·
          refine hg_aload0 (pc' := 39) cx dX5_sheet_38 rfl ?_
          refine hg_ldc (pc' := 41) cx kc_X5_44 dX5_sheet_39 rfl ?_
          refine cv_X5_45 (pc' := 44) cx (K_X5_finding l E _ (-1000000001) 0 (by decide) (by decide)) ⟨rfl, rfl, Nat.le_of_ble_eq_true rfl, Nat.le_of_ble_eq_true rfl⟩ (Nat.le_of_ble_eq_true rfl) dX5_sheet_41 rfl (fun r_41 τ_41 h_41 => ?_)
          obtain ⟨rfl, rfl⟩ := h_41
          refine hg_iret cx dX5_sheet_44 ⟨_, rfl, ?_⟩
          simp only [op_sheet, c_4, c_11, if_neg (Int32.not_lt.mpr c_22), if_pos (Int32.not_le.mp c_35), not_true_eq_false, or_self, if_false]
          exact hc.find (by decide) (by decide)
      ·
        refine hg_aload0 (pc' := 26) cx dX5_sheet_25 rfl ?_
        refine hg_ldc (pc' := 28) cx kc_X5_197 dX5_sheet_26 rfl ?_
        refine cv_X5_45 (pc' := 31) cx (K_X5_finding l E _ (-1000000007) 6 (by decide) (by decide)) ⟨rfl, rfl, Nat.le_of_ble_eq_true rfl, Nat.le_of_ble_eq_true rfl⟩ (Nat.le_of_ble_eq_true rfl) dX5_sheet_28 rfl (fun r_28 τ_28 h_28 => ?_)
        obtain ⟨rfl, rfl⟩ := h_28
        refine hg_iret cx dX5_sheet_31 ⟨_, rfl, ?_⟩
        simp only [op_sheet, c_4, c_11, if_pos (Int32.not_le.mp c_22), not_true_eq_false, or_self, if_false]
        exact hc.find (by decide) (by decide)
    ·
      refine hg_aload0 (pc' := 15) cx dX5_sheet_14 rfl ?_
      refine hg_ldc (pc' := 17) cx kc_X5_44 dX5_sheet_15 rfl ?_
      refine cv_X5_45 (pc' := 20) cx (K_X5_finding l E _ (-1000000001) 0 (by decide) (by decide)) ⟨rfl, rfl, Nat.le_of_ble_eq_true rfl, Nat.le_of_ble_eq_true rfl⟩ (Nat.le_of_ble_eq_true rfl) dX5_sheet_17 rfl (fun r_17 τ_17 h_17 => ?_)
      obtain ⟨rfl, rfl⟩ := h_17
      refine hg_iret cx dX5_sheet_20 ⟨_, rfl, ?_⟩
      simp only [op_sheet, c_4, c_11, not_true_eq_false, not_false_eq_true, true_or, or_true, false_or, or_false, or_self, if_true, if_false, and_self]
      exact hc.find (by decide) (by decide)
set_option maxHeartbeats 4000000 in
set_option maxRecDepth 100000 in
theorem K_X5_write (l : Launch) (E : hg_Wd) (σ : hg_Mem) (S : sp_S) (hc : cw_C σ S) (hv : vs_S S) (s : Int32) (x : Int32) (v : Int64) : hg_C l E yX5_write cX5_write 7 (some .long) { frames := 2, cells := 0, slots := 0, locals := 44 } [.ref (hg_ad E 0), .int s, .int x, .long v] σ (hg_pl (fun r τ => cw_PL σ (op_write S s x v) r τ)) := by
  refine hg_intro (by decide) [some (.ref (hg_ad E 0)), some (.int s), some (.int x), some (.long v), none, none, none] rfl (Nat.le_of_ble_eq_true rfl) ?_
  intro p e s m args below meth c cx
  have cx : hg_Cx E p s m args meth c cX5_write 7 RX5 (some .long) := cx
  obtain ⟨hn10, hn, g0, g1, g2, hag⟩ := hc.get
  refine hg_iload1 (pc' := 1) cx dX5_write_0 rfl ?_
  refine cs_X5_191 (pc' := 4) cx (K_X5_noSheet l E _ _) ⟨rfl, rfl, Nat.le_of_ble_eq_true rfl, Nat.le_of_ble_eq_true rfl⟩ (Nat.le_of_ble_eq_true rfl) dX5_write_1 rfl (fun r_1 τ_1 h_1 => ?_)
  obtain ⟨rfl, rfl⟩ := h_1
  refine hg_if_eq (pc' := 7) cx 15 dX5_write_4 (by decide) rfl (fun c_4 => ?_) (fun c_4 => ?_)
  ·
    obtain ⟨a, -, ha3, rfl⟩ := sp_out_of 0 3 (by decide) (by decide) (by decide) (by decide) c_4
    have hca : (nI a).toNatClampNeg = a := nI_clamp (by omega)
    obtain ⟨s1a, s2a, s3a⟩ := hc.2.2.2.2.2.2 a (by omega)
    refine hg_aload0 (pc' := 16) cx dX5_write_15 rfl ?_
    refine gf_X5_31 (pc' := 19) cx dX5_write_16 rfl ?_
    refine hg_iload1 (pc' := 20) cx dX5_write_19 rfl ?_
    refine hg_shat (j := a) cx (by omega) dX5_write_20 rfl ?_
    refine cv_X5_202 (pc' := 24) cx (by first | assumption | omega | decide) (by first | assumption | omega | decide) (K_X2_isMissing l E _ _ (by first | assumption | omega | decide) (by first | assumption | omega | decide)) ⟨rfl, rfl, Nat.le_of_ble_eq_true rfl, Nat.le_of_ble_eq_true rfl⟩ (Nat.le_of_ble_eq_true rfl) dX5_write_21 rfl (fun r_21 τ_21 h_21 => ?_)
    obtain ⟨rfl, rfl⟩ := h_21
    refine hg_if_eq (pc' := 27) cx 35 dX5_write_24 (by decide) rfl (fun c_24 => ?_) (fun c_24 => ?_)
    ·
      refine hg_iload2 (pc' := 36) cx dX5_write_35 rfl ?_
      refine hg_iconst (pc' := 37) cx 0 dX5_write_36 (by decide) rfl ?_
      refine hg_aload0 (pc' := 38) cx dX5_write_37 rfl ?_
      refine gf_X5_31 (pc' := 41) cx dX5_write_38 rfl ?_
      refine hg_iload1 (pc' := 42) cx dX5_write_41 rfl ?_
      refine hg_shat (j := a) cx (by omega) dX5_write_42 rfl ?_
      refine gf_X5_201 (pc' := 46) cx (by first | assumption | omega | decide) (by first | assumption | omega | decide) dX5_write_43 rfl ?_
      refine hg_iconst (pc' := 47) cx 1 dX5_write_46 (by decide) rfl ?_
      refine hg_isub (pc' := 48) cx dX5_write_47 rfl ?_
      refine cs_X5_40 (pc' := 51) cx (K_X5_outside l E _ _ _ _) ⟨rfl, rfl, Nat.le_of_ble_eq_true rfl, Nat.le_of_ble_eq_true rfl⟩ (Nat.le_of_ble_eq_true rfl) dX5_write_48 rfl (fun r_48 τ_48 h_48 => ?_)
      obtain ⟨rfl, rfl⟩ := h_48
      refine hg_if_eq (pc' := 54) cx 62 dX5_write_51 (by decide) rfl (fun c_51 => ?_) (fun c_51 => ?_)
      ·
        obtain ⟨len, hlen, elen⟩ := (hv.2.2.2.2 a (by omega)).2
        obtain ⟨j, hjl, rfl⟩ : ∃ j, j < len ∧ x = nI j := by
          have h1 := hg_b0 c_51
          have hx0 : ¬ x < 0 := fun z => h1 (Or.inl z)
          obtain ⟨j, hj, rfl⟩ := nI_of hx0
          refine ⟨j, ?_, rfl⟩
          rcases Nat.lt_or_ge j len with q | q
          · exact q
          · exfalso
            apply h1
            right
            rw [s2a, elen]
            rcases Nat.eq_zero_or_pos len with z | z
            · rw [z]; exact Int32.lt_of_lt_of_le (show nI 0 - 1 < 0 by decide) (nI_pos' hj)
            · obtain ⟨len1, rfl⟩ : ∃ y, len = y + 1 := ⟨len - 1, by omega⟩
              rw [nI_pred]; exact nI_lt (by omega) hj
        have hcj : (nI j).toNatClampNeg = j := nI_clamp (by omega)
        refine hg_aload0 (pc' := 63) cx dX5_write_62 rfl ?_
        refine gf_X5_31 (pc' := 66) cx dX5_write_63 rfl ?_
        refine hg_iload1 (pc' := 67) cx dX5_write_66 rfl ?_
        refine hg_shat (j := a) cx (by omega) dX5_write_67 rfl ?_
        refine gf_X5_206 (pc' := 71) cx (by first | assumption | omega | decide) (by first | assumption | omega | decide) dX5_write_68 rfl ?_
        refine hg_iload2 (pc' := 72) cx dX5_write_71 rfl ?_
        refine hg_lald2 (i := 12 + a + 4) cx (by omega) (fun f g => hg_ceNum E f g (by omega) (by omega)) (by omega) (by decide) dX5_write_72 rfl ?_
        refine hg_lstore5 (pc' := 75) cx rfl dX5_write_73 rfl ?_
        refine hg_aload0 (pc' := 76) cx dX5_write_75 rfl ?_
        refine gf_X5_31 (pc' := 79) cx dX5_write_76 rfl ?_
        refine hg_iload1 (pc' := 80) cx dX5_write_79 rfl ?_
        refine hg_shat (j := a) cx (by omega) dX5_write_80 rfl ?_
        refine hg_iload2 (pc' := 82) cx dX5_write_81 rfl ?_
        refine hg_lload3 (pc' := 83) cx dX5_write_82 rfl ?_
        refine cv_X5_210 (pc' := 86) cx (by first | assumption | omega | decide) (by first | assumption | omega | decide) (K_X2_put l E _ (12 + a) (by omega) (by omega) j (by omega) (by rw [s2a, elen]; exact nI_lt hjl (by omega)) v) ⟨rfl, rfl, Nat.le_of_ble_eq_true rfl, Nat.le_of_ble_eq_true rfl⟩ (Nat.le_of_ble_eq_true rfl) dX5_write_83 rfl (fun τ_83 h_83 => ?_)
        obtain rfl := h_83
        refine hg_lload5 (pc' := 88) cx dX5_write_86 rfl ?_
        refine hg_lret cx dX5_write_88 ⟨_, rfl, ?_⟩
        simp only [op_write, c_4, hca, hcj, ← s1a, ← s2a, if_neg (hg_b0 c_24), c_51, not_true_eq_false, not_false_eq_true, if_true, if_false]
        rw [show 12 + a + 4 = 16 + a by omega]
        refine ⟨s3a j (by omega), ?_⟩
        refine hc.cells (by omega) _ rfl (fun y hy => by rw [hg_sL_eq, hg_sM_ne _ _ hy]) (fun k hk => ?_)
        rw [hg_sL_eq, hg_sM_at]
        by_cases q : k = j
        · rw [q, va_upE, va_upE]
        · rw [va_upN _ _ q, va_upN _ _ q]; exact s3a k hk
      ·
        refine hg_aload0 (pc' := 55) cx dX5_write_54 rfl ?_
        refine hg_ldc (pc' := 57) cx kc_X5_44 dX5_write_55 rfl ?_
        refine cv_X5_45 (pc' := 60) cx (K_X5_finding l E _ (-1000000001) 0 (by decide) (by decide)) ⟨rfl, rfl, Nat.le_of_ble_eq_true rfl, Nat.le_of_ble_eq_true rfl⟩ (Nat.le_of_ble_eq_true rfl) dX5_write_57 rfl (fun r_57 τ_57 h_57 => ?_)
        obtain ⟨rfl, rfl⟩ := h_57
        refine hg_i2l (pc' := 61) cx dX5_write_60 rfl ?_
        refine hg_lret cx dX5_write_61 ⟨_, rfl, ?_⟩
        simp only [op_write, c_4, hca, ← s1a, ← s2a, if_neg (hg_b0 c_24), c_51, not_true_eq_false, not_false_eq_true, if_true, if_false]
        exact hc.findL (by decide) (by decide)
    ·
      refine hg_aload0 (pc' := 28) cx dX5_write_27 rfl ?_
      refine hg_ldc (pc' := 30) cx kc_X5_205 dX5_write_28 rfl ?_
      refine cv_X5_45 (pc' := 33) cx (K_X5_finding l E _ (-1000000006) 5 (by decide) (by decide)) ⟨rfl, rfl, Nat.le_of_ble_eq_true rfl, Nat.le_of_ble_eq_true rfl⟩ (Nat.le_of_ble_eq_true rfl) dX5_write_30 rfl (fun r_30 τ_30 h_30 => ?_)
      obtain ⟨rfl, rfl⟩ := h_30
      refine hg_i2l (pc' := 34) cx dX5_write_33 rfl ?_
      refine hg_lret cx dX5_write_34 ⟨_, rfl, ?_⟩
      simp only [op_write, c_4, hca, ← s1a, if_pos (hg_b1 c_24), not_true_eq_false, not_false_eq_true, if_true, if_false]
      exact hc.findL (by decide) (by decide)
  ·
    refine hg_aload0 (pc' := 8) cx dX5_write_7 rfl ?_
    refine hg_ldc (pc' := 10) cx kc_X5_44 dX5_write_8 rfl ?_
    refine cv_X5_45 (pc' := 13) cx (K_X5_finding l E _ (-1000000001) 0 (by decide) (by decide)) ⟨rfl, rfl, Nat.le_of_ble_eq_true rfl, Nat.le_of_ble_eq_true rfl⟩ (Nat.le_of_ble_eq_true rfl) dX5_write_10 rfl (fun r_10 τ_10 h_10 => ?_)
    obtain ⟨rfl, rfl⟩ := h_10
    refine hg_i2l (pc' := 14) cx dX5_write_13 rfl ?_
    refine hg_lret cx dX5_write_14 ⟨_, rfl, ?_⟩
    simp only [op_write, c_4, not_true_eq_false, not_false_eq_true, if_true, if_false]
    exact hc.findL (by decide) (by decide)
set_option maxHeartbeats 4000000 in
set_option maxRecDepth 100000 in
theorem K_X5_copy (l : Launch) (E : hg_Wd) (σ : hg_Mem) (S : sp_S) (hc : cw_C σ S) (hv : vs_S S) (s : Int32) (f : Int32) (t : Int32) (g : Int32) (n : Int32) : hg_C l E yX5_copy cX5_copy 6 (some .int) { frames := 2, cells := 0, slots := 0, locals := 44 } [.ref (hg_ad E 0), .int s, .int f, .int t, .int g, .int n] σ (hg_pi (fun r τ => cw_P σ (op_copy S s f t g n) r τ)) := by
  refine hg_intro (by decide) [some (.ref (hg_ad E 0)), some (.int s), some (.int f), some (.int t), some (.int g), some (.int n)] rfl (Nat.le_of_ble_eq_true rfl) ?_
  intro p e s m args below meth c cx
  have cx : hg_Cx E p s m args meth c cX5_copy 6 RX5 (some .int) := cx
  obtain ⟨hn10, hn, g0, g1, g2, hag⟩ := hc.get
  refine hg_iload1 (pc' := 1) cx dX5_copy_0 rfl ?_
  refine cs_X5_191 (pc' := 4) cx (K_X5_noSheet l E _ _) ⟨rfl, rfl, Nat.le_of_ble_eq_true rfl, Nat.le_of_ble_eq_true rfl⟩ (Nat.le_of_ble_eq_true rfl) dX5_copy_1 rfl (fun r_1 τ_1 h_1 => ?_)
  obtain ⟨rfl, rfl⟩ := h_1
  refine hg_if_ne (pc' := 7) cx 14 dX5_copy_4 (by decide) rfl (fun c_4 => ?_) (fun c_4 => ?_)
  ·
    refine hg_aload0 (pc' := 15) cx dX5_copy_14 rfl ?_
    refine hg_ldc (pc' := 17) cx kc_X5_44 dX5_copy_15 rfl ?_
    refine cv_X5_45 (pc' := 20) cx (K_X5_finding l E _ (-1000000001) 0 (by decide) (by decide)) ⟨rfl, rfl, Nat.le_of_ble_eq_true rfl, Nat.le_of_ble_eq_true rfl⟩ (Nat.le_of_ble_eq_true rfl) dX5_copy_17 rfl (fun r_17 τ_17 h_17 => ?_)
    obtain ⟨rfl, rfl⟩ := h_17
    refine hg_iret cx dX5_copy_20 ⟨_, rfl, ?_⟩
    simp only [op_copy, c_4, not_true_eq_false, not_false_eq_true, true_or, or_true, false_or, or_false, or_self, if_true, if_false, and_self]
    exact hc.find (by decide) (by decide)
  ·
    refine hg_iload3 (pc' := 8) cx dX5_copy_7 rfl ?_
    refine cs_X5_191 (pc' := 11) cx (K_X5_noSheet l E _ _) ⟨rfl, rfl, Nat.le_of_ble_eq_true rfl, Nat.le_of_ble_eq_true rfl⟩ (Nat.le_of_ble_eq_true rfl) dX5_copy_8 rfl (fun r_8 τ_8 h_8 => ?_)
    obtain ⟨rfl, rfl⟩ := h_8
    refine hg_if_eq (pc' := 14) cx 21 dX5_copy_11 (by decide) rfl (fun c_11 => ?_) (fun c_11 => ?_)
    ·
      obtain ⟨a, -, ha3, rfl⟩ := sp_out_of 0 3 (by decide) (by decide) (by decide) (by decide) c_4
      have hca : (nI a).toNatClampNeg = a := nI_clamp (by omega)
      obtain ⟨s1a, s2a, s3a⟩ := hc.2.2.2.2.2.2 a (by omega)
      obtain ⟨b, -, hb3, rfl⟩ := sp_out_of 0 3 (by decide) (by decide) (by decide) (by decide) c_11
      have hcb : (nI b).toNatClampNeg = b := nI_clamp (by omega)
      obtain ⟨s1b, s2b, s3b⟩ := hc.2.2.2.2.2.2 b (by omega)
      refine hg_aload0 (pc' := 22) cx dX5_copy_21 rfl ?_
      refine gf_X5_31 (pc' := 25) cx dX5_copy_22 rfl ?_
      refine hg_iload1 (pc' := 26) cx dX5_copy_25 rfl ?_
      refine hg_shat (j := a) cx (by omega) dX5_copy_26 rfl ?_
      refine cv_X5_202 (pc' := 30) cx (by first | assumption | omega | decide) (by first | assumption | omega | decide) (K_X2_isMissing l E _ _ (by first | assumption | omega | decide) (by first | assumption | omega | decide)) ⟨rfl, rfl, Nat.le_of_ble_eq_true rfl, Nat.le_of_ble_eq_true rfl⟩ (Nat.le_of_ble_eq_true rfl) dX5_copy_27 rfl (fun r_27 τ_27 h_27 => ?_)
      obtain ⟨rfl, rfl⟩ := h_27
      refine hg_if_ne (pc' := 33) cx 45 dX5_copy_30 (by decide) rfl (fun c_30 => ?_) (fun c_30 => ?_)
      ·
        refine hg_aload0 (pc' := 46) cx dX5_copy_45 rfl ?_
        refine hg_ldc (pc' := 48) cx kc_X5_205 dX5_copy_46 rfl ?_
        refine cv_X5_45 (pc' := 51) cx (K_X5_finding l E _ (-1000000006) 5 (by decide) (by decide)) ⟨rfl, rfl, Nat.le_of_ble_eq_true rfl, Nat.le_of_ble_eq_true rfl⟩ (Nat.le_of_ble_eq_true rfl) dX5_copy_48 rfl (fun r_48 τ_48 h_48 => ?_)
        obtain ⟨rfl, rfl⟩ := h_48
        refine hg_iret cx dX5_copy_51 ⟨_, rfl, ?_⟩
        simp only [op_copy, c_4, c_11, hca, hcb, ← s1a, ← s1b, not_true_eq_false, or_self, if_false]
        first
          | (rw [if_pos (Or.inl (hg_b1 c_30))]; exact hc.find (by decide) (by decide))
          | (rw [if_pos (Or.inr (hg_b1 c_42))]; exact hc.find (by decide) (by decide))
      ·
        refine hg_aload0 (pc' := 34) cx dX5_copy_33 rfl ?_
        refine gf_X5_31 (pc' := 37) cx dX5_copy_34 rfl ?_
        refine hg_iload3 (pc' := 38) cx dX5_copy_37 rfl ?_
        refine hg_shat (j := b) cx (by omega) dX5_copy_38 rfl ?_
        refine cv_X5_202 (pc' := 42) cx (by first | assumption | omega | decide) (by first | assumption | omega | decide) (K_X2_isMissing l E _ _ (by first | assumption | omega | decide) (by first | assumption | omega | decide)) ⟨rfl, rfl, Nat.le_of_ble_eq_true rfl, Nat.le_of_ble_eq_true rfl⟩ (Nat.le_of_ble_eq_true rfl) dX5_copy_39 rfl (fun r_39 τ_39 h_39 => ?_)
        obtain ⟨rfl, rfl⟩ := h_39
        refine hg_if_eq (pc' := 45) cx 52 dX5_copy_42 (by decide) rfl (fun c_42 => ?_) (fun c_42 => ?_)
        ·
          refine hg_aload0 (pc' := 53) cx dX5_copy_52 rfl ?_
          refine gf_X5_31 (pc' := 56) cx dX5_copy_53 rfl ?_
          refine hg_iload1 (pc' := 57) cx dX5_copy_56 rfl ?_
          refine hg_shat (j := a) cx (by omega) dX5_copy_57 rfl ?_
          refine gf_X5_213 (pc' := 61) cx (by first | assumption | omega | decide) (by first | assumption | omega | decide) dX5_copy_58 rfl ?_
          refine hg_aload0 (pc' := 62) cx dX5_copy_61 rfl ?_
          refine gf_X5_31 (pc' := 65) cx dX5_copy_62 rfl ?_
          refine hg_iload3 (pc' := 66) cx dX5_copy_65 rfl ?_
          refine hg_shat (j := b) cx (by omega) dX5_copy_66 rfl ?_
          refine gf_X5_213 (pc' := 70) cx (by first | assumption | omega | decide) (by first | assumption | omega | decide) dX5_copy_67 rfl ?_
          refine hg_icmp_eq (pc' := 73) cx 80 dX5_copy_70 (by decide) rfl (fun c_70 => ?_) (fun c_70 => ?_)
          ·
            refine hg_aload0 (pc' := 81) cx dX5_copy_80 rfl ?_
            refine gf_X5_31 (pc' := 84) cx dX5_copy_81 rfl ?_
            refine hg_iload1 (pc' := 85) cx dX5_copy_84 rfl ?_
            refine hg_shat (j := a) cx (by omega) dX5_copy_85 rfl ?_
            refine hg_iload2 (pc' := 87) cx dX5_copy_86 rfl ?_
            refine hg_iload5 (pc' := 89) cx dX5_copy_87 rfl ?_
            refine cv_X5_216 (pc' := 92) cx (by first | assumption | omega | decide) (by first | assumption | omega | decide) (K_X2_hasRun l E _ _ (by first | assumption | omega | decide) (by first | assumption | omega | decide) _ _) ⟨rfl, rfl, Nat.le_of_ble_eq_true rfl, Nat.le_of_ble_eq_true rfl⟩ (Nat.le_of_ble_eq_true rfl) dX5_copy_89 rfl (fun r_89 τ_89 h_89 => ?_)
            obtain ⟨rfl, rfl⟩ := h_89
            refine hg_if_eq (pc' := 95) cx 111 dX5_copy_92 (by decide) rfl (fun c_92 => ?_) (fun c_92 => ?_)
            ·
              refine hg_aload0 (pc' := 112) cx dX5_copy_111 rfl ?_
              refine hg_ldc (pc' := 114) cx kc_X5_44 dX5_copy_112 rfl ?_
              refine cv_X5_45 (pc' := 117) cx (K_X5_finding l E _ (-1000000001) 0 (by decide) (by decide)) ⟨rfl, rfl, Nat.le_of_ble_eq_true rfl, Nat.le_of_ble_eq_true rfl⟩ (Nat.le_of_ble_eq_true rfl) dX5_copy_114 rfl (fun r_114 τ_114 h_114 => ?_)
              obtain ⟨rfl, rfl⟩ := h_114
              refine hg_iret cx dX5_copy_117 ⟨_, rfl, ?_⟩
              simp only [op_copy, c_4, c_11, hca, hcb, ← s1a, ← s1b, ← s2a, ← s2b, not_true_eq_false, or_self, if_false, if_neg (not_or.mpr ⟨hg_b0 c_30, hg_b0 c_42⟩), if_neg (show ¬ ¬ σ.1 (12 + a) 1 = σ.1 (12 + b) 1 from fun z => z c_70)]
              first
                | (rw [if_pos (Or.inl c_92)]; exact hc.find (by decide) (by decide))
                | (rw [if_pos (Or.inr c_108)]; exact hc.find (by decide) (by decide))
            ·
              refine hg_aload0 (pc' := 96) cx dX5_copy_95 rfl ?_
              refine gf_X5_31 (pc' := 99) cx dX5_copy_96 rfl ?_
              refine hg_iload3 (pc' := 100) cx dX5_copy_99 rfl ?_
              refine hg_shat (j := b) cx (by omega) dX5_copy_100 rfl ?_
              refine hg_iload4 (pc' := 103) cx dX5_copy_101 rfl ?_
              refine hg_iload5 (pc' := 105) cx dX5_copy_103 rfl ?_
              refine cv_X5_216 (pc' := 108) cx (by first | assumption | omega | decide) (by first | assumption | omega | decide) (K_X2_hasRun l E _ _ (by first | assumption | omega | decide) (by first | assumption | omega | decide) _ _) ⟨rfl, rfl, Nat.le_of_ble_eq_true rfl, Nat.le_of_ble_eq_true rfl⟩ (Nat.le_of_ble_eq_true rfl) dX5_copy_105 rfl (fun r_105 τ_105 h_105 => ?_)
              obtain ⟨rfl, rfl⟩ := h_105
              refine hg_if_ne (pc' := 111) cx 118 dX5_copy_108 (by decide) rfl (fun c_108 => ?_) (fun c_108 => ?_)
              ·
                have rf : ∃ y m, f = nI y ∧ n = nI m ∧ y + m ≤ 40 := by
                  obtain ⟨r1, r2, r3, r4⟩ := hg_b1 c_92
                  obtain ⟨y, hy, e1⟩ := nI_of (Int32.not_lt.mpr r1)
                  obtain ⟨m, hm, e2⟩ := nI_of (Int32.not_lt.mpr r2)
                  obtain ⟨len, hlen, elen⟩ := (hv.2.2.2.2 a (by omega)).2
                  refine ⟨y, m, e1, e2, ?_⟩
                  rw [s2a, elen, e2] at r3 r4
                  have q1 := (nI_leI hm (by omega)).mp r3
                  rw [e1, pk_sub q1] at r4
                  have q2 := (nI_leI hy (by omega)).mp r4
                  omega
                have rg : ∃ y m, g = nI y ∧ n = nI m ∧ y + m ≤ 40 := by
                  obtain ⟨r1, r2, r3, r4⟩ := hg_b1 c_108
                  obtain ⟨y, hy, e1⟩ := nI_of (Int32.not_lt.mpr r1)
                  obtain ⟨m, hm, e2⟩ := nI_of (Int32.not_lt.mpr r2)
                  obtain ⟨len, hlen, elen⟩ := (hv.2.2.2.2 b (by omega)).2
                  refine ⟨y, m, e1, e2, ?_⟩
                  rw [s2b, elen, e2] at r3 r4
                  have q1 := (nI_leI hm (by omega)).mp r3
                  rw [e1, pk_sub q1] at r4
                  have q2 := (nI_leI hy (by omega)).mp r4
                  omega
                obtain ⟨y, m, rfl, rfl, hym⟩ := rf
                obtain ⟨z, m2, rfl, em, hzm⟩ := rg
                have hcy : (nI y).toNatClampNeg = y := nI_clamp (by omega)
                have hcz : (nI z).toNatClampNeg = z := nI_clamp (by omega)
                have hcm : (nI m).toNatClampNeg = m := nI_clamp (by omega)
                obtain rfl : m = m2 := by
                  have := congrArg Int32.toNatClampNeg em
                  rw [hcm, nI_clamp (by omega)] at this
                  exact this
                refine hg_aload0 (pc' := 119) cx dX5_copy_118 rfl ?_
                refine gf_X5_31 (pc' := 122) cx dX5_copy_119 rfl ?_
                refine hg_iload1 (pc' := 123) cx dX5_copy_122 rfl ?_
                refine hg_shat (j := a) cx (by omega) dX5_copy_123 rfl ?_
                refine gf_X5_206 (pc' := 127) cx (by first | assumption | omega | decide) (by first | assumption | omega | decide) dX5_copy_124 rfl ?_
                refine hg_iload2 (pc' := 128) cx dX5_copy_127 rfl ?_
                refine hg_aload0 (pc' := 129) cx dX5_copy_128 rfl ?_
                refine gf_X5_31 (pc' := 132) cx dX5_copy_129 rfl ?_
                refine hg_iload3 (pc' := 133) cx dX5_copy_132 rfl ?_
                refine hg_shat (j := b) cx (by omega) dX5_copy_133 rfl ?_
                refine gf_X5_206 (pc' := 137) cx (by first | assumption | omega | decide) (by first | assumption | omega | decide) dX5_copy_134 rfl ?_
                refine hg_iload4 (pc' := 139) cx dX5_copy_137 rfl ?_
                refine hg_iload5 (pc' := 141) cx dX5_copy_139 rfl ?_
                refine hg_cpy (a := 12 + a + 4) (b := 12 + b + 4) cx (by omega) (by omega) (by omega) (by omega) hym hzm ly_X5_220 (Nat.le_of_ble_eq_true rfl) (by decide) dX5_copy_141 rfl ?_
                refine hg_iload5 (pc' := 146) cx dX5_copy_144 rfl ?_
                refine hg_iret cx dX5_copy_146 ⟨_, rfl, ?_⟩
                simp only [op_copy, c_4, c_11, hca, hcb, hcy, hcz, hcm, ← s1a, ← s1b, ← s2a, ← s2b, not_true_eq_false, or_self, if_false, if_neg (not_or.mpr ⟨hg_b0 c_30, hg_b0 c_42⟩), if_neg (show ¬ ¬ σ.1 (12 + a) 1 = σ.1 (12 + b) 1 from fun z => z c_70), if_neg (not_or.mpr ⟨c_92, c_108⟩)]
                rw [show 12 + a + 4 = 16 + a by omega, show 12 + b + 4 = 16 + b by omega]
                refine ⟨rfl, hc.cells (by omega) _ rfl (fun j hj => by rw [hg_sM_ne _ _ hj]) (fun k hk => ?_)⟩
                rw [hg_sM_at]
                unfold va_cpy
                split
                · exact s3a _ (by omega)
                · exact s3b k hk
              ·
                refine hg_aload0 (pc' := 112) cx dX5_copy_111 rfl ?_
                refine hg_ldc (pc' := 114) cx kc_X5_44 dX5_copy_112 rfl ?_
                refine cv_X5_45 (pc' := 117) cx (K_X5_finding l E _ (-1000000001) 0 (by decide) (by decide)) ⟨rfl, rfl, Nat.le_of_ble_eq_true rfl, Nat.le_of_ble_eq_true rfl⟩ (Nat.le_of_ble_eq_true rfl) dX5_copy_114 rfl (fun r_114 τ_114 h_114 => ?_)
                obtain ⟨rfl, rfl⟩ := h_114
                refine hg_iret cx dX5_copy_117 ⟨_, rfl, ?_⟩
                simp only [op_copy, c_4, c_11, hca, hcb, ← s1a, ← s1b, ← s2a, ← s2b, not_true_eq_false, or_self, if_false, if_neg (not_or.mpr ⟨hg_b0 c_30, hg_b0 c_42⟩), if_neg (show ¬ ¬ σ.1 (12 + a) 1 = σ.1 (12 + b) 1 from fun z => z c_70)]
                first
                  | (rw [if_pos (Or.inl c_92)]; exact hc.find (by decide) (by decide))
                  | (rw [if_pos (Or.inr c_108)]; exact hc.find (by decide) (by decide))
          ·
            refine hg_aload0 (pc' := 74) cx dX5_copy_73 rfl ?_
            refine hg_ldc (pc' := 76) cx kc_X5_131 dX5_copy_74 rfl ?_
            refine cv_X5_45 (pc' := 79) cx (K_X5_finding l E _ (-1000000003) 2 (by decide) (by decide)) ⟨rfl, rfl, Nat.le_of_ble_eq_true rfl, Nat.le_of_ble_eq_true rfl⟩ (Nat.le_of_ble_eq_true rfl) dX5_copy_76 rfl (fun r_76 τ_76 h_76 => ?_)
            obtain ⟨rfl, rfl⟩ := h_76
            refine hg_iret cx dX5_copy_79 ⟨_, rfl, ?_⟩
            simp only [op_copy, c_4, c_11, hca, hcb, ← s1a, ← s1b, not_true_eq_false, or_self, if_false, if_neg (not_or.mpr ⟨hg_b0 c_30, hg_b0 c_42⟩), if_pos c_70]
            exact hc.find (by decide) (by decide)
        ·
          refine hg_aload0 (pc' := 46) cx dX5_copy_45 rfl ?_
          refine hg_ldc (pc' := 48) cx kc_X5_205 dX5_copy_46 rfl ?_
          refine cv_X5_45 (pc' := 51) cx (K_X5_finding l E _ (-1000000006) 5 (by decide) (by decide)) ⟨rfl, rfl, Nat.le_of_ble_eq_true rfl, Nat.le_of_ble_eq_true rfl⟩ (Nat.le_of_ble_eq_true rfl) dX5_copy_48 rfl (fun r_48 τ_48 h_48 => ?_)
          obtain ⟨rfl, rfl⟩ := h_48
          refine hg_iret cx dX5_copy_51 ⟨_, rfl, ?_⟩
          simp only [op_copy, c_4, c_11, hca, hcb, ← s1a, ← s1b, not_true_eq_false, or_self, if_false]
          first
            | (rw [if_pos (Or.inl (hg_b1 c_30))]; exact hc.find (by decide) (by decide))
            | (rw [if_pos (Or.inr (hg_b1 c_42))]; exact hc.find (by decide) (by decide))
    ·
      refine hg_aload0 (pc' := 15) cx dX5_copy_14 rfl ?_
      refine hg_ldc (pc' := 17) cx kc_X5_44 dX5_copy_15 rfl ?_
      refine cv_X5_45 (pc' := 20) cx (K_X5_finding l E _ (-1000000001) 0 (by decide) (by decide)) ⟨rfl, rfl, Nat.le_of_ble_eq_true rfl, Nat.le_of_ble_eq_true rfl⟩ (Nat.le_of_ble_eq_true rfl) dX5_copy_17 rfl (fun r_17 τ_17 h_17 => ?_)
      obtain ⟨rfl, rfl⟩ := h_17
      refine hg_iret cx dX5_copy_20 ⟨_, rfl, ?_⟩
      simp only [op_copy, c_4, c_11, not_true_eq_false, not_false_eq_true, true_or, or_true, false_or, or_false, or_self, if_true, if_false, and_self]
      exact hc.find (by decide) (by decide)
