theorem sp_stirs_hr {f : Nat → Int32} {h k : Nat} {v : Int32} (hk : k < 6) (h0 : k ≠ 0) : sp_stirs (sp_hr (va_up f (4 + 6 * h + k) v) h) = sp_stirs (sp_hr f h) := by
  rw [sp_hr_in _ hk, sp_stirs_up _ _ h0]
set_option maxHeartbeats 4000000 in
set_option maxRecDepth 100000 in
theorem K_X6_weight (l : Launch) (E : hg_Wd) (σ : hg_Mem) (n : Nat) (hn10 : n ≤ 10) (hn : σ.1 51 3 = nI n) (q : Int32) (w : Int32) : hg_C l E yX6_weight cX6_weight 5 (some .int) { frames := 2, cells := 0, slots := 0, locals := 47 } [.ref (hg_ad E 50), .int q, .int w] σ (hg_pi (fun r τ => r = sp_wt (sp_hrs (σ.1 51)) q (σ.1 51 2) (σ.1 51 0) w n ∧ σ = τ)) := by
  refine hg_intro (by decide) [some (.ref (hg_ad E 50)), some (.int q), some (.int w), none, none] rfl (Nat.le_of_ble_eq_true rfl) ?_
  intro p e s m args below meth c cx
  have cx : hg_Cx E p s m args meth c cX6_weight 5 RX6 (some .int) := cx
  refine hg_iconst (pc' := 1) cx 0 dX6_weight_0 (by decide) rfl ?_
  refine hg_istore3 (pc' := 2) cx rfl dX6_weight_1 rfl ?_
  refine hg_iconst (pc' := 3) cx (nI 0) dX6_weight_2 (by decide) rfl ?_
  refine hg_istore4 (pc' := 5) cx rfl dX6_weight_3 rfl ?_
  refine hg_loop (α := Int32 × Nat) (I := fun z => z.2 ≤ n ∧ z.1 = sp_wt (sp_hrs (σ.1 51)) q (σ.1 51 2) (σ.1 51 0) w z.2) (P := fun z => hg_G E p l e { frames := 2, cells := 0, slots := 0, locals := 47 } s m args below meth c 5 (MQ below (hg_Qc E (hg_pi (fun r τ => r = sp_wt (sp_hrs (σ.1 51)) q (σ.1 51 2) (σ.1 51 0) w n ∧ σ = τ))) args s 0 0 (hg_AW E)) σ 5 [some (.ref (hg_ad E 50)), some (.int q), some (.int w), some (.int z.1), some (.int (nI z.2))] []) (fun z => n - z.2) ?_ (0, 0) ?_
  rotate_left
  · try dsimp only
    exact ⟨Nat.zero_le _, rfl⟩
  rintro ⟨x, j⟩ hI ih_5
  try dsimp only at hI ih_5 ⊢
  have hjn := hI.1
  refine hg_iload4 (pc' := 7) cx dX6_weight_5 rfl ?_
  refine hg_aload0 (pc' := 8) cx dX6_weight_7 rfl ?_
  refine gf_X6_9 (pc' := 11) cx dX6_weight_8 rfl ?_
  refine hg_iconst (pc' := 12) cx (nI 3) dX6_weight_11 (by decide) rfl ?_
  refine hg_iald2 (pc' := 13) cx (by decide) (hg_ceI51 E) (by first | assumption | omega | decide) (by decide) dX6_weight_12 rfl ?_
  refine hg_icmp_ge (pc' := 16) cx 57 dX6_weight_13 (by decide) rfl (fun c_13 => ?_) (fun c_13 => ?_)
  ·
    have hj := hg_ge hn (by omega) (by omega) c_13
    refine hg_iload3 (pc' := 58) cx dX6_weight_57 rfl ?_
    refine hg_iret cx dX6_weight_58 ⟨_, rfl, ?_⟩
    obtain rfl : j = n := by omega
    exact ⟨hI.2, rfl⟩
  ·
    have hj := hg_nge hn (by omega) (by omega) c_13
    refine hg_iload3 (pc' := 17) cx dX6_weight_16 rfl ?_
    refine hg_aload0 (pc' := 18) cx dX6_weight_17 rfl ?_
    refine hg_iload4 (pc' := 20) cx dX6_weight_18 rfl ?_
    refine hg_iconst (pc' := 21) cx (nI 5) dX6_weight_20 (by decide) rfl ?_
    refine cv_X6_48 (pc' := 24) cx (K_X6_it l E _ _ (by first | assumption | omega | decide) _ (by first | assumption | omega | decide)) ⟨rfl, rfl, Nat.le_of_ble_eq_true rfl, Nat.le_of_ble_eq_true rfl⟩ (Nat.le_of_ble_eq_true rfl) dX6_weight_21 rfl (fun r_21 τ_21 h_21 => ?_)
    obtain ⟨rfl, rfl⟩ := h_21
    refine hg_iconst (pc' := 25) cx 1 dX6_weight_24 (by decide) rfl ?_
    refine hg_icmp_ne (pc' := 28) cx 48 dX6_weight_25 (by decide) rfl (fun c_25 => ?_) (fun c_25 => ?_)
    ·
      refine hg_iconst (pc' := 49) cx 0 dX6_weight_48 (by decide) rfl ?_
      refine hg_iadd (pc' := 50) cx dX6_weight_49 rfl ?_
      refine hg_istore3 (pc' := 51) cx rfl dX6_weight_50 rfl ?_
      refine hg_iinc4p (pc' := 54) cx rfl dX6_weight_51 rfl ?_
      refine hg_goto cx 5 dX6_weight_54 (by decide) ?_
      rw [nI_1]
      refine ih_5 (_, j + 1) ?_ ?_
      · try dsimp only
        refine ⟨hj, ?_⟩
        rw [sp_wt, hI.2]
        first
          | (rw [if_neg (fun z => c_25 z.1)]; done)
          | (rw [if_neg (fun z => c_36 z.2)]; done)
          | (rw [if_pos ⟨c_25, c_36⟩]; rfl)
      · show n - (j + 1) < n - j
        omega
    ·
      refine hg_aload0 (pc' := 29) cx dX6_weight_28 rfl ?_
      refine hg_iload4 (pc' := 31) cx dX6_weight_29 rfl ?_
      refine hg_iload1 (pc' := 32) cx dX6_weight_31 rfl ?_
      refine cv_X6_55 (pc' := 35) cx (K_X6_saysTo l E _ _ (by first | assumption | omega | decide) _) ⟨rfl, rfl, Nat.le_of_ble_eq_true rfl, Nat.le_of_ble_eq_true rfl⟩ (Nat.le_of_ble_eq_true rfl) dX6_weight_32 rfl (fun r_32 τ_32 h_32 => ?_)
      obtain ⟨rfl, rfl⟩ := h_32
      refine hg_iload2 (pc' := 36) cx dX6_weight_35 rfl ?_
      refine hg_icmp_ne (pc' := 39) cx 48 dX6_weight_36 (by decide) rfl (fun c_36 => ?_) (fun c_36 => ?_)
      ·
        refine hg_iconst (pc' := 49) cx 0 dX6_weight_48 (by decide) rfl ?_
        refine hg_iadd (pc' := 50) cx dX6_weight_49 rfl ?_
        refine hg_istore3 (pc' := 51) cx rfl dX6_weight_50 rfl ?_
        refine hg_iinc4p (pc' := 54) cx rfl dX6_weight_51 rfl ?_
        refine hg_goto cx 5 dX6_weight_54 (by decide) ?_
        rw [nI_1]
        refine ih_5 (_, j + 1) ?_ ?_
        · try dsimp only
          refine ⟨hj, ?_⟩
          rw [sp_wt, hI.2]
          first
            | (rw [if_neg (fun z => c_25 z.1)]; done)
            | (rw [if_neg (fun z => c_36 z.2)]; done)
            | (rw [if_pos ⟨c_25, c_36⟩]; rfl)
        · show n - (j + 1) < n - j
          omega
      ·
        refine hg_aload0 (pc' := 40) cx dX6_weight_39 rfl ?_
        refine hg_iload4 (pc' := 42) cx dX6_weight_40 rfl ?_
        refine cv_X6_58 (pc' := 45) cx (K_X6_weighs l E _ _ (by first | assumption | omega | decide)) ⟨rfl, rfl, Nat.le_of_ble_eq_true rfl, Nat.le_of_ble_eq_true rfl⟩ (Nat.le_of_ble_eq_true rfl) dX6_weight_42 rfl (fun r_42 τ_42 h_42 => ?_)
        obtain ⟨rfl, rfl⟩ := h_42
        refine hg_goto cx 49 dX6_weight_45 (by decide) ?_
        refine hg_iadd (pc' := 50) cx dX6_weight_49 rfl ?_
        refine hg_istore3 (pc' := 51) cx rfl dX6_weight_50 rfl ?_
        refine hg_iinc4p (pc' := 54) cx rfl dX6_weight_51 rfl ?_
        refine hg_goto cx 5 dX6_weight_54 (by decide) ?_
        rw [nI_1]
        refine ih_5 (_, j + 1) ?_ ?_
        · try dsimp only
          refine ⟨hj, ?_⟩
          rw [sp_wt, hI.2]
          first
            | (rw [if_neg (fun z => c_25 z.1)]; done)
            | (rw [if_neg (fun z => c_36 z.2)]; done)
            | (rw [if_pos ⟨c_25, c_36⟩]; rfl)
        · show n - (j + 1) < n - j
          omega
set_option maxHeartbeats 4000000 in
set_option maxRecDepth 100000 in
theorem K_X6_onTable (l : Launch) (E : hg_Wd) (σ : hg_Mem) (n : Nat) (hn10 : n ≤ 10) (hn : σ.1 51 3 = nI n) : hg_C l E yX6_onTable cX6_onTable 3 (some .int) { frames := 1, cells := 0, slots := 0, locals := 22 } [.ref (hg_ad E 50)] σ (hg_pi (fun r τ => r = sp_onset (sp_hrs (σ.1 51)) n ∧ σ = τ)) := by
  refine hg_intro (by decide) [some (.ref (hg_ad E 50)), none, none] rfl (Nat.le_of_ble_eq_true rfl) ?_
  intro p e s m args below meth c cx
  have cx : hg_Cx E p s m args meth c cX6_onTable 3 RX6 (some .int) := cx
  refine hg_iconst (pc' := 1) cx 0 dX6_onTable_0 (by decide) rfl ?_
  refine hg_istore1 (pc' := 2) cx rfl dX6_onTable_1 rfl ?_
  refine hg_iconst (pc' := 3) cx (nI 0) dX6_onTable_2 (by decide) rfl ?_
  refine hg_istore2 (pc' := 4) cx rfl dX6_onTable_3 rfl ?_
  refine hg_loop (α := Int32 × Nat) (I := fun z => z.2 ≤ n ∧ z.1 = sp_onset (sp_hrs (σ.1 51)) z.2) (P := fun z => hg_G E p l e { frames := 1, cells := 0, slots := 0, locals := 22 } s m args below meth c 3 (MQ below (hg_Qc E (hg_pi (fun r τ => r = sp_onset (sp_hrs (σ.1 51)) n ∧ σ = τ))) args s 0 0 (hg_AW E)) σ 4 [some (.ref (hg_ad E 50)), some (.int z.1), some (.int (nI z.2))] []) (fun z => n - z.2) ?_ (0, 0) ?_
  rotate_left
  · try dsimp only
    exact ⟨Nat.zero_le _, rfl⟩
  rintro ⟨x, j⟩ hI ih_4
  try dsimp only at hI ih_4 ⊢
  have hjn := hI.1
  refine hg_iload2 (pc' := 5) cx dX6_onTable_4 rfl ?_
  refine hg_aload0 (pc' := 6) cx dX6_onTable_5 rfl ?_
  refine gf_X6_9 (pc' := 9) cx dX6_onTable_6 rfl ?_
  refine hg_iconst (pc' := 10) cx (nI 3) dX6_onTable_9 (by decide) rfl ?_
  refine hg_iald2 (pc' := 11) cx (by decide) (hg_ceI51 E) (by first | assumption | omega | decide) (by decide) dX6_onTable_10 rfl ?_
  refine hg_icmp_ge (pc' := 14) cx 31 dX6_onTable_11 (by decide) rfl (fun c_11 => ?_) (fun c_11 => ?_)
  ·
    have hj := hg_ge hn (by omega) (by omega) c_11
    refine hg_iload1 (pc' := 32) cx dX6_onTable_31 rfl ?_
    refine hg_iret cx dX6_onTable_32 ⟨_, rfl, ?_⟩
    obtain rfl : j = n := by omega
    exact ⟨hI.2, rfl⟩
  ·
    have hj := hg_nge hn (by omega) (by omega) c_11
    refine hg_iload1 (pc' := 15) cx dX6_onTable_14 rfl ?_
    refine hg_aload0 (pc' := 16) cx dX6_onTable_15 rfl ?_
    refine hg_iload2 (pc' := 17) cx dX6_onTable_16 rfl ?_
    refine hg_iconst (pc' := 18) cx (nI 5) dX6_onTable_17 (by decide) rfl ?_
    refine cv_X6_48 (pc' := 21) cx (K_X6_it l E _ _ (by first | assumption | omega | decide) _ (by first | assumption | omega | decide)) ⟨rfl, rfl, Nat.le_of_ble_eq_true rfl, Nat.le_of_ble_eq_true rfl⟩ (Nat.le_of_ble_eq_true rfl) dX6_onTable_18 rfl (fun r_18 τ_18 h_18 => ?_)
    obtain ⟨rfl, rfl⟩ := h_18
    refine hg_iload2 (pc' := 22) cx dX6_onTable_21 rfl ?_
    refine hg_ishl (pc' := 23) cx dX6_onTable_22 rfl ?_
    refine hg_ior (pc' := 24) cx dX6_onTable_23 rfl ?_
    refine hg_istore1 (pc' := 25) cx rfl dX6_onTable_24 rfl ?_
    refine hg_iinc2p (pc' := 28) cx rfl dX6_onTable_25 rfl ?_
    refine hg_goto cx 4 dX6_onTable_28 (by decide) ?_
    rw [nI_1]
    refine ih_4 (_, j + 1) ?_ ?_
    · try dsimp only
      exact ⟨hj, by rw [hI.2]; rfl⟩
    · show n - (j + 1) < n - j
      omega
set_option maxHeartbeats 4000000 in
set_option maxRecDepth 100000 in
theorem K_X6_sums (l : Launch) (E : hg_Wd) (σ : hg_Mem) (n : Nat) (hn10 : n ≤ 10) (hn : σ.1 51 3 = nI n) (w : Nat) (hw : w < 6) : hg_C l E yX6_sums cX6_sums 4 (some .int) { frames := 1, cells := 0, slots := 0, locals := 22 } [.ref (hg_ad E 50), .int (nI w)] σ (hg_pi (fun r τ => r = sp_sumK (sp_hrs (σ.1 51)) w n ∧ σ = τ)) := by
  refine hg_intro (by decide) [some (.ref (hg_ad E 50)), some (.int (nI w)), none, none] rfl (Nat.le_of_ble_eq_true rfl) ?_
  intro p e s m args below meth c cx
  have cx : hg_Cx E p s m args meth c cX6_sums 4 RX6 (some .int) := cx
  refine hg_iconst (pc' := 1) cx 0 dX6_sums_0 (by decide) rfl ?_
  refine hg_istore2 (pc' := 2) cx rfl dX6_sums_1 rfl ?_
  refine hg_iconst (pc' := 3) cx (nI 0) dX6_sums_2 (by decide) rfl ?_
  refine hg_istore3 (pc' := 4) cx rfl dX6_sums_3 rfl ?_
  refine hg_loop (α := Int32 × Nat) (I := fun z => z.2 ≤ n ∧ z.1 = sp_sumK (sp_hrs (σ.1 51)) w z.2) (P := fun z => hg_G E p l e { frames := 1, cells := 0, slots := 0, locals := 22 } s m args below meth c 4 (MQ below (hg_Qc E (hg_pi (fun r τ => r = sp_sumK (sp_hrs (σ.1 51)) w n ∧ σ = τ))) args s 0 0 (hg_AW E)) σ 4 [some (.ref (hg_ad E 50)), some (.int (nI w)), some (.int z.1), some (.int (nI z.2))] []) (fun z => n - z.2) ?_ (0, 0) ?_
  rotate_left
  · try dsimp only
    exact ⟨Nat.zero_le _, rfl⟩
  rintro ⟨x, j⟩ hI ih_4
  try dsimp only at hI ih_4 ⊢
  have hjn := hI.1
  refine hg_iload3 (pc' := 5) cx dX6_sums_4 rfl ?_
  refine hg_aload0 (pc' := 6) cx dX6_sums_5 rfl ?_
  refine gf_X6_9 (pc' := 9) cx dX6_sums_6 rfl ?_
  refine hg_iconst (pc' := 10) cx (nI 3) dX6_sums_9 (by decide) rfl ?_
  refine hg_iald2 (pc' := 11) cx (by decide) (hg_ceI51 E) (by first | assumption | omega | decide) (by decide) dX6_sums_10 rfl ?_
  refine hg_icmp_ge (pc' := 14) cx 29 dX6_sums_11 (by decide) rfl (fun c_11 => ?_) (fun c_11 => ?_)
  ·
    have hj := hg_ge hn (by omega) (by omega) c_11
    refine hg_iload2 (pc' := 30) cx dX6_sums_29 rfl ?_
    refine hg_iret cx dX6_sums_30 ⟨_, rfl, ?_⟩
    obtain rfl : j = n := by omega
    exact ⟨hI.2, rfl⟩
  ·
    have hj := hg_nge hn (by omega) (by omega) c_11
    refine hg_iload2 (pc' := 15) cx dX6_sums_14 rfl ?_
    refine hg_aload0 (pc' := 16) cx dX6_sums_15 rfl ?_
    refine hg_iload3 (pc' := 17) cx dX6_sums_16 rfl ?_
    refine hg_iload1 (pc' := 18) cx dX6_sums_17 rfl ?_
    refine cv_X6_48 (pc' := 21) cx (K_X6_it l E _ _ (by first | assumption | omega | decide) _ (by first | assumption | omega | decide)) ⟨rfl, rfl, Nat.le_of_ble_eq_true rfl, Nat.le_of_ble_eq_true rfl⟩ (Nat.le_of_ble_eq_true rfl) dX6_sums_18 rfl (fun r_18 τ_18 h_18 => ?_)
    obtain ⟨rfl, rfl⟩ := h_18
    refine hg_iadd (pc' := 22) cx dX6_sums_21 rfl ?_
    refine hg_istore2 (pc' := 23) cx rfl dX6_sums_22 rfl ?_
    refine hg_iinc3p (pc' := 26) cx rfl dX6_sums_23 rfl ?_
    refine hg_goto cx 4 dX6_sums_26 (by decide) ?_
    rw [nI_1]
    refine ih_4 (_, j + 1) ?_ ?_
    · try dsimp only
      exact ⟨hj, by rw [hI.2]; rfl⟩
    · show n - (j + 1) < n - j
      omega
set_option maxHeartbeats 4000000 in
set_option maxRecDepth 100000 in
theorem K_X6_bits (l : Launch) (E : hg_Wd) (σ : hg_Mem) (k : Nat) (hk : k < 256) : hg_C l E yX6_bits cX6_bits 3 (some .int) { frames := 0, cells := 0, slots := 0, locals := 0 } [.int (nI k)] σ (hg_pi (fun r τ => r = sp_bc (nI k) ∧ σ = τ)) := by
  refine hg_intro (by decide) [some (.int (nI k)), none, none] rfl (Nat.le_of_ble_eq_true rfl) ?_
  intro p e s m args below meth c cx
  have cx : hg_Cx E p s m args meth c cX6_bits 3 RX6 (some .int) := cx
  refine hg_iconst (pc' := 1) cx 0 dX6_bits_0 (by decide) rfl ?_
  refine hg_istore1 (pc' := 2) cx rfl dX6_bits_1 rfl ?_
  refine hg_iload0 (pc' := 3) cx dX6_bits_2 rfl ?_
  refine hg_istore2 (pc' := 4) cx rfl dX6_bits_3 rfl ?_
  refine hg_loop (α := Int32 × Nat) (I := fun z => z.2 < 256 ∧ z.1 + sp_bc (nI z.2) = sp_bc (nI k)) (P := fun z => hg_G E p l e { frames := 0, cells := 0, slots := 0, locals := 0 } s m args below meth c 3 (MQ below (hg_Qc E (hg_pi (fun r τ => r = sp_bc (nI k) ∧ σ = τ))) args s 0 0 (hg_AW E)) σ 4 [some (.int (nI k)), some (.int z.1), some (.int (nI z.2))] []) (fun z => z.2) ?_ (0, k) ?_
  rotate_left
  · try dsimp only
    exact ⟨hk, Int32.zero_add _⟩
  rintro ⟨x, r⟩ hI ih_4
  try dsimp only at hI ih_4 ⊢
  refine hg_iload2 (pc' := 5) cx dX6_bits_4 rfl ?_
  refine hg_if_eq (pc' := 8) cx 20 dX6_bits_5 (by decide) rfl (fun c_5 => ?_) (fun c_5 => ?_)
  ·
    refine hg_iload1 (pc' := 21) cx dX6_bits_20 rfl ?_
    refine hg_iret cx dX6_bits_21 ⟨_, rfl, ?_⟩
    refine ⟨?_, rfl⟩
    rw [← hI.2, c_5, sp_bc0]
    exact (Int32.add_zero _).symm
  ·
    refine hg_iinc1p (pc' := 11) cx rfl dX6_bits_8 rfl ?_
    refine hg_iload2 (pc' := 12) cx dX6_bits_11 rfl ?_
    refine hg_iload2 (pc' := 13) cx dX6_bits_12 rfl ?_
    refine hg_iconst (pc' := 14) cx 1 dX6_bits_13 (by decide) rfl ?_
    refine hg_isub (pc' := 15) cx dX6_bits_14 rfl ?_
    refine hg_iand (pc' := 16) cx dX6_bits_15 rfl ?_
    refine hg_istore2 (pc' := 17) cx rfl dX6_bits_16 rfl ?_
    refine hg_goto cx 4 dX6_bits_17 (by decide) ?_
    have hr0 : r ≠ 0 := fun z => c_5 (by rw [z]; rfl)
    obtain ⟨p1, p2, p3⟩ := sp_pop r hI.1 hr0
    rw [← p2] at p3 ⊢
    refine ih_4 (x + 1, (nI r &&& (nI r - 1)).toNatClampNeg) ?_ ?_
    · try dsimp only
      refine ⟨Nat.lt_trans p1 hI.1, ?_⟩
      rw [← hI.2, p3, Int32.add_assoc]
    · exact p1
set_option maxHeartbeats 4000000 in
set_option maxRecDepth 100000 in
theorem K_X6_comesAs (l : Launch) (E : hg_Wd) (σ : hg_Mem) (n : Nat) (hn10 : n < 10) (hn : σ.1 51 3 = nI n) (kind : Int32) (view : Int32) (faith : Int32) (on : Int32) : hg_C l E yX6_comesAs cX6_comesAs 6 (some .int) { frames := 1, cells := 0, slots := 0, locals := 23 } [.ref (hg_ad E 50), .int kind, .int view, .int faith, .int on] σ (hg_pi (fun r τ => hg_sH σ 51 (sp_come (σ.1 51) n kind view faith on) = τ ∧ r = nI n)) := by
  refine hg_intro (by decide) [some (.ref (hg_ad E 50)), some (.int kind), some (.int view), some (.int faith), some (.int on), none] rfl (Nat.le_of_ble_eq_true rfl) ?_
  intro p e s m args below meth c cx
  have cx : hg_Cx E p s m args meth c cX6_comesAs 6 RX6 (some .int) := cx
  refine hg_aload0 (pc' := 1) cx dX6_comesAs_0 rfl ?_
  refine gf_X6_9 (pc' := 4) cx dX6_comesAs_1 rfl ?_
  refine hg_iconst (pc' := 5) cx (nI 3) dX6_comesAs_4 (by decide) rfl ?_
  refine hg_iald2 (pc' := 6) cx (by decide) (hg_ceI51 E) (by first | assumption | omega | decide) (by decide) dX6_comesAs_5 rfl ?_
  rw [hn]
  refine hg_istore5 (pc' := 8) cx rfl dX6_comesAs_6 rfl ?_
  refine hg_aload0 (pc' := 9) cx dX6_comesAs_8 rfl ?_
  refine gf_X6_9 (pc' := 12) cx dX6_comesAs_9 rfl ?_
  refine hg_iconst (pc' := 13) cx (nI 3) dX6_comesAs_12 (by decide) rfl ?_
  refine hg_dup2 (pc' := 14) cx rfl rfl dX6_comesAs_13 rfl ?_
  refine hg_iald2 (pc' := 15) cx (by decide) (hg_ceI51 E) (by first | assumption | omega | decide) (by decide) dX6_comesAs_14 rfl ?_
  refine hg_iconst (pc' := 16) cx 1 dX6_comesAs_15 (by decide) rfl ?_
  refine hg_iadd (pc' := 17) cx dX6_comesAs_16 rfl ?_
  rw [hn, nI_1]
  refine hg_iast2 (pc' := 18) cx (by decide) (hg_ceI51 E) (by first | assumption | omega | decide) (by decide) dX6_comesAs_17 rfl ?_
  refine hg_aload0 (pc' := 19) cx dX6_comesAs_18 rfl ?_
  refine hg_iload5 (pc' := 21) cx dX6_comesAs_19 rfl ?_
  refine hg_iconst (pc' := 22) cx (nI 0) dX6_comesAs_21 (by decide) rfl ?_
  refine hg_iload1 (pc' := 23) cx dX6_comesAs_22 rfl ?_
  refine cv_X6_74 (pc' := 26) cx (K_X6_put l E _ n (by omega) 0 (by decide) _) ⟨rfl, rfl, Nat.le_of_ble_eq_true rfl, Nat.le_of_ble_eq_true rfl⟩ (Nat.le_of_ble_eq_true rfl) dX6_comesAs_23 rfl (fun τ_23 h_23 => ?_)
  obtain rfl := h_23
  refine hg_aload0 (pc' := 27) cx dX6_comesAs_26 rfl ?_
  refine hg_iload5 (pc' := 29) cx dX6_comesAs_27 rfl ?_
  refine hg_iconst (pc' := 30) cx (nI 1) dX6_comesAs_29 (by decide) rfl ?_
  refine hg_iload2 (pc' := 31) cx dX6_comesAs_30 rfl ?_
  refine cv_X6_74 (pc' := 34) cx (K_X6_put l E _ n (by omega) 1 (by decide) _) ⟨rfl, rfl, Nat.le_of_ble_eq_true rfl, Nat.le_of_ble_eq_true rfl⟩ (Nat.le_of_ble_eq_true rfl) dX6_comesAs_31 rfl (fun τ_31 h_31 => ?_)
  obtain rfl := h_31
  refine hg_aload0 (pc' := 35) cx dX6_comesAs_34 rfl ?_
  refine hg_iload5 (pc' := 37) cx dX6_comesAs_35 rfl ?_
  refine hg_iconst (pc' := 38) cx (nI 2) dX6_comesAs_37 (by decide) rfl ?_
  refine hg_iconst (pc' := 39) cx 0 dX6_comesAs_38 (by decide) rfl ?_
  refine cv_X6_74 (pc' := 42) cx (K_X6_put l E _ n (by omega) 2 (by decide) _) ⟨rfl, rfl, Nat.le_of_ble_eq_true rfl, Nat.le_of_ble_eq_true rfl⟩ (Nat.le_of_ble_eq_true rfl) dX6_comesAs_39 rfl (fun τ_39 h_39 => ?_)
  obtain rfl := h_39
  refine hg_aload0 (pc' := 43) cx dX6_comesAs_42 rfl ?_
  refine hg_iload5 (pc' := 45) cx dX6_comesAs_43 rfl ?_
  refine hg_iconst (pc' := 46) cx (nI 3) dX6_comesAs_45 (by decide) rfl ?_
  refine hg_iconst (pc' := 47) cx 0 dX6_comesAs_46 (by decide) rfl ?_
  refine cv_X6_74 (pc' := 50) cx (K_X6_put l E _ n (by omega) 3 (by decide) _) ⟨rfl, rfl, Nat.le_of_ble_eq_true rfl, Nat.le_of_ble_eq_true rfl⟩ (Nat.le_of_ble_eq_true rfl) dX6_comesAs_47 rfl (fun τ_47 h_47 => ?_)
  obtain rfl := h_47
  refine hg_aload0 (pc' := 51) cx dX6_comesAs_50 rfl ?_
  refine hg_iload5 (pc' := 53) cx dX6_comesAs_51 rfl ?_
  refine hg_iconst (pc' := 54) cx (nI 4) dX6_comesAs_53 (by decide) rfl ?_
  refine hg_iload3 (pc' := 55) cx dX6_comesAs_54 rfl ?_
  refine cv_X6_74 (pc' := 58) cx (K_X6_put l E _ n (by omega) 4 (by decide) _) ⟨rfl, rfl, Nat.le_of_ble_eq_true rfl, Nat.le_of_ble_eq_true rfl⟩ (Nat.le_of_ble_eq_true rfl) dX6_comesAs_55 rfl (fun τ_55 h_55 => ?_)
  obtain rfl := h_55
  refine hg_aload0 (pc' := 59) cx dX6_comesAs_58 rfl ?_
  refine hg_iload5 (pc' := 61) cx dX6_comesAs_59 rfl ?_
  refine hg_iconst (pc' := 62) cx (nI 5) dX6_comesAs_61 (by decide) rfl ?_
  refine hg_iload4 (pc' := 64) cx dX6_comesAs_62 rfl ?_
  refine cv_X6_74 (pc' := 67) cx (K_X6_put l E _ n (by omega) 5 (by decide) _) ⟨rfl, rfl, Nat.le_of_ble_eq_true rfl, Nat.le_of_ble_eq_true rfl⟩ (Nat.le_of_ble_eq_true rfl) dX6_comesAs_64 rfl (fun τ_64 h_64 => ?_)
  obtain rfl := h_64
  refine hg_iload5 (pc' := 69) cx dX6_comesAs_67 rfl ?_
  refine hg_iret cx dX6_comesAs_69 ⟨_, rfl, ?_⟩
  refine ⟨?_, rfl⟩
  simp only [hg_sI_eq, hg_sH_at, hg_sH_sH]
  rfl
set_option maxHeartbeats 4000000 in
set_option maxRecDepth 100000 in
theorem K_X6_isJudged (l : Launch) (E : hg_Wd) (σ : hg_Mem) (h : Nat) (hh : h < 10) (hv : vs_H (sp_hr (σ.1 51) h)) (x : Nat) (hx : x < 256) (y : Nat) (hy : y < 8) : hg_C l E yX6_isJudged cX6_isJudged 4 none { frames := 2, cells := 0, slots := 0, locals := 43 } [.ref (hg_ad E 50), .int (nI h), .int (nI y), .int (sp_bit (nI x) (nI y))] σ (hg_pv (fun τ => (τ.2 = σ.2 ∧ ∀ i, i ≠ 51 → τ.1 i = σ.1 i) ∧ (∀ j, (j < 4 + 6 * h ∨ 4 + 6 * h + 6 ≤ j) → τ.1 51 j = σ.1 51 j) ∧ sp_hr (τ.1 51) h = sp_jud (sp_hr (σ.1 51) h) (σ.1 55 h) (σ.1 51 0) (nI y) (sp_bit (nI x) (nI y)) (nI x))) := by
  refine hg_intro (by decide) [some (.ref (hg_ad E 50)), some (.int (nI h)), some (.int (nI y)), some (.int (sp_bit (nI x) (nI y)))] rfl (Nat.le_of_ble_eq_true rfl) ?_
  intro p e s m args below meth c cx
  have cx : hg_Cx E p s m args meth c cX6_isJudged 4 RX6 none := cx
  refine hg_aload0 (pc' := 1) cx dX6_isJudged_0 rfl ?_
  refine gf_X6_22 (pc' := 4) cx dX6_isJudged_1 rfl ?_
  refine hg_iload1 (pc' := 5) cx dX6_isJudged_4 rfl ?_
  refine hg_iald2 (pc' := 6) cx (by decide) (hg_ceI55 E) (by first | assumption | omega | decide) (by decide) dX6_isJudged_5 rfl ?_
  refine hg_iload3 (pc' := 7) cx dX6_isJudged_6 rfl ?_
  refine hg_icmp_ne (pc' := 10) cx 58 dX6_isJudged_7 (by decide) rfl (fun c_7 => ?_) (fun c_7 => ?_)
  ·
    refine hg_aload0 (pc' := 59) cx dX6_isJudged_58 rfl ?_
    refine hg_iload1 (pc' := 60) cx dX6_isJudged_59 rfl ?_
    refine hg_iconst (pc' := 61) cx (nI 1) dX6_isJudged_60 (by decide) rfl ?_
    refine hg_aload0 (pc' := 62) cx dX6_isJudged_61 rfl ?_
    refine hg_iload1 (pc' := 63) cx dX6_isJudged_62 rfl ?_
    refine cv_X6_87 (pc' := 66) cx (K_X6_doesLearn l E _ _ (by first | assumption | omega | decide)) ⟨rfl, rfl, Nat.le_of_ble_eq_true rfl, Nat.le_of_ble_eq_true rfl⟩ (Nat.le_of_ble_eq_true rfl) dX6_isJudged_63 rfl (fun r_63 τ_63 h_63 => ?_)
    obtain ⟨rfl, rfl⟩ := h_63
    refine hg_if_eq (pc' := 69) cx 83 dX6_isJudged_66 (by decide) rfl (fun c_66 => ?_) (fun c_66 => ?_)
    ·
      refine hg_aload0 (pc' := 84) cx dX6_isJudged_83 rfl ?_
      refine hg_iload1 (pc' := 85) cx dX6_isJudged_84 rfl ?_
      refine hg_iconst (pc' := 86) cx (nI 1) dX6_isJudged_85 (by decide) rfl ?_
      refine cv_X6_48 (pc' := 89) cx (K_X6_it l E _ _ (by first | assumption | omega | decide) _ (by first | assumption | omega | decide)) ⟨rfl, rfl, Nat.le_of_ble_eq_true rfl, Nat.le_of_ble_eq_true rfl⟩ (Nat.le_of_ble_eq_true rfl) dX6_isJudged_86 rfl (fun r_86 τ_86 h_86 => ?_)
      obtain ⟨rfl, rfl⟩ := h_86
      refine cv_X6_74 (pc' := 92) cx (K_X6_put l E _ _ (by first | assumption | omega | decide) _ (by first | assumption | omega | decide) _) ⟨rfl, rfl, Nat.le_of_ble_eq_true rfl, Nat.le_of_ble_eq_true rfl⟩ (Nat.le_of_ble_eq_true rfl) dX6_isJudged_89 rfl (fun τ_89 h_89 => ?_)
      obtain rfl := h_89
      refine hg_aload0 (pc' := 93) cx dX6_isJudged_92 rfl ?_
      refine hg_iload1 (pc' := 94) cx dX6_isJudged_93 rfl ?_
      refine hg_iconst (pc' := 95) cx (nI 3) dX6_isJudged_94 (by decide) rfl ?_
      refine hg_aload0 (pc' := 96) cx dX6_isJudged_95 rfl ?_
      refine hg_iload1 (pc' := 97) cx dX6_isJudged_96 rfl ?_
      refine hg_iconst (pc' := 98) cx (nI 3) dX6_isJudged_97 (by decide) rfl ?_
      refine cv_X6_48 (pc' := 101) cx (K_X6_it l E _ _ (by first | assumption | omega | decide) _ (by first | assumption | omega | decide)) ⟨rfl, rfl, Nat.le_of_ble_eq_true rfl, Nat.le_of_ble_eq_true rfl⟩ (Nat.le_of_ble_eq_true rfl) dX6_isJudged_98 rfl (fun r_98 τ_98 h_98 => ?_)
      obtain ⟨rfl, rfl⟩ := h_98
      refine hg_iconst (pc' := 102) cx 1 dX6_isJudged_101 (by decide) rfl ?_
      refine hg_iadd (pc' := 103) cx dX6_isJudged_102 rfl ?_
      refine hg_iconst (pc' := 104) cx 0 dX6_isJudged_103 (by decide) rfl ?_
      refine hg_sipush (pc' := 107) cx 9999 dX6_isJudged_104 (by decide) rfl ?_
      refine cs_X6_97 (pc' := 110) cx (K_X6_held l E _ _ _ _) ⟨rfl, rfl, Nat.le_of_ble_eq_true rfl, Nat.le_of_ble_eq_true rfl⟩ (Nat.le_of_ble_eq_true rfl) dX6_isJudged_107 rfl (fun r_107 τ_107 h_107 => ?_)
      obtain ⟨rfl, rfl⟩ := h_107
      refine cv_X6_74 (pc' := 113) cx (K_X6_put l E _ _ (by first | assumption | omega | decide) _ (by first | assumption | omega | decide) _) ⟨rfl, rfl, Nat.le_of_ble_eq_true rfl, Nat.le_of_ble_eq_true rfl⟩ (Nat.le_of_ble_eq_true rfl) dX6_isJudged_110 rfl (fun τ_110 h_110 => ?_)
      obtain rfl := h_110
      refine hg_aload0 (pc' := 114) cx dX6_isJudged_113 rfl ?_
      refine hg_iload1 (pc' := 115) cx dX6_isJudged_114 rfl ?_
      refine hg_iconst (pc' := 116) cx (nI 4) dX6_isJudged_115 (by decide) rfl ?_
      refine hg_aload0 (pc' := 117) cx dX6_isJudged_116 rfl ?_
      refine hg_iload1 (pc' := 118) cx dX6_isJudged_117 rfl ?_
      refine hg_iconst (pc' := 119) cx (nI 4) dX6_isJudged_118 (by decide) rfl ?_
      refine cv_X6_48 (pc' := 122) cx (K_X6_it l E _ _ (by first | assumption | omega | decide) _ (by first | assumption | omega | decide)) ⟨rfl, rfl, Nat.le_of_ble_eq_true rfl, Nat.le_of_ble_eq_true rfl⟩ (Nat.le_of_ble_eq_true rfl) dX6_isJudged_119 rfl (fun r_119 τ_119 h_119 => ?_)
      obtain ⟨rfl, rfl⟩ := h_119
      refine hg_aload0 (pc' := 123) cx dX6_isJudged_122 rfl ?_
      refine hg_iload1 (pc' := 124) cx dX6_isJudged_123 rfl ?_
      refine cv_X6_90 (pc' := 127) cx (K_X6_stirs l E _ _ (by first | assumption | omega | decide)) ⟨rfl, rfl, Nat.le_of_ble_eq_true rfl, Nat.le_of_ble_eq_true rfl⟩ (Nat.le_of_ble_eq_true rfl) dX6_isJudged_124 rfl (fun r_124 τ_124 h_124 => ?_)
      obtain ⟨rfl, rfl⟩ := h_124
      refine hg_isub (pc' := 128) cx dX6_isJudged_127 rfl ?_
      refine hg_iconst (pc' := 129) cx 0 dX6_isJudged_128 (by decide) rfl ?_
      refine hg_bipush (pc' := 131) cx 99 dX6_isJudged_129 (by decide) rfl ?_
      refine cs_X6_97 (pc' := 134) cx (K_X6_held l E _ _ _ _) ⟨rfl, rfl, Nat.le_of_ble_eq_true rfl, Nat.le_of_ble_eq_true rfl⟩ (Nat.le_of_ble_eq_true rfl) dX6_isJudged_131 rfl (fun r_131 τ_131 h_131 => ?_)
      obtain ⟨rfl, rfl⟩ := h_131
      refine cv_X6_74 (pc' := 137) cx (K_X6_put l E _ _ (by first | assumption | omega | decide) _ (by first | assumption | omega | decide) _) ⟨rfl, rfl, Nat.le_of_ble_eq_true rfl, Nat.le_of_ble_eq_true rfl⟩ (Nat.le_of_ble_eq_true rfl) dX6_isJudged_134 rfl (fun τ_134 h_134 => ?_)
      obtain rfl := h_134
      refine hg_vret cx dX6_isJudged_137 ⟨rfl, ?_⟩
      simp only [hg_sI_eq, hg_sH_at, hg_sH_sH]
      refine ⟨⟨rfl, fun i hi => hg_sH_ne _ _ hi⟩, fun j hj => ?_, ?_⟩
      · try rw [hg_sH_at]
        first
          | (rw [va_upN _ _ (by omega), va_upN _ _ (by omega), va_upN _ _ (by omega)]; done)
          | (rw [va_upN _ _ (by omega), va_upN _ _ (by omega)]; done)
      · try rw [hg_sH_at]
        unfold sp_jud
        first
          | (rw [if_pos c_7, va_upN _ _ (show 4 + 6 * h + 4 ≠ 4 + 6 * h + 2 by omega)]; exact sp_jud_right hv)
          | (rw [if_neg c_7, va_upN _ _ (show 4 + 6 * h + 4 ≠ 4 + 6 * h + 3 by omega), va_upN _ _ (show 4 + 6 * h + 4 ≠ 4 + 6 * h + 1 by omega), va_upN _ _ (show 4 + 6 * h + 3 ≠ 4 + 6 * h + 1 by omega), sp_stirs_hr (k := 3) (by decide) (by decide), sp_stirs_hr (k := 1) (by decide) (by decide)]
             refine sp_jud_wrong hv hx hy _ _ ?_
             first | rw [if_pos c_66] | rw [if_neg c_66])
    ·
      refine hg_aload0 (pc' := 70) cx dX6_isJudged_69 rfl ?_
      refine hg_iload1 (pc' := 71) cx dX6_isJudged_70 rfl ?_
      refine hg_iconst (pc' := 72) cx (nI 1) dX6_isJudged_71 (by decide) rfl ?_
      refine cv_X6_48 (pc' := 75) cx (K_X6_it l E _ _ (by first | assumption | omega | decide) _ (by first | assumption | omega | decide)) ⟨rfl, rfl, Nat.le_of_ble_eq_true rfl, Nat.le_of_ble_eq_true rfl⟩ (Nat.le_of_ble_eq_true rfl) dX6_isJudged_72 rfl (fun r_72 τ_72 h_72 => ?_)
      obtain ⟨rfl, rfl⟩ := h_72
      refine hg_iload2 (pc' := 76) cx dX6_isJudged_75 rfl ?_
      refine hg_iload3 (pc' := 77) cx dX6_isJudged_76 rfl ?_
      refine cs_X6_101 (pc' := 80) cx (K_X6_withBit l E _ _ _ _) ⟨rfl, rfl, Nat.le_of_ble_eq_true rfl, Nat.le_of_ble_eq_true rfl⟩ (Nat.le_of_ble_eq_true rfl) dX6_isJudged_77 rfl (fun r_77 τ_77 h_77 => ?_)
      obtain ⟨rfl, rfl⟩ := h_77
      refine hg_goto cx 89 dX6_isJudged_80 (by decide) ?_
      refine cv_X6_74 (pc' := 92) cx (K_X6_put l E _ _ (by first | assumption | omega | decide) _ (by first | assumption | omega | decide) _) ⟨rfl, rfl, Nat.le_of_ble_eq_true rfl, Nat.le_of_ble_eq_true rfl⟩ (Nat.le_of_ble_eq_true rfl) dX6_isJudged_89 rfl (fun τ_89 h_89 => ?_)
      obtain rfl := h_89
      refine hg_aload0 (pc' := 93) cx dX6_isJudged_92 rfl ?_
      refine hg_iload1 (pc' := 94) cx dX6_isJudged_93 rfl ?_
      refine hg_iconst (pc' := 95) cx (nI 3) dX6_isJudged_94 (by decide) rfl ?_
      refine hg_aload0 (pc' := 96) cx dX6_isJudged_95 rfl ?_
      refine hg_iload1 (pc' := 97) cx dX6_isJudged_96 rfl ?_
      refine hg_iconst (pc' := 98) cx (nI 3) dX6_isJudged_97 (by decide) rfl ?_
      refine cv_X6_48 (pc' := 101) cx (K_X6_it l E _ _ (by first | assumption | omega | decide) _ (by first | assumption | omega | decide)) ⟨rfl, rfl, Nat.le_of_ble_eq_true rfl, Nat.le_of_ble_eq_true rfl⟩ (Nat.le_of_ble_eq_true rfl) dX6_isJudged_98 rfl (fun r_98 τ_98 h_98 => ?_)
      obtain ⟨rfl, rfl⟩ := h_98
      refine hg_iconst (pc' := 102) cx 1 dX6_isJudged_101 (by decide) rfl ?_
      refine hg_iadd (pc' := 103) cx dX6_isJudged_102 rfl ?_
      refine hg_iconst (pc' := 104) cx 0 dX6_isJudged_103 (by decide) rfl ?_
      refine hg_sipush (pc' := 107) cx 9999 dX6_isJudged_104 (by decide) rfl ?_
      refine cs_X6_97 (pc' := 110) cx (K_X6_held l E _ _ _ _) ⟨rfl, rfl, Nat.le_of_ble_eq_true rfl, Nat.le_of_ble_eq_true rfl⟩ (Nat.le_of_ble_eq_true rfl) dX6_isJudged_107 rfl (fun r_107 τ_107 h_107 => ?_)
      obtain ⟨rfl, rfl⟩ := h_107
      refine cv_X6_74 (pc' := 113) cx (K_X6_put l E _ _ (by first | assumption | omega | decide) _ (by first | assumption | omega | decide) _) ⟨rfl, rfl, Nat.le_of_ble_eq_true rfl, Nat.le_of_ble_eq_true rfl⟩ (Nat.le_of_ble_eq_true rfl) dX6_isJudged_110 rfl (fun τ_110 h_110 => ?_)
      obtain rfl := h_110
      refine hg_aload0 (pc' := 114) cx dX6_isJudged_113 rfl ?_
      refine hg_iload1 (pc' := 115) cx dX6_isJudged_114 rfl ?_
      refine hg_iconst (pc' := 116) cx (nI 4) dX6_isJudged_115 (by decide) rfl ?_
      refine hg_aload0 (pc' := 117) cx dX6_isJudged_116 rfl ?_
      refine hg_iload1 (pc' := 118) cx dX6_isJudged_117 rfl ?_
      refine hg_iconst (pc' := 119) cx (nI 4) dX6_isJudged_118 (by decide) rfl ?_
      refine cv_X6_48 (pc' := 122) cx (K_X6_it l E _ _ (by first | assumption | omega | decide) _ (by first | assumption | omega | decide)) ⟨rfl, rfl, Nat.le_of_ble_eq_true rfl, Nat.le_of_ble_eq_true rfl⟩ (Nat.le_of_ble_eq_true rfl) dX6_isJudged_119 rfl (fun r_119 τ_119 h_119 => ?_)
      obtain ⟨rfl, rfl⟩ := h_119
      refine hg_aload0 (pc' := 123) cx dX6_isJudged_122 rfl ?_
      refine hg_iload1 (pc' := 124) cx dX6_isJudged_123 rfl ?_
      refine cv_X6_90 (pc' := 127) cx (K_X6_stirs l E _ _ (by first | assumption | omega | decide)) ⟨rfl, rfl, Nat.le_of_ble_eq_true rfl, Nat.le_of_ble_eq_true rfl⟩ (Nat.le_of_ble_eq_true rfl) dX6_isJudged_124 rfl (fun r_124 τ_124 h_124 => ?_)
      obtain ⟨rfl, rfl⟩ := h_124
      refine hg_isub (pc' := 128) cx dX6_isJudged_127 rfl ?_
      refine hg_iconst (pc' := 129) cx 0 dX6_isJudged_128 (by decide) rfl ?_
      refine hg_bipush (pc' := 131) cx 99 dX6_isJudged_129 (by decide) rfl ?_
      refine cs_X6_97 (pc' := 134) cx (K_X6_held l E _ _ _ _) ⟨rfl, rfl, Nat.le_of_ble_eq_true rfl, Nat.le_of_ble_eq_true rfl⟩ (Nat.le_of_ble_eq_true rfl) dX6_isJudged_131 rfl (fun r_131 τ_131 h_131 => ?_)
      obtain ⟨rfl, rfl⟩ := h_131
      refine cv_X6_74 (pc' := 137) cx (K_X6_put l E _ _ (by first | assumption | omega | decide) _ (by first | assumption | omega | decide) _) ⟨rfl, rfl, Nat.le_of_ble_eq_true rfl, Nat.le_of_ble_eq_true rfl⟩ (Nat.le_of_ble_eq_true rfl) dX6_isJudged_134 rfl (fun τ_134 h_134 => ?_)
      obtain rfl := h_134
      refine hg_vret cx dX6_isJudged_137 ⟨rfl, ?_⟩
      simp only [hg_sI_eq, hg_sH_at, hg_sH_sH]
      refine ⟨⟨rfl, fun i hi => hg_sH_ne _ _ hi⟩, fun j hj => ?_, ?_⟩
      · try rw [hg_sH_at]
        first
          | (rw [va_upN _ _ (by omega), va_upN _ _ (by omega), va_upN _ _ (by omega)]; done)
          | (rw [va_upN _ _ (by omega), va_upN _ _ (by omega)]; done)
      · try rw [hg_sH_at]
        unfold sp_jud
        first
          | (rw [if_pos c_7, va_upN _ _ (show 4 + 6 * h + 4 ≠ 4 + 6 * h + 2 by omega)]; exact sp_jud_right hv)
          | (rw [if_neg c_7, va_upN _ _ (show 4 + 6 * h + 4 ≠ 4 + 6 * h + 3 by omega), va_upN _ _ (show 4 + 6 * h + 4 ≠ 4 + 6 * h + 1 by omega), va_upN _ _ (show 4 + 6 * h + 3 ≠ 4 + 6 * h + 1 by omega), sp_stirs_hr (k := 3) (by decide) (by decide), sp_stirs_hr (k := 1) (by decide) (by decide)]
             refine sp_jud_wrong hv hx hy _ _ ?_
             first | rw [if_pos c_66] | rw [if_neg c_66])
  ·
    refine hg_aload0 (pc' := 11) cx dX6_isJudged_10 rfl ?_
    refine hg_iload1 (pc' := 12) cx dX6_isJudged_11 rfl ?_
    refine hg_iconst (pc' := 13) cx (nI 2) dX6_isJudged_12 (by decide) rfl ?_
    refine hg_aload0 (pc' := 14) cx dX6_isJudged_13 rfl ?_
    refine hg_iload1 (pc' := 15) cx dX6_isJudged_14 rfl ?_
    refine hg_iconst (pc' := 16) cx (nI 2) dX6_isJudged_15 (by decide) rfl ?_
    refine cv_X6_48 (pc' := 19) cx (K_X6_it l E _ _ (by first | assumption | omega | decide) _ (by first | assumption | omega | decide)) ⟨rfl, rfl, Nat.le_of_ble_eq_true rfl, Nat.le_of_ble_eq_true rfl⟩ (Nat.le_of_ble_eq_true rfl) dX6_isJudged_16 rfl (fun r_16 τ_16 h_16 => ?_)
    obtain ⟨rfl, rfl⟩ := h_16
    refine hg_iconst (pc' := 20) cx 1 dX6_isJudged_19 (by decide) rfl ?_
    refine hg_iadd (pc' := 21) cx dX6_isJudged_20 rfl ?_
    refine hg_iconst (pc' := 22) cx 0 dX6_isJudged_21 (by decide) rfl ?_
    refine hg_sipush (pc' := 25) cx 9999 dX6_isJudged_22 (by decide) rfl ?_
    refine cs_X6_97 (pc' := 28) cx (K_X6_held l E _ _ _ _) ⟨rfl, rfl, Nat.le_of_ble_eq_true rfl, Nat.le_of_ble_eq_true rfl⟩ (Nat.le_of_ble_eq_true rfl) dX6_isJudged_25 rfl (fun r_25 τ_25 h_25 => ?_)
    obtain ⟨rfl, rfl⟩ := h_25
    refine cv_X6_74 (pc' := 31) cx (K_X6_put l E _ _ (by first | assumption | omega | decide) _ (by first | assumption | omega | decide) _) ⟨rfl, rfl, Nat.le_of_ble_eq_true rfl, Nat.le_of_ble_eq_true rfl⟩ (Nat.le_of_ble_eq_true rfl) dX6_isJudged_28 rfl (fun τ_28 h_28 => ?_)
    obtain rfl := h_28
    refine hg_aload0 (pc' := 32) cx dX6_isJudged_31 rfl ?_
    refine hg_iload1 (pc' := 33) cx dX6_isJudged_32 rfl ?_
    refine hg_iconst (pc' := 34) cx (nI 4) dX6_isJudged_33 (by decide) rfl ?_
    refine hg_aload0 (pc' := 35) cx dX6_isJudged_34 rfl ?_
    refine hg_iload1 (pc' := 36) cx dX6_isJudged_35 rfl ?_
    refine hg_iconst (pc' := 37) cx (nI 4) dX6_isJudged_36 (by decide) rfl ?_
    refine cv_X6_48 (pc' := 40) cx (K_X6_it l E _ _ (by first | assumption | omega | decide) _ (by first | assumption | omega | decide)) ⟨rfl, rfl, Nat.le_of_ble_eq_true rfl, Nat.le_of_ble_eq_true rfl⟩ (Nat.le_of_ble_eq_true rfl) dX6_isJudged_37 rfl (fun r_37 τ_37 h_37 => ?_)
    obtain ⟨rfl, rfl⟩ := h_37
    refine hg_aload0 (pc' := 41) cx dX6_isJudged_40 rfl ?_
    refine hg_iload1 (pc' := 42) cx dX6_isJudged_41 rfl ?_
    refine cv_X6_90 (pc' := 45) cx (K_X6_stirs l E _ _ (by first | assumption | omega | decide)) ⟨rfl, rfl, Nat.le_of_ble_eq_true rfl, Nat.le_of_ble_eq_true rfl⟩ (Nat.le_of_ble_eq_true rfl) dX6_isJudged_42 rfl (fun r_42 τ_42 h_42 => ?_)
    obtain ⟨rfl, rfl⟩ := h_42
    refine hg_iadd (pc' := 46) cx dX6_isJudged_45 rfl ?_
    refine hg_iconst (pc' := 47) cx 0 dX6_isJudged_46 (by decide) rfl ?_
    refine hg_bipush (pc' := 49) cx 99 dX6_isJudged_47 (by decide) rfl ?_
    refine cs_X6_97 (pc' := 52) cx (K_X6_held l E _ _ _ _) ⟨rfl, rfl, Nat.le_of_ble_eq_true rfl, Nat.le_of_ble_eq_true rfl⟩ (Nat.le_of_ble_eq_true rfl) dX6_isJudged_49 rfl (fun r_49 τ_49 h_49 => ?_)
    obtain ⟨rfl, rfl⟩ := h_49
    refine cv_X6_74 (pc' := 55) cx (K_X6_put l E _ _ (by first | assumption | omega | decide) _ (by first | assumption | omega | decide) _) ⟨rfl, rfl, Nat.le_of_ble_eq_true rfl, Nat.le_of_ble_eq_true rfl⟩ (Nat.le_of_ble_eq_true rfl) dX6_isJudged_52 rfl (fun τ_52 h_52 => ?_)
    obtain rfl := h_52
    refine hg_goto cx 137 dX6_isJudged_55 (by decide) ?_
    refine hg_vret cx dX6_isJudged_137 ⟨rfl, ?_⟩
    simp only [hg_sI_eq, hg_sH_at, hg_sH_sH]
    refine ⟨⟨rfl, fun i hi => hg_sH_ne _ _ hi⟩, fun j hj => ?_, ?_⟩
    · try rw [hg_sH_at]
      first
        | (rw [va_upN _ _ (by omega), va_upN _ _ (by omega), va_upN _ _ (by omega)]; done)
        | (rw [va_upN _ _ (by omega), va_upN _ _ (by omega)]; done)
    · try rw [hg_sH_at]
      unfold sp_jud
      first
        | (rw [if_pos c_7, va_upN _ _ (show 4 + 6 * h + 4 ≠ 4 + 6 * h + 2 by omega)]; exact sp_jud_right hv)
        | (rw [if_neg c_7, va_upN _ _ (show 4 + 6 * h + 4 ≠ 4 + 6 * h + 3 by omega), va_upN _ _ (show 4 + 6 * h + 4 ≠ 4 + 6 * h + 1 by omega), va_upN _ _ (show 4 + 6 * h + 3 ≠ 4 + 6 * h + 1 by omega), sp_stirs_hr (k := 3) (by decide) (by decide), sp_stirs_hr (k := 1) (by decide) (by decide)]
           refine sp_jud_wrong hv hx hy _ _ ?_
           first | rw [if_pos c_66] | rw [if_neg c_66])
set_option maxHeartbeats 4000000 in
set_option maxRecDepth 100000 in
theorem K_X6_thinks (l : Launch) (E : hg_Wd) (σ : hg_Mem)  : hg_C l E yX6_thinks cX6_thinks 1 none { frames := 1, cells := 0, slots := 0, locals := 22 } [.ref (hg_ad E 50)] σ (hg_pv (fun τ => sp_Th σ τ ∧ ∀ k, k < 64 → τ.1 51 k = σ.1 51 k)) := by
  refine hg_intro (by decide) [some (.ref (hg_ad E 50))] rfl (Nat.le_of_ble_eq_true rfl) ?_
  intro p e s m args below meth c cx
  have cx : hg_Cx E p s m args meth c cX6_thinks 1 RX6 none := cx
  refine hg_aload0 (pc' := 1) cx dX6_thinks_0 rfl ?_
  refine gf_X6_9 (pc' := 4) cx dX6_thinks_1 rfl ?_
  refine hg_aload0 (pc' := 5) cx dX6_thinks_4 rfl ?_
  refine gf_X6_16 (pc' := 8) cx dX6_thinks_5 rfl ?_
  refine cs_X6_116 (pc' := 11) cx (K_X6_copyAll l E _ 51 (by decide) (by decide) 53 (by decide) (by decide) (by decide)) ⟨rfl, rfl, Nat.le_of_ble_eq_true rfl, Nat.le_of_ble_eq_true rfl⟩ (Nat.le_of_ble_eq_true rfl) dX6_thinks_8 rfl (fun τ_8 h_8 => ?_)
  skip
  refine hg_vret cx dX6_thinks_11 ⟨rfl, ?_⟩
  exact ⟨⟨h_8.1, fun i h1 h2 h3 => h_8.2.1 i h2, h_8.2.2⟩, fun k hk => by rw [h_8.2.1 51 (by decide)]⟩
set_option maxHeartbeats 4000000 in
set_option maxRecDepth 100000 in
theorem K_X6_putsBack (l : Launch) (E : hg_Wd) (σ : hg_Mem)  : hg_C l E yX6_putsBack cX6_putsBack 1 none { frames := 1, cells := 0, slots := 0, locals := 22 } [.ref (hg_ad E 50)] σ (hg_pv (fun τ => (τ.2 = σ.2 ∧ ∀ i, i ≠ 51 → τ.1 i = σ.1 i) ∧ ∀ k, k < 64 → τ.1 51 k = σ.1 53 k)) := by
  refine hg_intro (by decide) [some (.ref (hg_ad E 50))] rfl (Nat.le_of_ble_eq_true rfl) ?_
  intro p e s m args below meth c cx
  have cx : hg_Cx E p s m args meth c cX6_putsBack 1 RX6 none := cx
  refine hg_aload0 (pc' := 1) cx dX6_putsBack_0 rfl ?_
  refine gf_X6_16 (pc' := 4) cx dX6_putsBack_1 rfl ?_
  refine hg_aload0 (pc' := 5) cx dX6_putsBack_4 rfl ?_
  refine gf_X6_9 (pc' := 8) cx dX6_putsBack_5 rfl ?_
  refine cs_X6_116 (pc' := 11) cx (K_X6_copyAll l E _ 53 (by decide) (by decide) 51 (by decide) (by decide) (by decide)) ⟨rfl, rfl, Nat.le_of_ble_eq_true rfl, Nat.le_of_ble_eq_true rfl⟩ (Nat.le_of_ble_eq_true rfl) dX6_putsBack_8 rfl (fun τ_8 h_8 => ?_)
  skip
  refine hg_vret cx dX6_putsBack_11 ⟨rfl, ?_⟩
  exact ⟨⟨h_8.1, h_8.2.1⟩, h_8.2.2⟩
