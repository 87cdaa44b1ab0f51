set_option maxHeartbeats 4000000 in
set_option maxRecDepth 100000 in
theorem K_X3_has (l : Launch) (E : hg_Wd) (σ : hg_Mem) (t : Nat) (ht1 : 1 ≤ t) (ht2 : t < 4) (n : Nat) (hn10 : n ≤ 10) (hn : σ.1 t 3 = nI n) (x : Int32) : hg_C l E yX3_has cX3_has 2 (some .boolean) { frames := 0, cells := 0, slots := 0, locals := 0 } [.ref (hg_ad E t), .int x] σ (hg_pi (fun r τ => r = (if 0 ≤ x ∧ x < nI n then 1 else 0) ∧ σ = τ)) := by
  refine hg_intro (by decide) [some (.ref (hg_ad E t)), some (.int x)] rfl (Nat.le_of_ble_eq_true rfl) ?_
  intro p e s m args below meth c cx
  have cx : hg_Cx E p s m args meth c cX3_has 2 RX3 (some .boolean) := cx
  refine hg_iload1 (pc' := 1) cx dX3_has_0 rfl ?_
  refine hg_if_lt (pc' := 4) cx 16 dX3_has_1 (by decide) rfl (fun c_1 => ?_) (fun c_1 => ?_)
  ·
    refine hg_iconst (pc' := 17) cx 0 dX3_has_16 (by decide) rfl ?_
    refine hg_zret cx rfl dX3_has_17 ⟨_, rfl, ?_⟩
    exact ⟨by rw [← hn]; first | (rw [if_pos ⟨Int32.not_lt.mp c_1, Int32.not_le.mp c_9⟩]; done) | (rw [if_neg (fun h => Int32.not_le.mpr c_1 h.1)]; done) | (rw [if_neg (fun h => Int32.not_le.mpr h.2 c_9)]; done), rfl⟩
  ·
    refine hg_iload1 (pc' := 5) cx dX3_has_4 rfl ?_
    refine hg_aload0 (pc' := 6) cx dX3_has_5 rfl ?_
    refine gf_X3_28 (pc' := 9) cx (by first | assumption | omega | decide) (by first | assumption | omega | decide) dX3_has_6 rfl ?_
    refine hg_icmp_ge (pc' := 12) cx 16 dX3_has_9 (by decide) rfl (fun c_9 => ?_) (fun c_9 => ?_)
    ·
      refine hg_iconst (pc' := 17) cx 0 dX3_has_16 (by decide) rfl ?_
      refine hg_zret cx rfl dX3_has_17 ⟨_, rfl, ?_⟩
      exact ⟨by rw [← hn]; first | (rw [if_pos ⟨Int32.not_lt.mp c_1, Int32.not_le.mp c_9⟩]; done) | (rw [if_neg (fun h => Int32.not_le.mpr c_1 h.1)]; done) | (rw [if_neg (fun h => Int32.not_le.mpr h.2 c_9)]; done), rfl⟩
    ·
      refine hg_iconst (pc' := 13) cx 1 dX3_has_12 (by decide) rfl ?_
      refine hg_goto cx 17 dX3_has_13 (by decide) ?_
      refine hg_zret cx rfl dX3_has_17 ⟨_, rfl, ?_⟩
      exact ⟨by rw [← hn]; first | (rw [if_pos ⟨Int32.not_lt.mp c_1, Int32.not_le.mp c_9⟩]; done) | (rw [if_neg (fun h => Int32.not_le.mpr c_1 h.1)]; done) | (rw [if_neg (fun h => Int32.not_le.mpr h.2 c_9)]; done), rfl⟩
set_option maxHeartbeats 4000000 in
set_option maxRecDepth 100000 in
theorem K_X3_isFull (l : Launch) (E : hg_Wd) (σ : hg_Mem) (t : Nat) (ht1 : 1 ≤ t) (ht2 : t < 4) : hg_C l E yX3_isFull cX3_isFull 1 (some .boolean) { frames := 0, cells := 0, slots := 0, locals := 0 } [.ref (hg_ad E t)] σ (hg_pi (fun r τ => r = (if 10 ≤ σ.1 t 3 then 1 else 0) ∧ σ = τ)) := by
  refine hg_intro (by decide) [some (.ref (hg_ad E t))] rfl (Nat.le_of_ble_eq_true rfl) ?_
  intro p e s m args below meth c cx
  have cx : hg_Cx E p s m args meth c cX3_isFull 1 RX3 (some .boolean) := cx
  refine hg_aload0 (pc' := 1) cx dX3_isFull_0 rfl ?_
  refine gf_X3_28 (pc' := 4) cx (by first | assumption | omega | decide) (by first | assumption | omega | decide) dX3_isFull_1 rfl ?_
  refine hg_bipush (pc' := 6) cx 10 dX3_isFull_4 (by decide) rfl ?_
  refine hg_icmp_lt (pc' := 9) cx 13 dX3_isFull_6 (by decide) rfl (fun c_6 => ?_) (fun c_6 => ?_)
  ·
    refine hg_iconst (pc' := 14) cx 0 dX3_isFull_13 (by decide) rfl ?_
    refine hg_zret cx rfl dX3_isFull_14 ⟨_, rfl, ?_⟩
    exact ⟨by first | rfl | (simp [Int32.not_lt, c_6]; done) | (simp (decide := true) only [Int32.not_lt, c_6, ↓reduceIte, and_true, true_and, and_false, false_and, or_false, false_or, true_or, or_true]; done) | (simp only [Int32.not_lt]; grind) | (simp_all [Int32.not_lt]; done), rfl⟩
  ·
    refine hg_iconst (pc' := 10) cx 1 dX3_isFull_9 (by decide) rfl ?_
    refine hg_goto cx 14 dX3_isFull_10 (by decide) ?_
    refine hg_zret cx rfl dX3_isFull_14 ⟨_, rfl, ?_⟩
    exact ⟨by first | rfl | (simp [Int32.not_lt, c_6]; done) | (simp (decide := true) only [Int32.not_lt, c_6, ↓reduceIte, and_true, true_and, and_false, false_and, or_false, false_or, true_or, or_true]; done) | (simp only [Int32.not_lt]; grind) | (simp_all [Int32.not_lt]; done), rfl⟩
set_option maxHeartbeats 4000000 in
set_option maxRecDepth 100000 in
theorem K_X3_question (l : Launch) (E : hg_Wd) (σ : hg_Mem) (t : Nat) (ht1 : 1 ≤ t) (ht2 : t < 4) : hg_C l E yX3_question cX3_question 1 (some .int) { frames := 0, cells := 0, slots := 0, locals := 0 } [.ref (hg_ad E t)] σ (hg_pi (fun r τ => r = sp_q (σ.1 t 0) ∧ σ = τ)) := by
  refine hg_intro (by decide) [some (.ref (hg_ad E t))] rfl (Nat.le_of_ble_eq_true rfl) ?_
  intro p e s m args below meth c cx
  have cx : hg_Cx E p s m args meth c cX3_question 1 RX3 (some .int) := cx
  refine hg_aload0 (pc' := 1) cx dX3_question_0 rfl ?_
  refine gf_X3_22 (pc' := 4) cx (by first | assumption | omega | decide) (by first | assumption | omega | decide) dX3_question_1 rfl ?_
  refine hg_bipush (pc' := 6) cx 8 dX3_question_4 (by decide) rfl ?_
  refine hg_irem (pc' := 7) cx (by decide) dX3_question_6 rfl ?_
  refine hg_iret cx dX3_question_7 ⟨_, rfl, ?_⟩
  exact ⟨by first | rfl | (simp [sp_q, and_self]; done) | (simp (decide := true) only [sp_q, and_self, ↓reduceIte, and_true, true_and, and_false, false_and, or_false, false_or, true_or, or_true]; done) | (simp only [sp_q]; grind) | (simp_all [sp_q]; done), rfl⟩
set_option maxHeartbeats 4000000 in
set_option maxRecDepth 100000 in
theorem K_X3_trueOnes (l : Launch) (E : hg_Wd) (σ : hg_Mem) (t : Nat) (ht1 : 1 ≤ t) (ht2 : t < 4) : hg_C l E yX3_trueOnes cX3_trueOnes 1 (some .int) { frames := 0, cells := 0, slots := 0, locals := 0 } [.ref (hg_ad E t)] σ (hg_pi (fun r τ => r = sp_trueOnes (σ.1 t 2) (σ.1 t 1) ∧ σ = τ)) := by
  refine hg_intro (by decide) [some (.ref (hg_ad E t))] rfl (Nat.le_of_ble_eq_true rfl) ?_
  intro p e s m args below meth c cx
  have cx : hg_Cx E p s m args meth c cX3_trueOnes 1 RX3 (some .int) := cx
  refine hg_aload0 (pc' := 1) cx dX3_trueOnes_0 rfl ?_
  refine gf_X3_25 (pc' := 4) cx (by first | assumption | omega | decide) (by first | assumption | omega | decide) dX3_trueOnes_1 rfl ?_
  refine hg_aload0 (pc' := 5) cx dX3_trueOnes_4 rfl ?_
  refine gf_X3_9 (pc' := 8) cx (by first | assumption | omega | decide) (by first | assumption | omega | decide) dX3_trueOnes_5 rfl ?_
  refine hg_ixor (pc' := 9) cx dX3_trueOnes_8 rfl ?_
  refine hg_iconst (pc' := 10) cx (-1) dX3_trueOnes_9 (by decide) rfl ?_
  refine hg_ixor (pc' := 11) cx dX3_trueOnes_10 rfl ?_
  refine hg_sipush (pc' := 14) cx 255 dX3_trueOnes_11 (by decide) rfl ?_
  refine hg_iand (pc' := 15) cx dX3_trueOnes_14 rfl ?_
  refine hg_iret cx dX3_trueOnes_15 ⟨_, rfl, ?_⟩
  exact ⟨by first | rfl | (simp [sp_trueOnes, and_self]; done) | (simp (decide := true) only [sp_trueOnes, and_self, ↓reduceIte, and_true, true_and, and_false, false_and, or_false, false_or, true_or, or_true]; done) | (simp only [sp_trueOnes]; grind) | (simp_all [sp_trueOnes]; done), rfl⟩
set_option maxHeartbeats 4000000 in
set_option maxRecDepth 100000 in
theorem K_X3_hatsOn (l : Launch) (E : hg_Wd) (σ : hg_Mem) (t : Nat) (ht1 : 1 ≤ t) (ht2 : t < 4) (n : Nat) (hn10 : n ≤ 10) (hn : σ.1 t 3 = nI n) : hg_C l E yX3_hatsOn cX3_hatsOn 3 (some .int) { frames := 0, cells := 0, slots := 0, locals := 0 } [.ref (hg_ad E t)] σ (hg_pi (fun r τ => r = sp_onset (fun h => σ.1 (10 + 10 * t + h)) n ∧ σ = τ)) := by
  refine hg_intro (by decide) [some (.ref (hg_ad E t)), none, none] rfl (Nat.le_of_ble_eq_true rfl) ?_
  intro p e s m args below meth c cx
  have cx : hg_Cx E p s m args meth c cX3_hatsOn 3 RX3 (some .int) := cx
  refine hg_iconst (pc' := 1) cx 0 dX3_hatsOn_0 (by decide) rfl ?_
  refine hg_istore1 (pc' := 2) cx rfl dX3_hatsOn_1 rfl ?_
  refine hg_iconst (pc' := 3) cx (nI 0) dX3_hatsOn_2 (by decide) rfl ?_
  refine hg_istore2 (pc' := 4) cx rfl dX3_hatsOn_3 rfl ?_
  refine hg_loop (α := Int32 × Nat) (I := fun z => z.2 ≤ n ∧ z.1 = sp_onset (fun h => σ.1 (10 + 10 * t + h)) z.2) (P := fun z => hg_G E p l e { frames := 0, cells := 0, slots := 0, locals := 0 } s m args below meth c 3 (MQ below (hg_Qc E (hg_pi (fun r τ => r = sp_onset (fun h => σ.1 (10 + 10 * t + h)) n ∧ σ = τ))) args s 0 0 (hg_AW E)) σ 4 [some (.ref (hg_ad E t)), some (.int z.1), some (.int (nI z.2))] []) (fun z => n - z.2) ?_ (0, 0) ?_
  rotate_left
  · try dsimp only
    exact ⟨Nat.zero_le _, rfl⟩
  rintro ⟨x, j⟩ hI ih_4
  try dsimp only at hI ih_4 ⊢
  have hjn := hI.1
  refine hg_iload2 (pc' := 5) cx dX3_hatsOn_4 rfl ?_
  refine hg_aload0 (pc' := 6) cx dX3_hatsOn_5 rfl ?_
  refine gf_X3_28 (pc' := 9) cx (by first | assumption | omega | decide) (by first | assumption | omega | decide) dX3_hatsOn_6 rfl ?_
  refine hg_icmp_ge (pc' := 12) cx 32 dX3_hatsOn_9 (by decide) rfl (fun c_9 => ?_) (fun c_9 => ?_)
  ·
    have hj := hg_ge hn (by omega) (by omega) c_9
    refine hg_iload1 (pc' := 33) cx dX3_hatsOn_32 rfl ?_
    refine hg_iret cx dX3_hatsOn_33 ⟨_, rfl, ?_⟩
    obtain rfl : j = n := by omega
    exact ⟨hI.2, rfl⟩
  ·
    have hj := hg_nge hn (by omega) (by omega) c_9
    refine hg_iload1 (pc' := 13) cx dX3_hatsOn_12 rfl ?_
    refine hg_aload0 (pc' := 14) cx dX3_hatsOn_13 rfl ?_
    refine gf_X3_17 (pc' := 17) cx (by first | assumption | omega | decide) (by first | assumption | omega | decide) dX3_hatsOn_14 rfl ?_
    refine hg_iload2 (pc' := 18) cx dX3_hatsOn_17 rfl ?_
    refine hg_seat (pc' := 19) cx ht1 ht2 (by omega) dX3_hatsOn_18 rfl ?_
    refine gf_X3_43 (pc' := 22) cx (by first | assumption | omega | decide) (by first | assumption | omega | decide) dX3_hatsOn_19 rfl ?_
    refine hg_iload2 (pc' := 23) cx dX3_hatsOn_22 rfl ?_
    refine hg_ishl (pc' := 24) cx dX3_hatsOn_23 rfl ?_
    refine hg_ior (pc' := 25) cx dX3_hatsOn_24 rfl ?_
    refine hg_istore1 (pc' := 26) cx rfl dX3_hatsOn_25 rfl ?_
    refine hg_iinc2p (pc' := 29) cx rfl dX3_hatsOn_26 rfl ?_
    refine hg_goto cx 4 dX3_hatsOn_29 (by decide) ?_
    rw [nI_1]
    refine ih_4 (_, _) ?_ ?_
    · try dsimp only
      exact ⟨hj, by rw [hI.2]; rfl⟩
    · show n - (j + 1) < n - j
      omega
set_option maxHeartbeats 4000000 in
set_option maxRecDepth 100000 in
theorem K_X3_sum (l : Launch) (E : hg_Wd) (σ : hg_Mem) (t : Nat) (ht1 : 1 ≤ t) (ht2 : t < 4) (n : Nat) (hn10 : n ≤ 10) (hn : σ.1 t 3 = nI n) (w : Int32) : hg_C l E yX3_sum cX3_sum 4 (some .int) { frames := 1, cells := 0, slots := 0, locals := 21 } [.ref (hg_ad E t), .int w] σ (hg_pi (fun r τ => r = sp_sum (fun h => σ.1 (10 + 10 * t + h)) w n ∧ σ = τ)) := by
  refine hg_intro (by decide) [some (.ref (hg_ad E t)), some (.int w), none, none] rfl (Nat.le_of_ble_eq_true rfl) ?_
  intro p e s m args below meth c cx
  have cx : hg_Cx E p s m args meth c cX3_sum 4 RX3 (some .int) := cx
  refine hg_iconst (pc' := 1) cx 0 dX3_sum_0 (by decide) rfl ?_
  refine hg_istore2 (pc' := 2) cx rfl dX3_sum_1 rfl ?_
  refine hg_iconst (pc' := 3) cx (nI 0) dX3_sum_2 (by decide) rfl ?_
  refine hg_istore3 (pc' := 4) cx rfl dX3_sum_3 rfl ?_
  refine hg_loop (α := Int32 × Nat) (I := fun z => z.2 ≤ n ∧ z.1 = sp_sum (fun h => σ.1 (10 + 10 * t + h)) w z.2) (P := fun z => hg_G E p l e { frames := 1, cells := 0, slots := 0, locals := 21 } s m args below meth c 4 (MQ below (hg_Qc E (hg_pi (fun r τ => r = sp_sum (fun h => σ.1 (10 + 10 * t + h)) w n ∧ σ = τ))) args s 0 0 (hg_AW E)) σ 4 [some (.ref (hg_ad E t)), some (.int w), some (.int z.1), some (.int (nI z.2))] []) (fun z => n - z.2) ?_ (0, 0) ?_
  rotate_left
  · try dsimp only
    exact ⟨Nat.zero_le _, rfl⟩
  rintro ⟨x, j⟩ hI ih_4
  try dsimp only at hI ih_4 ⊢
  have hjn := hI.1
  refine hg_iload3 (pc' := 5) cx dX3_sum_4 rfl ?_
  refine hg_aload0 (pc' := 6) cx dX3_sum_5 rfl ?_
  refine gf_X3_28 (pc' := 9) cx (by first | assumption | omega | decide) (by first | assumption | omega | decide) dX3_sum_6 rfl ?_
  refine hg_icmp_ge (pc' := 12) cx 31 dX3_sum_9 (by decide) rfl (fun c_9 => ?_) (fun c_9 => ?_)
  ·
    have hj := hg_ge hn (by omega) (by omega) c_9
    refine hg_iload2 (pc' := 32) cx dX3_sum_31 rfl ?_
    refine hg_iret cx dX3_sum_32 ⟨_, rfl, ?_⟩
    obtain rfl : j = n := by omega
    exact ⟨hI.2, rfl⟩
  ·
    have hj := hg_nge hn (by omega) (by omega) c_9
    refine hg_iload2 (pc' := 13) cx dX3_sum_12 rfl ?_
    refine hg_aload0 (pc' := 14) cx dX3_sum_13 rfl ?_
    refine gf_X3_17 (pc' := 17) cx (by first | assumption | omega | decide) (by first | assumption | omega | decide) dX3_sum_14 rfl ?_
    refine hg_iload3 (pc' := 18) cx dX3_sum_17 rfl ?_
    refine hg_seat (pc' := 19) cx ht1 ht2 (by omega) dX3_sum_18 rfl ?_
    refine hg_iload1 (pc' := 20) cx dX3_sum_19 rfl ?_
    refine cv_X3_46 (pc' := 23) cx (by first | assumption | omega | decide) (by first | assumption | omega | decide) (K_X1_trait l E _ _ (by first | assumption | omega | decide) (by first | assumption | omega | decide) _) ⟨rfl, rfl, Nat.le_of_ble_eq_true rfl, Nat.le_of_ble_eq_true rfl⟩ (Nat.le_of_ble_eq_true rfl) dX3_sum_20 rfl (fun r_20 τ_20 h_20 => ?_)
    obtain ⟨rfl, rfl⟩ := h_20
    refine hg_iadd (pc' := 24) cx dX3_sum_23 rfl ?_
    refine hg_istore2 (pc' := 25) cx rfl dX3_sum_24 rfl ?_
    refine hg_iinc3p (pc' := 28) cx rfl dX3_sum_25 rfl ?_
    refine hg_goto cx 4 dX3_sum_28 (by decide) ?_
    rw [nI_1]
    refine ih_4 (_, _) ?_ ?_
    · try dsimp only
      exact ⟨hj, by rw [hI.2]; rfl⟩
    · show n - (j + 1) < n - j
      omega
set_option maxHeartbeats 4000000 in
set_option maxRecDepth 100000 in
theorem K_X3_verdict (l : Launch) (E : hg_Wd) (σ : hg_Mem) (t : Nat) (ht1 : 1 ≤ t) (ht2 : t < 4) : hg_C l E yX3_verdict cX3_verdict 1 (some .int) { frames := 1, cells := 0, slots := 0, locals := 21 } [.ref (hg_ad E t)] σ (hg_pi (fun r τ => r = sp_verdict (σ.1 t 5) (σ.1 t 6) (σ.1 t 2) (sp_q (σ.1 t 0)) ∧ σ = τ)) := by
  refine hg_intro (by decide) [some (.ref (hg_ad E t))] rfl (Nat.le_of_ble_eq_true rfl) ?_
  intro p e s m args below meth c cx
  have cx : hg_Cx E p s m args meth c cX3_verdict 1 RX3 (some .int) := cx
  refine hg_aload0 (pc' := 1) cx dX3_verdict_0 rfl ?_
  refine gf_X3_62 (pc' := 4) cx (by first | assumption | omega | decide) (by first | assumption | omega | decide) dX3_verdict_1 rfl ?_
  refine hg_aload0 (pc' := 5) cx dX3_verdict_4 rfl ?_
  refine gf_X3_65 (pc' := 8) cx (by first | assumption | omega | decide) (by first | assumption | omega | decide) dX3_verdict_5 rfl ?_
  refine hg_icmp_ne (pc' := 11) cx 23 dX3_verdict_8 (by decide) rfl (fun c_8 => ?_) (fun c_8 => ?_)
  ·
    refine hg_aload0 (pc' := 24) cx dX3_verdict_23 rfl ?_
    refine gf_X3_62 (pc' := 27) cx (by first | assumption | omega | decide) (by first | assumption | omega | decide) dX3_verdict_24 rfl ?_
    refine hg_aload0 (pc' := 28) cx dX3_verdict_27 rfl ?_
    refine gf_X3_65 (pc' := 31) cx (by first | assumption | omega | decide) (by first | assumption | omega | decide) dX3_verdict_28 rfl ?_
    refine hg_icmp_le (pc' := 34) cx 38 dX3_verdict_31 (by decide) rfl (fun c_31 => ?_) (fun c_31 => ?_)
    ·
      refine hg_iconst (pc' := 39) cx 0 dX3_verdict_38 (by decide) rfl ?_
      refine hg_iret cx dX3_verdict_39 ⟨_, rfl, ?_⟩
      exact ⟨by first | rfl | (simp [sp_verdict, c_8, c_31]; done) | (simp (decide := true) only [sp_verdict, c_8, c_31, ↓reduceIte, and_true, true_and, and_false, false_and, or_false, false_or, true_or, or_true]; done) | (simp only [sp_verdict]; grind) | (simp_all [sp_verdict]; done), rfl⟩
    ·
      refine hg_iconst (pc' := 35) cx 1 dX3_verdict_34 (by decide) rfl ?_
      refine hg_goto cx 39 dX3_verdict_35 (by decide) ?_
      refine hg_iret cx dX3_verdict_39 ⟨_, rfl, ?_⟩
      exact ⟨by first | rfl | (simp [sp_verdict, c_8, c_31]; done) | (simp (decide := true) only [sp_verdict, c_8, c_31, ↓reduceIte, and_true, true_and, and_false, false_and, or_false, false_or, true_or, or_true]; done) | (simp only [sp_verdict]; grind) | (simp_all [sp_verdict]; done), rfl⟩
  ·
    refine hg_aload0 (pc' := 12) cx dX3_verdict_11 rfl ?_
    refine gf_X3_25 (pc' := 15) cx (by first | assumption | omega | decide) (by first | assumption | omega | decide) dX3_verdict_12 rfl ?_
    refine hg_aload0 (pc' := 16) cx dX3_verdict_15 rfl ?_
    refine cv_X3_54 (pc' := 19) cx (by first | assumption | omega | decide) (by first | assumption | omega | decide) (K_X3_question l E _ _ (by first | assumption | omega | decide) (by first | assumption | omega | decide)) ⟨rfl, rfl, Nat.le_of_ble_eq_true rfl, Nat.le_of_ble_eq_true rfl⟩ (Nat.le_of_ble_eq_true rfl) dX3_verdict_16 rfl (fun r_16 τ_16 h_16 => ?_)
    obtain ⟨rfl, rfl⟩ := h_16
    refine cs_X3_74 (pc' := 22) cx (K_X5_bit l E _ _ _) ⟨rfl, rfl, Nat.le_of_ble_eq_true rfl, Nat.le_of_ble_eq_true rfl⟩ (Nat.le_of_ble_eq_true rfl) dX3_verdict_19 rfl (fun r_19 τ_19 h_19 => ?_)
    obtain ⟨rfl, rfl⟩ := h_19
    refine hg_iret cx dX3_verdict_22 ⟨_, rfl, ?_⟩
    exact ⟨by first | rfl | (simp [sp_verdict, c_8]; done) | (simp (decide := true) only [sp_verdict, c_8, ↓reduceIte, and_true, true_and, and_false, false_and, or_false, false_or, true_or, or_true]; done) | (simp only [sp_verdict]; grind) | (simp_all [sp_verdict]; done), rfl⟩
set_option maxHeartbeats 4000000 in
set_option maxRecDepth 100000 in
theorem K_X3_word (l : Launch) (E : hg_Wd) (σ : hg_Mem) (t : Nat) (ht1 : 1 ≤ t) (ht2 : t < 4) (n : Nat) (hn10 : n ≤ 10) (hn : σ.1 t 3 = nI n) (j : Nat) (hj : j < n) : hg_C l E yX3_word cX3_word 2 (some .int) { frames := 3, cells := 0, slots := 0, locals := 65 } [.ref (hg_ad E t), .int (nI j)] σ (hg_pi (fun r τ => r = sp_says (σ.1 (10 + 10 * t + j)) (sp_q (σ.1 t 0)) (σ.1 t 2) ∧ σ = τ)) := by
  refine hg_intro (by decide) [some (.ref (hg_ad E t)), some (.int (nI j))] rfl (Nat.le_of_ble_eq_true rfl) ?_
  intro p e s m args below meth c cx
  have cx : hg_Cx E p s m args meth c cX3_word 2 RX3 (some .int) := cx
  refine hg_aload0 (pc' := 1) cx dX3_word_0 rfl ?_
  refine hg_iload1 (pc' := 2) cx dX3_word_1 rfl ?_
  refine cv_X3_50 (pc' := 5) cx (by first | assumption | omega | decide) (by first | assumption | omega | decide) (K_X3_has l E _ _ (by first | assumption | omega | decide) (by first | assumption | omega | decide) _ (by first | assumption | omega | decide) (by first | assumption | omega | decide) _) ⟨rfl, rfl, Nat.le_of_ble_eq_true rfl, Nat.le_of_ble_eq_true rfl⟩ (Nat.le_of_ble_eq_true rfl) dX3_word_2 rfl (fun r_2 τ_2 h_2 => ?_)
  obtain ⟨rfl, rfl⟩ := h_2
  refine hg_if_eq (pc' := 8) cx 28 dX3_word_5 (by decide) rfl (fun c_5 => ?_) (fun c_5 => ?_)
  ·
    exact absurd c_5 (by rw [if_pos ⟨nI_pos' (by omega), nI_lt hj (by omega)⟩]; decide)
  ·
    refine hg_aload0 (pc' := 9) cx dX3_word_8 rfl ?_
    refine gf_X3_17 (pc' := 12) cx (by first | assumption | omega | decide) (by first | assumption | omega | decide) dX3_word_9 rfl ?_
    refine hg_iload1 (pc' := 13) cx dX3_word_12 rfl ?_
    refine hg_seat (pc' := 14) cx ht1 ht2 (by omega) dX3_word_13 rfl ?_
    refine hg_aload0 (pc' := 15) cx dX3_word_14 rfl ?_
    refine cv_X3_54 (pc' := 18) cx (by first | assumption | omega | decide) (by first | assumption | omega | decide) (K_X3_question l E _ _ (by first | assumption | omega | decide) (by first | assumption | omega | decide)) ⟨rfl, rfl, Nat.le_of_ble_eq_true rfl, Nat.le_of_ble_eq_true rfl⟩ (Nat.le_of_ble_eq_true rfl) dX3_word_15 rfl (fun r_15 τ_15 h_15 => ?_)
    obtain ⟨rfl, rfl⟩ := h_15
    refine hg_aload0 (pc' := 19) cx dX3_word_18 rfl ?_
    refine gf_X3_25 (pc' := 22) cx (by first | assumption | omega | decide) (by first | assumption | omega | decide) dX3_word_19 rfl ?_
    refine cv_X3_58 (pc' := 25) cx (by first | assumption | omega | decide) (by first | assumption | omega | decide) (K_X1_answer l E _ _ (by first | assumption | omega | decide) (by first | assumption | omega | decide) _ _) ⟨rfl, rfl, Nat.le_of_ble_eq_true rfl, Nat.le_of_ble_eq_true rfl⟩ (Nat.le_of_ble_eq_true rfl) dX3_word_22 rfl (fun r_22 τ_22 h_22 => ?_)
    obtain ⟨rfl, rfl⟩ := h_22
    refine hg_goto cx 29 dX3_word_25 (by decide) ?_
    refine hg_iret cx dX3_word_29 ⟨_, rfl, ?_⟩
    exact ⟨rfl, rfl⟩
set_option maxHeartbeats 4000000 in
set_option maxRecDepth 100000 in
theorem K_X3_add (l : Launch) (E : hg_Wd) (σ : hg_Mem) (t : Nat) (ht1 : 1 ≤ t) (ht2 : t < 4) (n : Nat) (hn10 : n < 10) (hn : σ.1 t 3 = nI n) (kind : Int32) (view : Int32) : hg_C l E yX3_add cX3_add 3 none { frames := 1, cells := 0, slots := 0, locals := 22 } [.ref (hg_ad E t), .int kind, .int view] σ (hg_pv (fun τ => τ = hg_sH (hg_sH σ (10 + 10 * t + n) (sp_new (σ.1 (10 + 10 * t + n)) kind view)) t (va_up (σ.1 t) 3 (nI (n + 1))))) := by
  refine hg_intro (by decide) [some (.ref (hg_ad E t)), some (.int kind), some (.int view)] rfl (Nat.le_of_ble_eq_true rfl) ?_
  intro p e s m args below meth c cx
  have cx : hg_Cx E p s m args meth c cX3_add 3 RX3 none := cx
  refine hg_aload0 (pc' := 1) cx dX3_add_0 rfl ?_
  refine cv_X3_35 (pc' := 4) cx (by first | assumption | omega | decide) (by first | assumption | omega | decide) (K_X3_isFull l E _ _ (by first | assumption | omega | decide) (by first | assumption | omega | decide)) ⟨rfl, rfl, Nat.le_of_ble_eq_true rfl, Nat.le_of_ble_eq_true rfl⟩ (Nat.le_of_ble_eq_true rfl) dX3_add_1 rfl (fun r_1 τ_1 h_1 => ?_)
  obtain ⟨rfl, rfl⟩ := h_1
  refine hg_if_ne (pc' := 7) cx 31 dX3_add_4 (by decide) rfl (fun c_4 => ?_) (fun c_4 => ?_)
  ·
    exact absurd (hg_ge (n := 10) (j := n) rfl (by omega) (by omega) (hn ▸ hg_b1 c_4)) (by omega)
  ·
    rw [hn] at c_4
    refine hg_aload0 (pc' := 8) cx dX3_add_7 rfl ?_
    refine gf_X3_17 (pc' := 11) cx (by first | assumption | omega | decide) (by first | assumption | omega | decide) dX3_add_8 rfl ?_
    refine hg_aload0 (pc' := 12) cx dX3_add_11 rfl ?_
    refine gf_X3_28 (pc' := 15) cx (by first | assumption | omega | decide) (by first | assumption | omega | decide) dX3_add_12 rfl ?_
    rw [hn]
    refine hg_seat (pc' := 16) cx ht1 ht2 hn10 dX3_add_15 rfl ?_
    refine hg_iload1 (pc' := 17) cx dX3_add_16 rfl ?_
    refine hg_iload2 (pc' := 18) cx dX3_add_17 rfl ?_
    refine cv_X3_39 (pc' := 21) cx (by first | assumption | omega | decide) (by first | assumption | omega | decide) (K_X1_begin l E _ _ (by first | assumption | omega | decide) (by first | assumption | omega | decide) _ _) ⟨rfl, rfl, Nat.le_of_ble_eq_true rfl, Nat.le_of_ble_eq_true rfl⟩ (Nat.le_of_ble_eq_true rfl) dX3_add_18 rfl (fun τ_18 h_18 => ?_)
    obtain rfl := h_18
    refine hg_aload0 (pc' := 22) cx dX3_add_21 rfl ?_
    refine hg_dup (pc' := 23) cx rfl dX3_add_22 rfl ?_
    refine gf_X3_28 (pc' := 26) cx (by first | assumption | omega | decide) (by first | assumption | omega | decide) dX3_add_23 rfl ?_
    refine hg_iconst (pc' := 27) cx 1 dX3_add_26 (by decide) rfl ?_
    refine hg_iadd (pc' := 28) cx dX3_add_27 rfl ?_
    refine pf_X3_28 (pc' := 31) cx (by first | assumption | omega | decide) (by first | assumption | omega | decide) dX3_add_28 rfl ?_
    skip
    refine hg_vret cx dX3_add_31 ⟨rfl, ?_⟩
    rw [hg_sI_eq, hg_sH_ne _ _ (show t ≠ 10 + 10 * t + n by omega), hn, nI_1]
set_option maxHeartbeats 4000000 in
set_option maxRecDepth 100000 in
theorem K_X3_judge (l : Launch) (E : hg_Wd) (σ : hg_Mem) (t : Nat) (ht1 : 1 ≤ t) (ht2 : t < 4) (d : Nat) (hd1 : 20 ≤ d) (hd2 : d < 50) (q : Int32) : hg_C l E yX3_judge cX3_judge 3 none { frames := 2, cells := 0, slots := 0, locals := 45 } [.ref (hg_ad E t), .ref (hg_ad E d), .int q] σ (hg_pv (fun τ => τ = hg_sH σ d (sp_judge (σ.1 d) (σ.1 t 0) q (σ.1 t 1)))) := by
  refine hg_intro (by decide) [some (.ref (hg_ad E t)), some (.ref (hg_ad E d)), some (.int q)] rfl (Nat.le_of_ble_eq_true rfl) ?_
  intro p e s m args below meth c cx
  have cx : hg_Cx E p s m args meth c cX3_judge 3 RX3 none := cx
  refine hg_aload1 (pc' := 1) cx dX3_judge_0 rfl ?_
  refine gf_X3_68 (pc' := 4) cx (by first | assumption | omega | decide) (by first | assumption | omega | decide) dX3_judge_1 rfl ?_
  refine hg_iconst (pc' := 5) cx (-1) dX3_judge_4 (by decide) rfl ?_
  refine hg_icmp_ne (pc' := 8) cx 9 dX3_judge_5 (by decide) rfl (fun c_5 => ?_) (fun c_5 => ?_)
  ·
    refine hg_aload1 (pc' := 10) cx dX3_judge_9 rfl ?_
    refine gf_X3_68 (pc' := 13) cx (by first | assumption | omega | decide) (by first | assumption | omega | decide) dX3_judge_10 rfl ?_
    refine hg_aload0 (pc' := 14) cx dX3_judge_13 rfl ?_
    refine gf_X3_9 (pc' := 17) cx (by first | assumption | omega | decide) (by first | assumption | omega | decide) dX3_judge_14 rfl ?_
    refine hg_iload2 (pc' := 18) cx dX3_judge_17 rfl ?_
    refine cs_X3_74 (pc' := 21) cx (K_X5_bit l E _ _ _) ⟨rfl, rfl, Nat.le_of_ble_eq_true rfl, Nat.le_of_ble_eq_true rfl⟩ (Nat.le_of_ble_eq_true rfl) dX3_judge_18 rfl (fun r_18 τ_18 h_18 => ?_)
    obtain ⟨rfl, rfl⟩ := h_18
    refine hg_icmp_ne (pc' := 24) cx 31 dX3_judge_21 (by decide) rfl (fun c_21 => ?_) (fun c_21 => ?_)
    ·
      refine hg_aload1 (pc' := 32) cx dX3_judge_31 rfl ?_
      refine hg_aload0 (pc' := 33) cx dX3_judge_32 rfl ?_
      refine gf_X3_22 (pc' := 36) cx (by first | assumption | omega | decide) (by first | assumption | omega | decide) dX3_judge_33 rfl ?_
      refine hg_iload2 (pc' := 37) cx dX3_judge_36 rfl ?_
      refine hg_aload0 (pc' := 38) cx dX3_judge_37 rfl ?_
      refine gf_X3_9 (pc' := 41) cx (by first | assumption | omega | decide) (by first | assumption | omega | decide) dX3_judge_38 rfl ?_
      refine cv_X3_90 (pc' := 44) cx (by first | assumption | omega | decide) (by first | assumption | omega | decide) (K_X1_beWrong l E _ _ (by first | assumption | omega | decide) (by first | assumption | omega | decide) _ _ _) ⟨rfl, rfl, Nat.le_of_ble_eq_true rfl, Nat.le_of_ble_eq_true rfl⟩ (Nat.le_of_ble_eq_true rfl) dX3_judge_41 rfl (fun τ_41 h_41 => ?_)
      obtain rfl := h_41
      refine hg_vret cx dX3_judge_44 ⟨rfl, ?_⟩
      simp only [sp_judge]
      first | (rw [if_pos c_5, hg_sH_self]; done) | (rw [if_neg c_5, if_pos c_21]; done) | (rw [if_neg c_5, if_neg c_21]; done)
    ·
      refine hg_aload1 (pc' := 25) cx dX3_judge_24 rfl ?_
      refine cv_X3_87 (pc' := 28) cx (by first | assumption | omega | decide) (by first | assumption | omega | decide) (K_X1_beRight l E _ _ (by first | assumption | omega | decide) (by first | assumption | omega | decide)) ⟨rfl, rfl, Nat.le_of_ble_eq_true rfl, Nat.le_of_ble_eq_true rfl⟩ (Nat.le_of_ble_eq_true rfl) dX3_judge_25 rfl (fun τ_25 h_25 => ?_)
      obtain rfl := h_25
      refine hg_goto cx 44 dX3_judge_28 (by decide) ?_
      refine hg_vret cx dX3_judge_44 ⟨rfl, ?_⟩
      simp only [sp_judge]
      first | (rw [if_pos c_5, hg_sH_self]; done) | (rw [if_neg c_5, if_pos c_21]; done) | (rw [if_neg c_5, if_neg c_21]; done)
  ·
    refine hg_vret cx dX3_judge_8 ⟨rfl, ?_⟩
    simp only [sp_judge]
    first | (rw [if_pos c_5, hg_sH_self]; done) | (rw [if_neg c_5, if_pos c_21]; done) | (rw [if_neg c_5, if_neg c_21]; done)
set_option maxHeartbeats 4000000 in
set_option maxRecDepth 100000 in
theorem K_X3_become (l : Launch) (E : hg_Wd) (σ : hg_Mem) (t : Nat) (ht1 : 1 ≤ t) (ht2 : t < 4) (u : Nat) (hu1 : 1 ≤ u) (hu2 : u < 4) (hut : u ≠ t) (n : Nat) (hn10 : n ≤ 10) (hn : σ.1 u 3 = nI n) : hg_C l E yX3_become cX3_become 3 none { frames := 1, cells := 0, slots := 0, locals := 21 } [.ref (hg_ad E t), .ref (hg_ad E u)] σ (hg_pv (fun τ => sp_Fr σ τ t ∧ (∀ k, k < 4 → τ.1 t k = σ.1 u k) ∧ ∀ h, h < n → sp_Ag (τ.1 (10 + 10 * t + h)) (σ.1 (10 + 10 * u + h)))) := by
  refine hg_intro (by decide) [some (.ref (hg_ad E t)), some (.ref (hg_ad E u)), none] rfl (Nat.le_of_ble_eq_true rfl) ?_
  intro p e s m args below meth c cx
  have cx : hg_Cx E p s m args meth c cX3_become 3 RX3 none := cx
  refine hg_aload0 (pc' := 1) cx dX3_become_0 rfl ?_
  refine hg_aload1 (pc' := 2) cx dX3_become_1 rfl ?_
  refine gf_X3_22 (pc' := 5) cx (by first | assumption | omega | decide) (by first | assumption | omega | decide) dX3_become_2 rfl ?_
  refine pf_X3_22 (pc' := 8) cx (by first | assumption | omega | decide) (by first | assumption | omega | decide) dX3_become_5 rfl ?_
  refine hg_aload0 (pc' := 9) cx dX3_become_8 rfl ?_
  refine hg_aload1 (pc' := 10) cx dX3_become_9 rfl ?_
  refine gf_X3_9 (pc' := 13) cx (by first | assumption | omega | decide) (by first | assumption | omega | decide) dX3_become_10 rfl ?_
  refine pf_X3_9 (pc' := 16) cx (by first | assumption | omega | decide) (by first | assumption | omega | decide) dX3_become_13 rfl ?_
  refine hg_aload0 (pc' := 17) cx dX3_become_16 rfl ?_
  refine hg_aload1 (pc' := 18) cx dX3_become_17 rfl ?_
  refine gf_X3_25 (pc' := 21) cx (by first | assumption | omega | decide) (by first | assumption | omega | decide) dX3_become_18 rfl ?_
  refine pf_X3_25 (pc' := 24) cx (by first | assumption | omega | decide) (by first | assumption | omega | decide) dX3_become_21 rfl ?_
  refine hg_aload0 (pc' := 25) cx dX3_become_24 rfl ?_
  refine hg_aload1 (pc' := 26) cx dX3_become_25 rfl ?_
  refine gf_X3_28 (pc' := 29) cx (by first | assumption | omega | decide) (by first | assumption | omega | decide) dX3_become_26 rfl ?_
  refine pf_X3_28 (pc' := 32) cx (by first | assumption | omega | decide) (by first | assumption | omega | decide) dX3_become_29 rfl ?_
  refine hg_iconst (pc' := 33) cx (nI 0) dX3_become_32 (by decide) rfl ?_
  refine hg_istore2 (pc' := 34) cx rfl dX3_become_33 rfl ?_
  refine hg_nm (fun μ hμ => ?_)
  refine hg_loop (α := hg_Mem × Nat) (I := fun z => z.2 ≤ n ∧ sp_bec σ z.1 t u z.2) (P := fun z => hg_G E p l e { frames := 1, cells := 0, slots := 0, locals := 21 } s m args below meth c 3 (MQ below (hg_Qc E (hg_pv (fun τ => sp_Fr σ τ t ∧ (∀ k, k < 4 → τ.1 t k = σ.1 u k) ∧ ∀ h, h < n → sp_Ag (τ.1 (10 + 10 * t + h)) (σ.1 (10 + 10 * u + h))))) args s 0 0 (hg_AW E)) z.1 34 [some (.ref (hg_ad E t)), some (.ref (hg_ad E u)), some (.int (nI z.2))] []) (fun z => n - z.2) ?_ (μ, 0) ?_
  rotate_left
  · subst hμ
    try dsimp only
    refine ⟨Nat.zero_le _, ?_⟩
    simp only [hg_sI_eq, hg_sH_at, hg_sH_sH, hg_sH_ne _ _ hut]
    refine ⟨rfl, fun k hk => ?_, fun i hi _ => hg_sH_ne _ _ hi, fun h hh => absurd hh (Nat.not_lt_zero h)⟩
    rw [hg_sH_at]
    rcases (show k = 0 ∨ k = 1 ∨ k = 2 ∨ k = 3 by omega) with rfl | rfl | rfl | rfl <;> rfl
  clear hμ μ
  rintro ⟨τ, j⟩ hI ih_34
  try dsimp only at hI ih_34 ⊢
  have hjn := hI.1
  have hI3 : τ.1 t 3 = nI n := (hI.2.2.1 3 (by decide)).trans hn
  refine hg_iload2 (pc' := 35) cx dX3_become_34 rfl ?_
  refine hg_aload0 (pc' := 36) cx dX3_become_35 rfl ?_
  refine gf_X3_28 (pc' := 39) cx (by first | assumption | omega | decide) (by first | assumption | omega | decide) dX3_become_36 rfl ?_
  refine hg_icmp_ge (pc' := 42) cx 63 dX3_become_39 (by decide) rfl (fun c_39 => ?_) (fun c_39 => ?_)
  ·
    have hj := hg_ge hI3 (by omega) (by omega) c_39
    refine hg_vret cx dX3_become_63 ⟨rfl, ?_⟩
    obtain rfl : j = n := by omega
    exact hI.2.fin hn10
  ·
    have hj := hg_nge hI3 (by omega) (by omega) c_39
    refine hg_aload0 (pc' := 43) cx dX3_become_42 rfl ?_
    refine gf_X3_17 (pc' := 46) cx (by first | assumption | omega | decide) (by first | assumption | omega | decide) dX3_become_43 rfl ?_
    refine hg_iload2 (pc' := 47) cx dX3_become_46 rfl ?_
    refine hg_seat (pc' := 48) cx ht1 ht2 (by omega) dX3_become_47 rfl ?_
    refine hg_aload1 (pc' := 49) cx dX3_become_48 rfl ?_
    refine gf_X3_17 (pc' := 52) cx (by first | assumption | omega | decide) (by first | assumption | omega | decide) dX3_become_49 rfl ?_
    refine hg_iload2 (pc' := 53) cx dX3_become_52 rfl ?_
    refine hg_seat (pc' := 54) cx hu1 hu2 (by omega) dX3_become_53 rfl ?_
    refine cv_X3_31 (pc' := 57) cx (by first | assumption | omega | decide) (by first | assumption | omega | decide) (K_X1_become l E _ _ (by first | assumption | omega | decide) (by first | assumption | omega | decide) _ (by first | assumption | omega | decide) (by first | assumption | omega | decide) (by first | assumption | omega | decide)) ⟨rfl, rfl, Nat.le_of_ble_eq_true rfl, Nat.le_of_ble_eq_true rfl⟩ (Nat.le_of_ble_eq_true rfl) dX3_become_54 rfl (fun τ_54 h_54 => ?_)
    obtain rfl := h_54
    refine hg_iinc2p (pc' := 60) cx rfl dX3_become_57 rfl ?_
    refine hg_goto cx 34 dX3_become_60 (by decide) ?_
    rw [nI_1]
    refine hg_nm (fun μ hμ => ?_)
    refine ih_34 (μ, _) ?_ ?_
    · subst hμ
      try dsimp only
      exact ⟨hj, sp_bec.step hI.2 ht1 ht2 hu1 hu2 hut (by omega)⟩
    · show n - (j + 1) < n - j
      omega
set_option maxHeartbeats 4000000 in
set_option maxRecDepth 100000 in
theorem K_X3_ask (l : Launch) (E : hg_Wd) (σ : hg_Mem) (t : Nat) (ht1 : 1 ≤ t) (ht2 : t < 4) (n : Nat) (hn10 : n ≤ 10) (hn : σ.1 t 3 = nI n) : hg_C l E yX3_ask cX3_ask 4 none { frames := 3, cells := 0, slots := 0, locals := 65 } [.ref (hg_ad E t)] σ (hg_pv (fun τ => sp_ask σ τ t n (sp_q (σ.1 t 0)) (σ.1 t 2) (σ.1 t 0))) := by
  refine hg_intro (by decide) [some (.ref (hg_ad E t)), none, none, none] rfl (Nat.le_of_ble_eq_true rfl) ?_
  intro p e s m args below meth c cx
  have cx : hg_Cx E p s m args meth c cX3_ask 4 RX3 none := cx
  refine hg_aload0 (pc' := 1) cx dX3_ask_0 rfl ?_
  refine cv_X3_54 (pc' := 4) cx (by first | assumption | omega | decide) (by first | assumption | omega | decide) (K_X3_question l E _ _ (by first | assumption | omega | decide) (by first | assumption | omega | decide)) ⟨rfl, rfl, Nat.le_of_ble_eq_true rfl, Nat.le_of_ble_eq_true rfl⟩ (Nat.le_of_ble_eq_true rfl) dX3_ask_1 rfl (fun r_1 τ_1 h_1 => ?_)
  obtain ⟨rfl, rfl⟩ := h_1
  refine hg_istore1 (pc' := 5) cx rfl dX3_ask_4 rfl ?_
  refine hg_aload0 (pc' := 6) cx dX3_ask_5 rfl ?_
  refine hg_iconst (pc' := 7) cx 0 dX3_ask_6 (by decide) rfl ?_
  refine pf_X3_62 (pc' := 10) cx (by first | assumption | omega | decide) (by first | assumption | omega | decide) dX3_ask_7 rfl ?_
  refine hg_aload0 (pc' := 11) cx dX3_ask_10 rfl ?_
  refine hg_iconst (pc' := 12) cx 0 dX3_ask_11 (by decide) rfl ?_
  refine pf_X3_65 (pc' := 15) cx (by first | assumption | omega | decide) (by first | assumption | omega | decide) dX3_ask_12 rfl ?_
  refine hg_iconst (pc' := 16) cx (nI 0) dX3_ask_15 (by decide) rfl ?_
  refine hg_istore2 (pc' := 17) cx rfl dX3_ask_16 rfl ?_
  refine hg_drop3 ?_
  refine hg_nm (fun μ hμ => ?_)
  refine hg_loop (α := hg_Mem × Nat) (I := fun z => z.2 ≤ n ∧ sp_ask σ z.1 t z.2 (sp_q (σ.1 t 0)) (σ.1 t 2) (σ.1 t 0)) (P := fun z => hg_G E p l e { frames := 3, cells := 0, slots := 0, locals := 65 } s m args below meth c 4 (MQ below (hg_Qc E (hg_pv (fun τ => sp_ask σ τ t n (sp_q (σ.1 t 0)) (σ.1 t 2) (σ.1 t 0)))) args s 0 0 (hg_AW E)) z.1 17 [some (.ref (hg_ad E t)), some (.int (sp_q (σ.1 t 0))), some (.int (nI z.2)), none] []) (fun z => n - z.2) ?_ (μ, 0) ?_
  rotate_left
  · subst hμ
    try dsimp only
    exact ⟨Nat.zero_le _, sp_ask.start ht1⟩
  clear hμ μ
  rintro ⟨τ, j⟩ hI ih_17
  try dsimp only at hI ih_17 ⊢
  have hjn := hI.1
  have hI3 : τ.1 t 3 = nI n := (hI.2.2.2.1 3 (by decide) (by decide)).trans hn
  have e2 := hI.2.2.2.1 2 (by decide) (by decide)
  have e0 := hI.2.2.2.1 0 (by decide) (by decide)
  refine hg_iload2 (pc' := 18) cx dX3_ask_17 rfl ?_
  refine hg_aload0 (pc' := 19) cx dX3_ask_18 rfl ?_
  refine gf_X3_28 (pc' := 22) cx (by first | assumption | omega | decide) (by first | assumption | omega | decide) dX3_ask_19 rfl ?_
  refine hg_icmp_ge (pc' := 25) cx 114 dX3_ask_22 (by decide) rfl (fun c_22 => ?_) (fun c_22 => ?_)
  ·
    have hj := hg_ge hI3 (by omega) (by omega) c_22
    refine hg_vret cx dX3_ask_114 ⟨rfl, ?_⟩
    obtain rfl : j = n := by omega
    exact hI.2
  ·
    have hj := hg_nge hI3 (by omega) (by omega) c_22
    refine hg_aload0 (pc' := 26) cx dX3_ask_25 rfl ?_
    refine gf_X3_17 (pc' := 29) cx (by first | assumption | omega | decide) (by first | assumption | omega | decide) dX3_ask_26 rfl ?_
    refine hg_iload2 (pc' := 30) cx dX3_ask_29 rfl ?_
    refine hg_seat (pc' := 31) cx ht1 ht2 (by omega) dX3_ask_30 rfl ?_
    refine hg_astore3 (pc' := 32) cx rfl dX3_ask_31 rfl ?_
    refine hg_aload3 (pc' := 33) cx dX3_ask_32 rfl ?_
    refine hg_aload3 (pc' := 34) cx dX3_ask_33 rfl ?_
    refine gf_X3_43 (pc' := 37) cx (by first | assumption | omega | decide) (by first | assumption | omega | decide) dX3_ask_34 rfl ?_
    refine hg_if_ne (pc' := 40) cx 44 dX3_ask_37 (by decide) rfl (fun c_37 => ?_) (fun c_37 => ?_)
    ·
      refine hg_aload3 (pc' := 45) cx dX3_ask_44 rfl ?_
      refine hg_iload1 (pc' := 46) cx dX3_ask_45 rfl ?_
      refine hg_aload0 (pc' := 47) cx dX3_ask_46 rfl ?_
      refine gf_X3_25 (pc' := 50) cx (by first | assumption | omega | decide) (by first | assumption | omega | decide) dX3_ask_47 rfl ?_
      refine cv_X3_58 (pc' := 53) cx (by first | assumption | omega | decide) (by first | assumption | omega | decide) (K_X1_answer l E _ _ (by first | assumption | omega | decide) (by first | assumption | omega | decide) _ _) ⟨rfl, rfl, Nat.le_of_ble_eq_true rfl, Nat.le_of_ble_eq_true rfl⟩ (Nat.le_of_ble_eq_true rfl) dX3_ask_50 rfl (fun r_50 τ_50 h_50 => ?_)
      obtain ⟨rfl, rfl⟩ := h_50
      first | rw [show sp_says (τ.1 (10 + 10 * t + j)) (sp_q (σ.1 t 0)) (τ.1 t 2) = sp_said (τ.1 (10 + 10 * t + j)) (sp_q (σ.1 t 0)) (σ.1 t 2) from by rw [sp_said, if_neg c_37, e2]] | rw [show (-1 : Int32) = sp_said (τ.1 (10 + 10 * t + j)) (sp_q (σ.1 t 0)) (σ.1 t 2) from by rw [sp_said, if_pos c_37]]
      refine pf_X3_68 (pc' := 56) cx (by first | assumption | omega | decide) (by first | assumption | omega | decide) dX3_ask_53 rfl ?_
      obtain ⟨ρ, hρ⟩ : ∃ ρ, ρ = hg_sI τ (10 + 10 * t + j) 6 (sp_said (τ.1 (10 + 10 * t + j)) (sp_q (σ.1 t 0)) (σ.1 t 2)) := ⟨_, rfl⟩
      rw [← hρ]
      have hd : ρ.1 (10 + 10 * t + j) = va_up (τ.1 (10 + 10 * t + j)) 6 (sp_said (τ.1 (10 + 10 * t + j)) (sp_q (σ.1 t 0)) (σ.1 t 2)) := by rw [hρ, hg_sI_eq, hg_sH_at]
      have hw : sp_Ag (ρ.1 (10 + 10 * t + j)) (τ.1 (10 + 10 * t + j)) := by rw [hd]; exact sp_Ag.upL (fun _ _ => rfl) (by decide) _
      have htt : ρ.1 t = τ.1 t := by rw [hρ, hg_sI_eq, hg_sH_ne _ _ (by omega)]
      have ho : ∀ i, i ≠ (10 + 10 * t + j) → ρ.1 i = τ.1 i := fun i hi => by rw [hρ, hg_sI_eq, hg_sH_ne _ _ hi]
      have h2r : ρ.2 = τ.2 := by rw [hρ]; rfl
      have hdt : (10 + 10 * t + j) ≠ t := by omega
      refine hg_aload3 (pc' := 57) cx dX3_ask_56 rfl ?_
      refine gf_X3_68 (pc' := 60) cx (by first | assumption | omega | decide) (by first | assumption | omega | decide) dX3_ask_57 rfl ?_
      refine hg_iconst (pc' := 61) cx 1 dX3_ask_60 (by decide) rfl ?_
      refine hg_icmp_ne (pc' := 64) cx 84 dX3_ask_61 (by decide) rfl (fun c_61 => ?_) (fun c_61 => ?_)
      ·
        refine hg_aload3 (pc' := 85) cx dX3_ask_84 rfl ?_
        refine gf_X3_68 (pc' := 88) cx (by first | assumption | omega | decide) (by first | assumption | omega | decide) dX3_ask_85 rfl ?_
        refine hg_if_ne (pc' := 91) cx 108 dX3_ask_88 (by decide) rfl (fun c_88 => ?_) (fun c_88 => ?_)
        ·
          refine hg_iinc2p (pc' := 111) cx rfl dX3_ask_108 rfl ?_
          refine hg_goto cx 17 dX3_ask_111 (by decide) ?_
          refine hg_drop3 ?_
          rw [nI_1]
          refine hg_nm (fun μ hμ => ?_)
          refine ih_17 (μ, _) ?_ ?_
          · subst hμ
            try dsimp only
            rw [hd, va_upE] at c_61
            refine ⟨hj, hI.2.step ?_ (by omega) ?_ ?_ ?_ ?_ ?_⟩
            · first | exact h2r | (rw [hg_sI_eq, hg_sH_2]; exact h2r)
            · intro i a b
              first | exact ho i b | (rw [hg_sI_eq, hg_sH_ne _ _ a]; exact ho i b)
            · intro k a b
              first | (rw [hg_sI_eq, hg_sH_at, va_upN _ _ a, htt]; done) | (rw [hg_sI_eq, hg_sH_at, va_upN _ _ b, htt]; done) | rw [htt]
            · first | exact hd | rw [hg_sI_eq, hg_sH_ne _ _ hdt, hd]
            · first | (rw [if_pos c_61, hg_sI_eq, hg_sH_at, va_upE, htt, hw.weighs, e0]; done) | (rw [if_neg c_61, hg_sI_eq, hg_sH_at, va_upN _ _ (by decide), htt]; done) | (rw [if_neg c_61, htt]; done)
            · first | (rw [if_neg (fun z => absurd (c_61.symm.trans z) (by decide)), hg_sI_eq, hg_sH_at, va_upN _ _ (by decide), htt]; done) | (rw [hd, va_upE] at c_88; rw [if_pos c_88, hg_sI_eq, hg_sH_at, va_upE, htt, hw.weighs, e0]; done) | (rw [hd, va_upE] at c_88; rw [if_neg c_88, htt]; done)
          · show n - (j + 1) < n - j
            omega
        ·
          refine hg_aload0 (pc' := 92) cx dX3_ask_91 rfl ?_
          refine hg_dup (pc' := 93) cx rfl dX3_ask_92 rfl ?_
          refine gf_X3_65 (pc' := 96) cx (by first | assumption | omega | decide) (by first | assumption | omega | decide) dX3_ask_93 rfl ?_
          refine hg_aload3 (pc' := 97) cx dX3_ask_96 rfl ?_
          refine hg_aload0 (pc' := 98) cx dX3_ask_97 rfl ?_
          refine gf_X3_22 (pc' := 101) cx (by first | assumption | omega | decide) (by first | assumption | omega | decide) dX3_ask_98 rfl ?_
          refine cv_X3_71 (pc' := 104) cx (by first | assumption | omega | decide) (by first | assumption | omega | decide) (K_X1_weight l E _ _ (by first | assumption | omega | decide) (by first | assumption | omega | decide) _) ⟨rfl, rfl, Nat.le_of_ble_eq_true rfl, Nat.le_of_ble_eq_true rfl⟩ (Nat.le_of_ble_eq_true rfl) dX3_ask_101 rfl (fun r_101 τ_101 h_101 => ?_)
          obtain ⟨rfl, rfl⟩ := h_101
          refine hg_iadd (pc' := 105) cx dX3_ask_104 rfl ?_
          refine pf_X3_65 (pc' := 108) cx (by first | assumption | omega | decide) (by first | assumption | omega | decide) dX3_ask_105 rfl ?_
          refine hg_iinc2p (pc' := 111) cx rfl dX3_ask_108 rfl ?_
          refine hg_goto cx 17 dX3_ask_111 (by decide) ?_
          refine hg_drop3 ?_
          rw [nI_1]
          refine hg_nm (fun μ hμ => ?_)
          refine ih_17 (μ, _) ?_ ?_
          · subst hμ
            try dsimp only
            rw [hd, va_upE] at c_61
            refine ⟨hj, hI.2.step ?_ (by omega) ?_ ?_ ?_ ?_ ?_⟩
            · first | exact h2r | (rw [hg_sI_eq, hg_sH_2]; exact h2r)
            · intro i a b
              first | exact ho i b | (rw [hg_sI_eq, hg_sH_ne _ _ a]; exact ho i b)
            · intro k a b
              first | (rw [hg_sI_eq, hg_sH_at, va_upN _ _ a, htt]; done) | (rw [hg_sI_eq, hg_sH_at, va_upN _ _ b, htt]; done) | rw [htt]
            · first | exact hd | rw [hg_sI_eq, hg_sH_ne _ _ hdt, hd]
            · first | (rw [if_pos c_61, hg_sI_eq, hg_sH_at, va_upE, htt, hw.weighs, e0]; done) | (rw [if_neg c_61, hg_sI_eq, hg_sH_at, va_upN _ _ (by decide), htt]; done) | (rw [if_neg c_61, htt]; done)
            · first | (rw [if_neg (fun z => absurd (c_61.symm.trans z) (by decide)), hg_sI_eq, hg_sH_at, va_upN _ _ (by decide), htt]; done) | (rw [hd, va_upE] at c_88; rw [if_pos c_88, hg_sI_eq, hg_sH_at, va_upE, htt, hw.weighs, e0]; done) | (rw [hd, va_upE] at c_88; rw [if_neg c_88, htt]; done)
          · show n - (j + 1) < n - j
            omega
      ·
        refine hg_aload0 (pc' := 65) cx dX3_ask_64 rfl ?_
        refine hg_dup (pc' := 66) cx rfl dX3_ask_65 rfl ?_
        refine gf_X3_62 (pc' := 69) cx (by first | assumption | omega | decide) (by first | assumption | omega | decide) dX3_ask_66 rfl ?_
        refine hg_aload3 (pc' := 70) cx dX3_ask_69 rfl ?_
        refine hg_aload0 (pc' := 71) cx dX3_ask_70 rfl ?_
        refine gf_X3_22 (pc' := 74) cx (by first | assumption | omega | decide) (by first | assumption | omega | decide) dX3_ask_71 rfl ?_
        refine cv_X3_71 (pc' := 77) cx (by first | assumption | omega | decide) (by first | assumption | omega | decide) (K_X1_weight l E _ _ (by first | assumption | omega | decide) (by first | assumption | omega | decide) _) ⟨rfl, rfl, Nat.le_of_ble_eq_true rfl, Nat.le_of_ble_eq_true rfl⟩ (Nat.le_of_ble_eq_true rfl) dX3_ask_74 rfl (fun r_74 τ_74 h_74 => ?_)
        obtain ⟨rfl, rfl⟩ := h_74
        refine hg_iadd (pc' := 78) cx dX3_ask_77 rfl ?_
        refine pf_X3_62 (pc' := 81) cx (by first | assumption | omega | decide) (by first | assumption | omega | decide) dX3_ask_78 rfl ?_
        refine hg_goto cx 108 dX3_ask_81 (by decide) ?_
        refine hg_iinc2p (pc' := 111) cx rfl dX3_ask_108 rfl ?_
        refine hg_goto cx 17 dX3_ask_111 (by decide) ?_
        refine hg_drop3 ?_
        rw [nI_1]
        refine hg_nm (fun μ hμ => ?_)
        refine ih_17 (μ, _) ?_ ?_
        · subst hμ
          try dsimp only
          rw [hd, va_upE] at c_61
          refine ⟨hj, hI.2.step ?_ (by omega) ?_ ?_ ?_ ?_ ?_⟩
          · first | exact h2r | (rw [hg_sI_eq, hg_sH_2]; exact h2r)
          · intro i a b
            first | exact ho i b | (rw [hg_sI_eq, hg_sH_ne _ _ a]; exact ho i b)
          · intro k a b
            first | (rw [hg_sI_eq, hg_sH_at, va_upN _ _ a, htt]; done) | (rw [hg_sI_eq, hg_sH_at, va_upN _ _ b, htt]; done) | rw [htt]
          · first | exact hd | rw [hg_sI_eq, hg_sH_ne _ _ hdt, hd]
          · first | (rw [if_pos c_61, hg_sI_eq, hg_sH_at, va_upE, htt, hw.weighs, e0]; done) | (rw [if_neg c_61, hg_sI_eq, hg_sH_at, va_upN _ _ (by decide), htt]; done) | (rw [if_neg c_61, htt]; done)
          · first | (rw [if_neg (fun z => absurd (c_61.symm.trans z) (by decide)), hg_sI_eq, hg_sH_at, va_upN _ _ (by decide), htt]; done) | (rw [hd, va_upE] at c_88; rw [if_pos c_88, hg_sI_eq, hg_sH_at, va_upE, htt, hw.weighs, e0]; done) | (rw [hd, va_upE] at c_88; rw [if_neg c_88, htt]; done)
        · show n - (j + 1) < n - j
          omega
    ·
      refine hg_iconst (pc' := 41) cx (-1) dX3_ask_40 (by decide) rfl ?_
      refine hg_goto cx 53 dX3_ask_41 (by decide) ?_
      first | rw [show sp_says (τ.1 (10 + 10 * t + j)) (sp_q (σ.1 t 0)) (τ.1 t 2) = sp_said (τ.1 (10 + 10 * t + j)) (sp_q (σ.1 t 0)) (σ.1 t 2) from by rw [sp_said, if_neg c_37, e2]] | rw [show (-1 : Int32) = sp_said (τ.1 (10 + 10 * t + j)) (sp_q (σ.1 t 0)) (σ.1 t 2) from by rw [sp_said, if_pos c_37]]
      refine pf_X3_68 (pc' := 56) cx (by first | assumption | omega | decide) (by first | assumption | omega | decide) dX3_ask_53 rfl ?_
      obtain ⟨ρ, hρ⟩ : ∃ ρ, ρ = hg_sI τ (10 + 10 * t + j) 6 (sp_said (τ.1 (10 + 10 * t + j)) (sp_q (σ.1 t 0)) (σ.1 t 2)) := ⟨_, rfl⟩
      rw [← hρ]
      have hd : ρ.1 (10 + 10 * t + j) = va_up (τ.1 (10 + 10 * t + j)) 6 (sp_said (τ.1 (10 + 10 * t + j)) (sp_q (σ.1 t 0)) (σ.1 t 2)) := by rw [hρ, hg_sI_eq, hg_sH_at]
      have hw : sp_Ag (ρ.1 (10 + 10 * t + j)) (τ.1 (10 + 10 * t + j)) := by rw [hd]; exact sp_Ag.upL (fun _ _ => rfl) (by decide) _
      have htt : ρ.1 t = τ.1 t := by rw [hρ, hg_sI_eq, hg_sH_ne _ _ (by omega)]
      have ho : ∀ i, i ≠ (10 + 10 * t + j) → ρ.1 i = τ.1 i := fun i hi => by rw [hρ, hg_sI_eq, hg_sH_ne _ _ hi]
      have h2r : ρ.2 = τ.2 := by rw [hρ]; rfl
      have hdt : (10 + 10 * t + j) ≠ t := by omega
      refine hg_aload3 (pc' := 57) cx dX3_ask_56 rfl ?_
      refine gf_X3_68 (pc' := 60) cx (by first | assumption | omega | decide) (by first | assumption | omega | decide) dX3_ask_57 rfl ?_
      refine hg_iconst (pc' := 61) cx 1 dX3_ask_60 (by decide) rfl ?_
      refine hg_icmp_ne (pc' := 64) cx 84 dX3_ask_61 (by decide) rfl (fun c_61 => ?_) (fun c_61 => ?_)
      ·
        refine hg_aload3 (pc' := 85) cx dX3_ask_84 rfl ?_
        refine gf_X3_68 (pc' := 88) cx (by first | assumption | omega | decide) (by first | assumption | omega | decide) dX3_ask_85 rfl ?_
        refine hg_if_ne (pc' := 91) cx 108 dX3_ask_88 (by decide) rfl (fun c_88 => ?_) (fun c_88 => ?_)
        ·
          refine hg_iinc2p (pc' := 111) cx rfl dX3_ask_108 rfl ?_
          refine hg_goto cx 17 dX3_ask_111 (by decide) ?_
          refine hg_drop3 ?_
          rw [nI_1]
          refine hg_nm (fun μ hμ => ?_)
          refine ih_17 (μ, _) ?_ ?_
          · subst hμ
            try dsimp only
            rw [hd, va_upE] at c_61
            refine ⟨hj, hI.2.step ?_ (by omega) ?_ ?_ ?_ ?_ ?_⟩
            · first | exact h2r | (rw [hg_sI_eq, hg_sH_2]; exact h2r)
            · intro i a b
              first | exact ho i b | (rw [hg_sI_eq, hg_sH_ne _ _ a]; exact ho i b)
            · intro k a b
              first | (rw [hg_sI_eq, hg_sH_at, va_upN _ _ a, htt]; done) | (rw [hg_sI_eq, hg_sH_at, va_upN _ _ b, htt]; done) | rw [htt]
            · first | exact hd | rw [hg_sI_eq, hg_sH_ne _ _ hdt, hd]
            · first | (rw [if_pos c_61, hg_sI_eq, hg_sH_at, va_upE, htt, hw.weighs, e0]; done) | (rw [if_neg c_61, hg_sI_eq, hg_sH_at, va_upN _ _ (by decide), htt]; done) | (rw [if_neg c_61, htt]; done)
            · first | (rw [if_neg (fun z => absurd (c_61.symm.trans z) (by decide)), hg_sI_eq, hg_sH_at, va_upN _ _ (by decide), htt]; done) | (rw [hd, va_upE] at c_88; rw [if_pos c_88, hg_sI_eq, hg_sH_at, va_upE, htt, hw.weighs, e0]; done) | (rw [hd, va_upE] at c_88; rw [if_neg c_88, htt]; done)
          · show n - (j + 1) < n - j
            omega
        ·
          refine hg_aload0 (pc' := 92) cx dX3_ask_91 rfl ?_
          refine hg_dup (pc' := 93) cx rfl dX3_ask_92 rfl ?_
          refine gf_X3_65 (pc' := 96) cx (by first | assumption | omega | decide) (by first | assumption | omega | decide) dX3_ask_93 rfl ?_
          refine hg_aload3 (pc' := 97) cx dX3_ask_96 rfl ?_
          refine hg_aload0 (pc' := 98) cx dX3_ask_97 rfl ?_
          refine gf_X3_22 (pc' := 101) cx (by first | assumption | omega | decide) (by first | assumption | omega | decide) dX3_ask_98 rfl ?_
          refine cv_X3_71 (pc' := 104) cx (by first | assumption | omega | decide) (by first | assumption | omega | decide) (K_X1_weight l E _ _ (by first | assumption | omega | decide) (by first | assumption | omega | decide) _) ⟨rfl, rfl, Nat.le_of_ble_eq_true rfl, Nat.le_of_ble_eq_true rfl⟩ (Nat.le_of_ble_eq_true rfl) dX3_ask_101 rfl (fun r_101 τ_101 h_101 => ?_)
          obtain ⟨rfl, rfl⟩ := h_101
          refine hg_iadd (pc' := 105) cx dX3_ask_104 rfl ?_
          refine pf_X3_65 (pc' := 108) cx (by first | assumption | omega | decide) (by first | assumption | omega | decide) dX3_ask_105 rfl ?_
          refine hg_iinc2p (pc' := 111) cx rfl dX3_ask_108 rfl ?_
          refine hg_goto cx 17 dX3_ask_111 (by decide) ?_
          refine hg_drop3 ?_
          rw [nI_1]
          refine hg_nm (fun μ hμ => ?_)
          refine ih_17 (μ, _) ?_ ?_
          · subst hμ
            try dsimp only
            rw [hd, va_upE] at c_61
            refine ⟨hj, hI.2.step ?_ (by omega) ?_ ?_ ?_ ?_ ?_⟩
            · first | exact h2r | (rw [hg_sI_eq, hg_sH_2]; exact h2r)
            · intro i a b
              first | exact ho i b | (rw [hg_sI_eq, hg_sH_ne _ _ a]; exact ho i b)
            · intro k a b
              first | (rw [hg_sI_eq, hg_sH_at, va_upN _ _ a, htt]; done) | (rw [hg_sI_eq, hg_sH_at, va_upN _ _ b, htt]; done) | rw [htt]
            · first | exact hd | rw [hg_sI_eq, hg_sH_ne _ _ hdt, hd]
            · first | (rw [if_pos c_61, hg_sI_eq, hg_sH_at, va_upE, htt, hw.weighs, e0]; done) | (rw [if_neg c_61, hg_sI_eq, hg_sH_at, va_upN _ _ (by decide), htt]; done) | (rw [if_neg c_61, htt]; done)
            · first | (rw [if_neg (fun z => absurd (c_61.symm.trans z) (by decide)), hg_sI_eq, hg_sH_at, va_upN _ _ (by decide), htt]; done) | (rw [hd, va_upE] at c_88; rw [if_pos c_88, hg_sI_eq, hg_sH_at, va_upE, htt, hw.weighs, e0]; done) | (rw [hd, va_upE] at c_88; rw [if_neg c_88, htt]; done)
          · show n - (j + 1) < n - j
            omega
      ·
        refine hg_aload0 (pc' := 65) cx dX3_ask_64 rfl ?_
        refine hg_dup (pc' := 66) cx rfl dX3_ask_65 rfl ?_
        refine gf_X3_62 (pc' := 69) cx (by first | assumption | omega | decide) (by first | assumption | omega | decide) dX3_ask_66 rfl ?_
        refine hg_aload3 (pc' := 70) cx dX3_ask_69 rfl ?_
        refine hg_aload0 (pc' := 71) cx dX3_ask_70 rfl ?_
        refine gf_X3_22 (pc' := 74) cx (by first | assumption | omega | decide) (by first | assumption | omega | decide) dX3_ask_71 rfl ?_
        refine cv_X3_71 (pc' := 77) cx (by first | assumption | omega | decide) (by first | assumption | omega | decide) (K_X1_weight l E _ _ (by first | assumption | omega | decide) (by first | assumption | omega | decide) _) ⟨rfl, rfl, Nat.le_of_ble_eq_true rfl, Nat.le_of_ble_eq_true rfl⟩ (Nat.le_of_ble_eq_true rfl) dX3_ask_74 rfl (fun r_74 τ_74 h_74 => ?_)
        obtain ⟨rfl, rfl⟩ := h_74
        refine hg_iadd (pc' := 78) cx dX3_ask_77 rfl ?_
        refine pf_X3_62 (pc' := 81) cx (by first | assumption | omega | decide) (by first | assumption | omega | decide) dX3_ask_78 rfl ?_
        refine hg_goto cx 108 dX3_ask_81 (by decide) ?_
        refine hg_iinc2p (pc' := 111) cx rfl dX3_ask_108 rfl ?_
        refine hg_goto cx 17 dX3_ask_111 (by decide) ?_
        refine hg_drop3 ?_
        rw [nI_1]
        refine hg_nm (fun μ hμ => ?_)
        refine ih_17 (μ, _) ?_ ?_
        · subst hμ
          try dsimp only
          rw [hd, va_upE] at c_61
          refine ⟨hj, hI.2.step ?_ (by omega) ?_ ?_ ?_ ?_ ?_⟩
          · first | exact h2r | (rw [hg_sI_eq, hg_sH_2]; exact h2r)
          · intro i a b
            first | exact ho i b | (rw [hg_sI_eq, hg_sH_ne _ _ a]; exact ho i b)
          · intro k a b
            first | (rw [hg_sI_eq, hg_sH_at, va_upN _ _ a, htt]; done) | (rw [hg_sI_eq, hg_sH_at, va_upN _ _ b, htt]; done) | rw [htt]
          · first | exact hd | rw [hg_sI_eq, hg_sH_ne _ _ hdt, hd]
          · first | (rw [if_pos c_61, hg_sI_eq, hg_sH_at, va_upE, htt, hw.weighs, e0]; done) | (rw [if_neg c_61, hg_sI_eq, hg_sH_at, va_upN _ _ (by decide), htt]; done) | (rw [if_neg c_61, htt]; done)
          · first | (rw [if_neg (fun z => absurd (c_61.symm.trans z) (by decide)), hg_sI_eq, hg_sH_at, va_upN _ _ (by decide), htt]; done) | (rw [hd, va_upE] at c_88; rw [if_pos c_88, hg_sI_eq, hg_sH_at, va_upE, htt, hw.weighs, e0]; done) | (rw [hd, va_upE] at c_88; rw [if_neg c_88, htt]; done)
        · show n - (j + 1) < n - j
          omega
set_option maxHeartbeats 4000000 in
set_option maxRecDepth 100000 in
theorem K_X3_go (l : Launch) (E : hg_Wd) (σ : hg_Mem) (t : Nat) (ht1 : 1 ≤ t) (ht2 : t < 4) (n : Nat) (hn10 : n ≤ 10) (hn : σ.1 t 3 = nI n) (N : Nat) (hN : N ≤ 1000) (C : sp_C) (hR : sp_Rep σ t C n) : hg_C l E yX3_go cX3_go 5 none { frames := 4, cells := 0, slots := 0, locals := 88 } [.ref (hg_ad E t), .int (nI N)] σ (hg_pv (fun τ => sp_Rep τ t (sp_go C n N) n ∧ sp_Fr σ τ t)) := by
  refine hg_intro (by decide) [some (.ref (hg_ad E t)), some (.int (nI N)), none, none, none] rfl (Nat.le_of_ble_eq_true rfl) ?_
  intro p e s m args below meth c cx
  have cx : hg_Cx E p s m args meth c cX3_go 5 RX3 none := cx
  refine hg_iconst (pc' := 1) cx (nI 0) dX3_go_0 (by decide) rfl ?_
  refine hg_istore2 (pc' := 2) cx rfl dX3_go_1 rfl ?_
  refine hg_drop3 ?_
  refine hg_drop4 ?_
  refine hg_nm (fun μ hμ => ?_)
  refine hg_loop (α := hg_Mem × Nat) (I := fun z => z.2 ≤ N ∧ sp_Rep z.1 t (sp_go C n z.2) n ∧ sp_Fr σ z.1 t) (P := fun z => hg_G E p l e { frames := 4, cells := 0, slots := 0, locals := 88 } s m args below meth c 5 (MQ below (hg_Qc E (hg_pv (fun τ => sp_Rep τ t (sp_go C n N) n ∧ sp_Fr σ τ t))) args s 0 0 (hg_AW E)) z.1 2 [some (.ref (hg_ad E t)), some (.int (nI N)), some (.int (nI z.2)), none, none] []) (fun z => N - z.2) ?_ (μ, 0) ?_
  rotate_left
  · subst hμ
    try dsimp only
    exact ⟨Nat.zero_le _, hR, sp_Fr.rf _ _⟩
  clear hμ μ
  rintro ⟨τ, j⟩ hI ih_2
  try dsimp only at hI ih_2 ⊢
  have hjN := hI.1
  have hn3 : τ.1 t 3 = nI n := (hI.2.1.2.2.1 3 (by decide)).trans hI.2.1.2.1
  refine hg_iload2 (pc' := 3) cx dX3_go_2 rfl ?_
  refine hg_iload1 (pc' := 4) cx dX3_go_3 rfl ?_
  refine hg_icmp_ge (pc' := 7) cx 83 dX3_go_4 (by decide) rfl (fun c_4 => ?_) (fun c_4 => ?_)
  ·
    have hj := hg_ge (rfl : nI N = nI N) (by omega) (by omega) c_4
    refine hg_vret cx dX3_go_83 ⟨rfl, ?_⟩
    obtain rfl : j = N := by omega
    exact hI.2
  ·
    have hj := hg_nge (rfl : nI N = nI N) (by omega) (by omega) c_4
    have hnt := hn3
    clear hn3
    refine hg_aload0 (pc' := 8) cx dX3_go_7 rfl ?_
    refine cv_X3_54 (pc' := 11) cx (by first | assumption | omega | decide) (by first | assumption | omega | decide) (K_X3_question l E _ _ (by first | assumption | omega | decide) (by first | assumption | omega | decide)) ⟨rfl, rfl, Nat.le_of_ble_eq_true rfl, Nat.le_of_ble_eq_true rfl⟩ (Nat.le_of_ble_eq_true rfl) dX3_go_8 rfl (fun r_8 τ_8 h_8 => ?_)
    obtain ⟨rfl, rfl⟩ := h_8
    refine hg_istore3 (pc' := 12) cx rfl dX3_go_11 rfl ?_
    refine hg_aload0 (pc' := 13) cx dX3_go_12 rfl ?_
    refine cv_X3_77 (pc' := 16) cx (by first | assumption | omega | decide) (by first | assumption | omega | decide) (K_X3_ask l E _ t ht1 ht2 n hn10 hnt) ⟨rfl, rfl, Nat.le_of_ble_eq_true rfl, Nat.le_of_ble_eq_true rfl⟩ (Nat.le_of_ble_eq_true rfl) dX3_go_13 rfl (fun τ_13 h_13 => ?_)
    skip
    have hn0 : sp_q (τ_13.1 t 0) = sp_q (τ.1 t 0) := by rw [h_13.2.2.1 0 (by decide) (by decide)]
    refine hg_aload0 (pc' := 17) cx dX3_go_16 rfl ?_
    refine hg_aload0 (pc' := 18) cx dX3_go_17 rfl ?_
    refine gf_X3_25 (pc' := 21) cx (by first | assumption | omega | decide) (by first | assumption | omega | decide) dX3_go_18 rfl ?_
    refine hg_iconst (pc' := 22) cx 1 dX3_go_21 (by decide) rfl ?_
    refine hg_iload3 (pc' := 23) cx dX3_go_22 rfl ?_
    refine hg_ishl (pc' := 24) cx dX3_go_23 rfl ?_
    refine hg_iconst (pc' := 25) cx (-1) dX3_go_24 (by decide) rfl ?_
    refine hg_ixor (pc' := 26) cx dX3_go_25 rfl ?_
    refine hg_iand (pc' := 27) cx dX3_go_26 rfl ?_
    refine hg_aload0 (pc' := 28) cx dX3_go_27 rfl ?_
    refine cv_X3_80 (pc' := 31) cx (by first | assumption | omega | decide) (by first | assumption | omega | decide) (K_X3_verdict l E _ _ (by first | assumption | omega | decide) (by first | assumption | omega | decide)) ⟨rfl, rfl, Nat.le_of_ble_eq_true rfl, Nat.le_of_ble_eq_true rfl⟩ (Nat.le_of_ble_eq_true rfl) dX3_go_28 rfl (fun r_28 τ_28 h_28 => ?_)
    obtain ⟨rfl, rfl⟩ := h_28
    refine hg_iload3 (pc' := 32) cx dX3_go_31 rfl ?_
    refine hg_ishl (pc' := 33) cx dX3_go_32 rfl ?_
    refine hg_ior (pc' := 34) cx dX3_go_33 rfl ?_
    refine pf_X3_25 (pc' := 37) cx (by first | assumption | omega | decide) (by first | assumption | omega | decide) dX3_go_34 rfl ?_
    refine hg_iconst (pc' := 38) cx (nI 0) dX3_go_37 (by decide) rfl ?_
    refine hg_istore4 (pc' := 40) cx rfl dX3_go_38 rfl ?_
    refine hg_nm (fun μ hμ => ?_)
    refine hg_loop (α := hg_Mem × Nat) (I := fun z => z.2 ≤ n ∧ z.1.2 = τ_13.2 ∧ z.1.1 t = va_up (τ_13.1 t) 2 (sp_heldN (τ_13.1 t 2) (sp_q (τ.1 t 0)) (τ_13.1 t 5) (τ_13.1 t 6)) ∧ (∀ x, x ≠ t → (x < 10 + 10 * t ∨ 10 + 10 * t + z.2 ≤ x) → z.1.1 x = τ_13.1 x) ∧ ∀ h, h < z.2 → z.1.1 (10 + 10 * t + h) = sp_judge (τ_13.1 (10 + 10 * t + h)) (τ.1 t 0) (sp_q (τ.1 t 0)) (τ.1 t 1)) (P := fun z => hg_G E p l e { frames := 4, cells := 0, slots := 0, locals := 88 } s m args below meth c 5 (MQ below (hg_Qc E (hg_pv (fun τ => sp_Rep τ t (sp_go C n N) n ∧ sp_Fr σ τ t))) args s 0 0 (hg_AW E)) z.1 40 [some (.ref (hg_ad E t)), some (.int (nI N)), some (.int (nI j)), some (.int (sp_q (τ.1 t 0))), some (.int (nI z.2))] []) (fun z => n - z.2) ?_ (μ, 0) ?_
    rotate_left
    · subst hμ
      try dsimp only
      rw [hn0] 
      exact ⟨Nat.zero_le _, rfl, hg_sH_at _ _ _, fun x hx _ => hg_sH_ne _ _ hx, fun h hh => absurd hh (Nat.not_lt_zero h)⟩
    clear hμ μ
    rintro ⟨ρ, i⟩ hI ih_40
    try dsimp only at hI ih_40 ⊢
    have hJ := hI
    have hin := hJ.1
    clear hI
    rename_i hI
    have hn3 : ρ.1 t 3 = nI n := by rw [hJ.2.2.1, va_upN _ _ (by decide), h_13.2.2.1 3 (by decide) (by decide)]; exact hnt
    have er0 : ρ.1 t 0 = τ.1 t 0 := by rw [hJ.2.2.1, va_upN _ _ (by decide), h_13.2.2.1 0 (by decide) (by decide)]
    have er1 : ρ.1 t 1 = τ.1 t 1 := by rw [hJ.2.2.1, va_upN _ _ (by decide), h_13.2.2.1 1 (by decide) (by decide)]
    refine hg_iload4 (pc' := 42) cx dX3_go_40 rfl ?_
    refine hg_aload0 (pc' := 43) cx dX3_go_42 rfl ?_
    refine gf_X3_28 (pc' := 46) cx (by first | assumption | omega | decide) (by first | assumption | omega | decide) dX3_go_43 rfl ?_
    refine hg_icmp_ge (pc' := 49) cx 67 dX3_go_46 (by decide) rfl (fun c_46 => ?_) (fun c_46 => ?_)
    ·
      have hj2 := hg_ge hn3 (by omega) (by omega) c_46
      refine hg_aload0 (pc' := 68) cx dX3_go_67 rfl ?_
      refine hg_dup (pc' := 69) cx rfl dX3_go_68 rfl ?_
      refine gf_X3_22 (pc' := 72) cx (by first | assumption | omega | decide) (by first | assumption | omega | decide) dX3_go_69 rfl ?_
      refine hg_iconst (pc' := 73) cx 1 dX3_go_72 (by decide) rfl ?_
      refine hg_iadd (pc' := 74) cx dX3_go_73 rfl ?_
      refine pf_X3_22 (pc' := 77) cx (by first | assumption | omega | decide) (by first | assumption | omega | decide) dX3_go_74 rfl ?_
      refine hg_iinc2p (pc' := 80) cx rfl dX3_go_77 rfl ?_
      refine hg_goto cx 2 dX3_go_80 (by decide) ?_
      refine hg_drop3 ?_
      refine hg_drop4 ?_
      rw [nI_1]
      refine hg_nm (fun μ hμ => ?_)
      refine ih_2 (μ, _) ?_ ?_
      · subst hμ
        try dsimp only
        have hin2 : i = n := by omega
        rw [hin2] at hJ
        have hg := hI.2.1.go1 ht1 h_13 (ρ := ρ) rfl hJ.2.1 hJ.2.2.1 hJ.2.2.2.1 hJ.2.2.2.2
        exact ⟨hj, hg.1, hI.2.2.tr hg.2⟩
      · show N - (j + 1) < N - j
        omega
    ·
      have hj2 := hg_nge hn3 (by omega) (by omega) c_46
      refine hg_aload0 (pc' := 50) cx dX3_go_49 rfl ?_
      refine hg_aload0 (pc' := 51) cx dX3_go_50 rfl ?_
      refine gf_X3_17 (pc' := 54) cx (by first | assumption | omega | decide) (by first | assumption | omega | decide) dX3_go_51 rfl ?_
      refine hg_iload4 (pc' := 56) cx dX3_go_54 rfl ?_
      refine hg_seat (pc' := 57) cx ht1 ht2 (by omega) dX3_go_56 rfl ?_
      refine hg_iload3 (pc' := 58) cx dX3_go_57 rfl ?_
      refine cv_X3_83 (pc' := 61) cx (by first | assumption | omega | decide) (by first | assumption | omega | decide) (K_X3_judge l E _ t ht1 ht2 (10 + 10 * t + i) (by omega) (by omega) _) ⟨rfl, rfl, Nat.le_of_ble_eq_true rfl, Nat.le_of_ble_eq_true rfl⟩ (Nat.le_of_ble_eq_true rfl) dX3_go_58 rfl (fun τ_58 h_58 => ?_)
      obtain rfl := h_58
      refine hg_iinc4p (pc' := 64) cx rfl dX3_go_61 rfl ?_
      refine hg_goto cx 40 dX3_go_64 (by decide) ?_
      rw [nI_1]
      refine hg_nm (fun μ hμ => ?_)
      refine ih_40 (μ, _) ?_ ?_
      · subst hμ
        try dsimp only
        have hdd : ρ.1 (10 + 10 * t + i) = τ_13.1 (10 + 10 * t + i) := hJ.2.2.2.1 _ (by omega) (by omega)
        refine ⟨hj2, hJ.2.1, ?_, fun x h1 h2 => ?_, fun h hh => ?_⟩
        · rw [hg_sH_ne _ _ (by omega)]; exact hJ.2.2.1
        · rw [hg_sH_ne _ _ (by omega)]; exact hJ.2.2.2.1 x h1 (by omega)
        · by_cases c : h = i
          · rw [c, hg_sH_at, hdd, er0, er1]
          · rw [hg_sH_ne _ _ (by omega)]; exact hJ.2.2.2.2 h (by omega)
      · show n - (i + 1) < n - i
        omega
