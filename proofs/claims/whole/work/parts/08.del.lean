set_option maxHeartbeats 4000000 in
set_option maxRecDepth 100000 in
theorem K_X5_bit (l : Launch) (E : hg_Wd) (σ : hg_Mem) (v : Int32) (q : Int32) : hg_C l E yX5_bit cX5_bit 2 (some .int) { frames := 0, cells := 0, slots := 0, locals := 0 } [.int v, .int q] σ (hg_pi (fun r τ => r = sp_bit v q ∧ σ = τ)) := by
  refine hg_intro (by decide) [some (.int v), some (.int q)] rfl (Nat.le_of_ble_eq_true rfl) ?_
  intro p e s m args below meth c cx
  have cx : hg_Cx E p s m args meth c cX5_bit 2 RX5 (some .int) := cx
  refine hg_iload0 (pc' := 1) cx dX5_bit_0 rfl ?_
  refine hg_iload1 (pc' := 2) cx dX5_bit_1 rfl ?_
  refine hg_ishr (pc' := 3) cx dX5_bit_2 rfl ?_
  refine hg_iconst (pc' := 4) cx 1 dX5_bit_3 (by decide) rfl ?_
  refine hg_iand (pc' := 5) cx dX5_bit_4 rfl ?_
  refine hg_iret cx dX5_bit_5 ⟨_, rfl, ?_⟩
  exact ⟨by first | rfl | (simp [sp_bit, and_self]; done) | (simp (decide := true) only [sp_bit, and_self, ↓reduceIte, and_true, true_and, and_false, false_and, or_false, false_or, true_or, or_true]; done) | (simp only [sp_bit]; grind) | (simp_all [sp_bit]; done), rfl⟩
set_option maxHeartbeats 4000000 in
set_option maxRecDepth 100000 in
theorem K_X5_outside (l : Launch) (E : hg_Wd) (σ : hg_Mem) (v : Int32) (a : Int32) (b : Int32) : hg_C l E yX5_outside cX5_outside 3 (some .boolean) { frames := 0, cells := 0, slots := 0, locals := 0 } [.int v, .int a, .int b] σ (hg_pi (fun r τ => r = sp_out v a b ∧ σ = τ)) := by
  refine hg_intro (by decide) [some (.int v), some (.int a), some (.int b)] rfl (Nat.le_of_ble_eq_true rfl) ?_
  intro p e s m args below meth c cx
  have cx : hg_Cx E p s m args meth c cX5_outside 3 RX5 (some .boolean) := cx
  refine hg_iload0 (pc' := 1) cx dX5_outside_0 rfl ?_
  refine hg_iload1 (pc' := 2) cx dX5_outside_1 rfl ?_
  refine hg_icmp_lt (pc' := 5) cx 10 dX5_outside_2 (by decide) rfl (fun c_2 => ?_) (fun c_2 => ?_)
  ·
    refine hg_iconst (pc' := 11) cx 1 dX5_outside_10 (by decide) rfl ?_
    refine hg_goto cx 15 dX5_outside_11 (by decide) ?_
    refine hg_zret cx rfl dX5_outside_15 ⟨_, rfl, ?_⟩
    exact ⟨by first | rfl | (simp [sp_out, c_2]; done) | (simp (decide := true) only [sp_out, c_2, ↓reduceIte, and_true, true_and, and_false, false_and, or_false, false_or, true_or, or_true]; done) | (simp only [sp_out]; grind) | (simp_all [sp_out]; done), rfl⟩
  ·
    refine hg_iload0 (pc' := 6) cx dX5_outside_5 rfl ?_
    refine hg_iload2 (pc' := 7) cx dX5_outside_6 rfl ?_
    refine hg_icmp_le (pc' := 10) cx 14 dX5_outside_7 (by decide) rfl (fun c_7 => ?_) (fun c_7 => ?_)
    ·
      refine hg_iconst (pc' := 15) cx 0 dX5_outside_14 (by decide) rfl ?_
      refine hg_zret cx rfl dX5_outside_15 ⟨_, rfl, ?_⟩
      exact ⟨by first | rfl | (simp [sp_out, c_2, c_7]; done) | (simp (decide := true) only [sp_out, c_2, c_7, ↓reduceIte, and_true, true_and, and_false, false_and, or_false, false_or, true_or, or_true]; done) | (simp only [sp_out]; grind) | (simp_all [sp_out]; done), rfl⟩
    ·
      refine hg_iconst (pc' := 11) cx 1 dX5_outside_10 (by decide) rfl ?_
      refine hg_goto cx 15 dX5_outside_11 (by decide) ?_
      refine hg_zret cx rfl dX5_outside_15 ⟨_, rfl, ?_⟩
      exact ⟨by first | rfl | (simp [sp_out, c_2, c_7]; done) | (simp (decide := true) only [sp_out, c_2, c_7, ↓reduceIte, and_true, true_and, and_false, false_and, or_false, false_or, true_or, or_true]; done) | (simp only [sp_out]; grind) | (simp_all [sp_out]; done), rfl⟩
set_option maxHeartbeats 4000000 in
set_option maxRecDepth 100000 in
theorem K_X1_answerAsBowler (l : Launch) (E : hg_Wd) (σ : hg_Mem) (i : Nat) (h1 : 20 ≤ i) (h2 : i < 50) (q : Int32) : hg_C l E yX1_answerAsBowler cX1_answerAsBowler 2 (some .int) { frames := 1, cells := 0, slots := 0, locals := 21 } [.ref (hg_ad E i), .int q] σ (hg_pi (fun r τ => r = sp_bowler (σ.1 i) q ∧ σ = τ)) := by
  refine hg_intro (by decide) [some (.ref (hg_ad E i)), some (.int q)] rfl (Nat.le_of_ble_eq_true rfl) ?_
  intro p e s m args below meth c cx
  have cx : hg_Cx E p s m args meth c cX1_answerAsBowler 2 RX1 (some .int) := cx
  refine hg_aload0 (pc' := 1) cx dX1_answerAsBowler_0 rfl ?_
  refine gf_X1_21 (pc' := 4) cx (by first | assumption | omega | decide) (by first | assumption | omega | decide) dX1_answerAsBowler_1 rfl ?_
  refine hg_aload0 (pc' := 5) cx dX1_answerAsBowler_4 rfl ?_
  refine gf_X1_18 (pc' := 8) cx (by first | assumption | omega | decide) (by first | assumption | omega | decide) dX1_answerAsBowler_5 rfl ?_
  refine hg_icmp_le (pc' := 11) cx 24 dX1_answerAsBowler_8 (by decide) rfl (fun c_8 => ?_) (fun c_8 => ?_)
  ·
    refine hg_aload0 (pc' := 25) cx dX1_answerAsBowler_24 rfl ?_
    refine gf_X1_15 (pc' := 28) cx (by first | assumption | omega | decide) (by first | assumption | omega | decide) dX1_answerAsBowler_25 rfl ?_
    refine hg_iload1 (pc' := 29) cx dX1_answerAsBowler_28 rfl ?_
    refine cs_X1_38 (pc' := 32) cx (K_X5_bit l E _ _ _) ⟨rfl, rfl, Nat.le_of_ble_eq_true rfl, Nat.le_of_ble_eq_true rfl⟩ (Nat.le_of_ble_eq_true rfl) dX1_answerAsBowler_29 rfl (fun r_29 τ_29 h_29 => ?_)
    obtain ⟨rfl, rfl⟩ := h_29
    refine hg_iret cx dX1_answerAsBowler_32 ⟨_, rfl, ?_⟩
    exact ⟨by first | rfl | (simp [sp_bowler, c_8]; done) | (simp (decide := true) only [sp_bowler, c_8, ↓reduceIte, and_true, true_and, and_false, false_and, or_false, false_or, true_or, or_true]; done) | (simp only [sp_bowler]; grind) | (simp_all [sp_bowler]; done), rfl⟩
  ·
    refine hg_iconst (pc' := 12) cx 1 dX1_answerAsBowler_11 (by decide) rfl ?_
    refine hg_aload0 (pc' := 13) cx dX1_answerAsBowler_12 rfl ?_
    refine gf_X1_15 (pc' := 16) cx (by first | assumption | omega | decide) (by first | assumption | omega | decide) dX1_answerAsBowler_13 rfl ?_
    refine hg_iload1 (pc' := 17) cx dX1_answerAsBowler_16 rfl ?_
    refine cs_X1_38 (pc' := 20) cx (K_X5_bit l E _ _ _) ⟨rfl, rfl, Nat.le_of_ble_eq_true rfl, Nat.le_of_ble_eq_true rfl⟩ (Nat.le_of_ble_eq_true rfl) dX1_answerAsBowler_17 rfl (fun r_17 τ_17 h_17 => ?_)
    obtain ⟨rfl, rfl⟩ := h_17
    refine hg_isub (pc' := 21) cx dX1_answerAsBowler_20 rfl ?_
    refine hg_goto cx 32 dX1_answerAsBowler_21 (by decide) ?_
    refine hg_iret cx dX1_answerAsBowler_32 ⟨_, rfl, ?_⟩
    exact ⟨by first | rfl | (simp [sp_bowler, c_8]; done) | (simp (decide := true) only [sp_bowler, c_8, ↓reduceIte, and_true, true_and, and_false, false_and, or_false, false_or, true_or, or_true]; done) | (simp only [sp_bowler]; grind) | (simp_all [sp_bowler]; done), rfl⟩
set_option maxHeartbeats 4000000 in
set_option maxRecDepth 100000 in
theorem K_X1_answerAsCap (l : Launch) (E : hg_Wd) (σ : hg_Mem) (i : Nat) (h1 : 20 ≤ i) (h2 : i < 50) (q : Int32) (held : Int32) : hg_C l E yX1_answerAsCap cX1_answerAsCap 3 (some .int) { frames := 1, cells := 0, slots := 0, locals := 21 } [.ref (hg_ad E i), .int q, .int held] σ (hg_pi (fun r τ => r = sp_cap (σ.1 i) q held ∧ σ = τ)) := by
  refine hg_intro (by decide) [some (.ref (hg_ad E i)), some (.int q), some (.int held)] rfl (Nat.le_of_ble_eq_true rfl) ?_
  intro p e s m args below meth c cx
  have cx : hg_Cx E p s m args meth c cX1_answerAsCap 3 RX1 (some .int) := cx
  refine hg_aload0 (pc' := 1) cx dX1_answerAsCap_0 rfl ?_
  refine gf_X1_24 (pc' := 4) cx (by first | assumption | omega | decide) (by first | assumption | omega | decide) dX1_answerAsCap_1 rfl ?_
  refine hg_bipush (pc' := 6) cx 30 dX1_answerAsCap_4 (by decide) rfl ?_
  refine hg_icmp_ge (pc' := 9) cx 13 dX1_answerAsCap_6 (by decide) rfl (fun c_6 => ?_) (fun c_6 => ?_)
  ·
    refine hg_aload0 (pc' := 14) cx dX1_answerAsCap_13 rfl ?_
    refine gf_X1_15 (pc' := 17) cx (by first | assumption | omega | decide) (by first | assumption | omega | decide) dX1_answerAsCap_14 rfl ?_
    refine hg_iload1 (pc' := 18) cx dX1_answerAsCap_17 rfl ?_
    refine cs_X1_38 (pc' := 21) cx (K_X5_bit l E _ _ _) ⟨rfl, rfl, Nat.le_of_ble_eq_true rfl, Nat.le_of_ble_eq_true rfl⟩ (Nat.le_of_ble_eq_true rfl) dX1_answerAsCap_18 rfl (fun r_18 τ_18 h_18 => ?_)
    obtain ⟨rfl, rfl⟩ := h_18
    refine hg_iret cx dX1_answerAsCap_21 ⟨_, rfl, ?_⟩
    exact ⟨by first | rfl | (simp [sp_cap, c_6]; done) | (simp (decide := true) only [sp_cap, c_6, ↓reduceIte, and_true, true_and, and_false, false_and, or_false, false_or, true_or, or_true]; done) | (simp only [sp_cap]; grind) | (simp_all [sp_cap]; done), rfl⟩
  ·
    refine hg_iload2 (pc' := 10) cx dX1_answerAsCap_9 rfl ?_
    refine hg_goto cx 17 dX1_answerAsCap_10 (by decide) ?_
    refine hg_iload1 (pc' := 18) cx dX1_answerAsCap_17 rfl ?_
    refine cs_X1_38 (pc' := 21) cx (K_X5_bit l E _ _ _) ⟨rfl, rfl, Nat.le_of_ble_eq_true rfl, Nat.le_of_ble_eq_true rfl⟩ (Nat.le_of_ble_eq_true rfl) dX1_answerAsCap_18 rfl (fun r_18 τ_18 h_18 => ?_)
    obtain ⟨rfl, rfl⟩ := h_18
    refine hg_iret cx dX1_answerAsCap_21 ⟨_, rfl, ?_⟩
    exact ⟨by first | rfl | (simp [sp_cap, c_6]; done) | (simp (decide := true) only [sp_cap, c_6, ↓reduceIte, and_true, true_and, and_false, false_and, or_false, false_or, true_or, or_true]; done) | (simp only [sp_cap]; grind) | (simp_all [sp_cap]; done), rfl⟩
set_option maxHeartbeats 4000000 in
set_option maxRecDepth 100000 in
theorem K_X1_answer (l : Launch) (E : hg_Wd) (σ : hg_Mem) (i : Nat) (h1 : 20 ≤ i) (h2 : i < 50) (q : Int32) (held : Int32) : hg_C l E yX1_answer cX1_answer 3 (some .int) { frames := 2, cells := 0, slots := 0, locals := 43 } [.ref (hg_ad E i), .int q, .int held] σ (hg_pi (fun r τ => r = sp_says (σ.1 i) q held ∧ σ = τ)) := by
  refine hg_intro (by decide) [some (.ref (hg_ad E i)), some (.int q), some (.int held)] rfl (Nat.le_of_ble_eq_true rfl) ?_
  intro p e s m args below meth c cx
  have cx : hg_Cx E p s m args meth c cX1_answer 3 RX1 (some .int) := cx
  refine hg_aload0 (pc' := 1) cx dX1_answer_0 rfl ?_
  refine gf_X1_9 (pc' := 4) cx (by first | assumption | omega | decide) (by first | assumption | omega | decide) dX1_answer_1 rfl ?_
  refine hg_tsw cx [1, 2, 3, 4, 5] [40, 46, 53, 81, 98] 115 dX1_answer_4 (by decide) (by decide) (fun c_4 => ?_) (fun i v t hk ht c_4 => ?_)
  ·
    simp only [List.mem_cons, List.not_mem_nil, or_false, forall_eq_or_imp, forall_eq] at c_4
    refine hg_aload0 (pc' := 116) cx dX1_answer_115 rfl ?_
    refine gf_X1_15 (pc' := 119) cx (by first | assumption | omega | decide) (by first | assumption | omega | decide) dX1_answer_116 rfl ?_
    refine hg_iload1 (pc' := 120) cx dX1_answer_119 rfl ?_
    refine cs_X1_38 (pc' := 123) cx (K_X5_bit l E _ _ _) ⟨rfl, rfl, Nat.le_of_ble_eq_true rfl, Nat.le_of_ble_eq_true rfl⟩ (Nat.le_of_ble_eq_true rfl) dX1_answer_120 rfl (fun r_120 τ_120 h_120 => ?_)
    obtain ⟨rfl, rfl⟩ := h_120
    refine hg_iret cx dX1_answer_123 ⟨_, rfl, ?_⟩
    exact ⟨by first | rfl | (simp [sp_says, c_4]; done) | (simp (decide := true) only [sp_says, c_4, ↓reduceIte, and_true, true_and, and_false, false_and, or_false, false_or, true_or, or_true]; done) | (simp only [sp_says]; grind) | (simp_all [sp_says]; done), rfl⟩
  ·
    match i, hk, ht with
    | 0, hk, ht =>
      cases hk; cases ht
      refine hg_aload0 (pc' := 41) cx dX1_answer_40 rfl ?_
      refine hg_iload1 (pc' := 42) cx dX1_answer_41 rfl ?_
      refine cv_X1_30 (pc' := 45) cx (by first | assumption | omega | decide) (by first | assumption | omega | decide) (K_X1_answerAsBowler l E _ _ (by first | assumption | omega | decide) (by first | assumption | omega | decide) _) ⟨rfl, rfl, Nat.le_of_ble_eq_true rfl, Nat.le_of_ble_eq_true rfl⟩ (Nat.le_of_ble_eq_true rfl) dX1_answer_42 rfl (fun r_42 τ_42 h_42 => ?_)
      obtain ⟨rfl, rfl⟩ := h_42
      refine hg_iret cx dX1_answer_45 ⟨_, rfl, ?_⟩
      exact ⟨by first | rfl | (simp [sp_says, c_4]; done) | (simp (decide := true) only [sp_says, c_4, ↓reduceIte, and_true, true_and, and_false, false_and, or_false, false_or, true_or, or_true]; done) | (simp only [sp_says]; grind) | (simp_all [sp_says]; done), rfl⟩
    | 1, hk, ht =>
      cases hk; cases ht
      refine hg_aload0 (pc' := 47) cx dX1_answer_46 rfl ?_
      refine hg_iload1 (pc' := 48) cx dX1_answer_47 rfl ?_
      refine hg_iload2 (pc' := 49) cx dX1_answer_48 rfl ?_
      refine cv_X1_34 (pc' := 52) cx (by first | assumption | omega | decide) (by first | assumption | omega | decide) (K_X1_answerAsCap l E _ _ (by first | assumption | omega | decide) (by first | assumption | omega | decide) _ _) ⟨rfl, rfl, Nat.le_of_ble_eq_true rfl, Nat.le_of_ble_eq_true rfl⟩ (Nat.le_of_ble_eq_true rfl) dX1_answer_49 rfl (fun r_49 τ_49 h_49 => ?_)
      obtain ⟨rfl, rfl⟩ := h_49
      refine hg_iret cx dX1_answer_52 ⟨_, rfl, ?_⟩
      exact ⟨by first | rfl | (simp [sp_says, c_4]; done) | (simp (decide := true) only [sp_says, c_4, ↓reduceIte, and_true, true_and, and_false, false_and, or_false, false_or, true_or, or_true]; done) | (simp only [sp_says]; grind) | (simp_all [sp_says]; done), rfl⟩
    | 2, hk, ht =>
      cases hk; cases ht
      refine hg_aload0 (pc' := 54) cx dX1_answer_53 rfl ?_
      refine gf_X1_21 (pc' := 57) cx (by first | assumption | omega | decide) (by first | assumption | omega | decide) dX1_answer_54 rfl ?_
      refine hg_if_ne (pc' := 60) cx 72 dX1_answer_57 (by decide) rfl (fun c_57 => ?_) (fun c_57 => ?_)
      ·
        refine hg_aload0 (pc' := 73) cx dX1_answer_72 rfl ?_
        refine gf_X1_15 (pc' := 76) cx (by first | assumption | omega | decide) (by first | assumption | omega | decide) dX1_answer_73 rfl ?_
        refine hg_iload1 (pc' := 77) cx dX1_answer_76 rfl ?_
        refine cs_X1_38 (pc' := 80) cx (K_X5_bit l E _ _ _) ⟨rfl, rfl, Nat.le_of_ble_eq_true rfl, Nat.le_of_ble_eq_true rfl⟩ (Nat.le_of_ble_eq_true rfl) dX1_answer_77 rfl (fun r_77 τ_77 h_77 => ?_)
        obtain ⟨rfl, rfl⟩ := h_77
        refine hg_iret cx dX1_answer_80 ⟨_, rfl, ?_⟩
        exact ⟨by first | rfl | (simp [sp_says, c_4, c_57]; done) | (simp (decide := true) only [sp_says, c_4, c_57, ↓reduceIte, and_true, true_and, and_false, false_and, or_false, false_or, true_or, or_true]; done) | (simp only [sp_says]; grind) | (simp_all [sp_says]; done), rfl⟩
      ·
        refine hg_aload0 (pc' := 61) cx dX1_answer_60 rfl ?_
        refine gf_X1_18 (pc' := 64) cx (by first | assumption | omega | decide) (by first | assumption | omega | decide) dX1_answer_61 rfl ?_
        refine hg_iconst (pc' := 65) cx 3 dX1_answer_64 (by decide) rfl ?_
        refine hg_icmp_ge (pc' := 68) cx 72 dX1_answer_65 (by decide) rfl (fun c_65 => ?_) (fun c_65 => ?_)
        ·
          refine hg_aload0 (pc' := 73) cx dX1_answer_72 rfl ?_
          refine gf_X1_15 (pc' := 76) cx (by first | assumption | omega | decide) (by first | assumption | omega | decide) dX1_answer_73 rfl ?_
          refine hg_iload1 (pc' := 77) cx dX1_answer_76 rfl ?_
          refine cs_X1_38 (pc' := 80) cx (K_X5_bit l E _ _ _) ⟨rfl, rfl, Nat.le_of_ble_eq_true rfl, Nat.le_of_ble_eq_true rfl⟩ (Nat.le_of_ble_eq_true rfl) dX1_answer_77 rfl (fun r_77 τ_77 h_77 => ?_)
          obtain ⟨rfl, rfl⟩ := h_77
          refine hg_iret cx dX1_answer_80 ⟨_, rfl, ?_⟩
          exact ⟨by first | rfl | (simp [sp_says, c_4, c_57, c_65]; done) | (simp (decide := true) only [sp_says, c_4, c_57, c_65, ↓reduceIte, and_true, true_and, and_false, false_and, or_false, false_or, true_or, or_true]; done) | (simp only [sp_says]; grind) | (simp_all [sp_says]; done), rfl⟩
        ·
          refine hg_iconst (pc' := 69) cx (-1) dX1_answer_68 (by decide) rfl ?_
          refine hg_goto cx 80 dX1_answer_69 (by decide) ?_
          refine hg_iret cx dX1_answer_80 ⟨_, rfl, ?_⟩
          exact ⟨by first | rfl | (simp [sp_says, c_4, c_57, c_65]; done) | (simp (decide := true) only [sp_says, c_4, c_57, c_65, ↓reduceIte, and_true, true_and, and_false, false_and, or_false, false_or, true_or, or_true]; done) | (simp only [sp_says]; grind) | (simp_all [sp_says]; done), rfl⟩
    | 3, hk, ht =>
      cases hk; cases ht
      refine hg_aload0 (pc' := 82) cx dX1_answer_81 rfl ?_
      refine gf_X1_24 (pc' := 85) cx (by first | assumption | omega | decide) (by first | assumption | omega | decide) dX1_answer_82 rfl ?_
      refine hg_if_ne (pc' := 88) cx 92 dX1_answer_85 (by decide) rfl (fun c_85 => ?_) (fun c_85 => ?_)
      ·
        refine hg_aload0 (pc' := 93) cx dX1_answer_92 rfl ?_
        refine hg_iload1 (pc' := 94) cx dX1_answer_93 rfl ?_
        refine cv_X1_30 (pc' := 97) cx (by first | assumption | omega | decide) (by first | assumption | omega | decide) (K_X1_answerAsBowler l E _ _ (by first | assumption | omega | decide) (by first | assumption | omega | decide) _) ⟨rfl, rfl, Nat.le_of_ble_eq_true rfl, Nat.le_of_ble_eq_true rfl⟩ (Nat.le_of_ble_eq_true rfl) dX1_answer_94 rfl (fun r_94 τ_94 h_94 => ?_)
        obtain ⟨rfl, rfl⟩ := h_94
        refine hg_iret cx dX1_answer_97 ⟨_, rfl, ?_⟩
        exact ⟨by first | rfl | (simp [sp_says, c_4, c_85]; done) | (simp (decide := true) only [sp_says, c_4, c_85, ↓reduceIte, and_true, true_and, and_false, false_and, or_false, false_or, true_or, or_true]; done) | (simp only [sp_says]; grind) | (simp_all [sp_says]; done), rfl⟩
      ·
        refine hg_iconst (pc' := 89) cx (-1) dX1_answer_88 (by decide) rfl ?_
        refine hg_goto cx 97 dX1_answer_89 (by decide) ?_
        refine hg_iret cx dX1_answer_97 ⟨_, rfl, ?_⟩
        exact ⟨by first | rfl | (simp [sp_says, c_4, c_85]; done) | (simp (decide := true) only [sp_says, c_4, c_85, ↓reduceIte, and_true, true_and, and_false, false_and, or_false, false_or, true_or, or_true]; done) | (simp only [sp_says]; grind) | (simp_all [sp_says]; done), rfl⟩
    | 4, hk, ht =>
      cases hk; cases ht
      refine hg_iload1 (pc' := 99) cx dX1_answer_98 rfl ?_
      refine hg_bipush (pc' := 101) cx 7 dX1_answer_99 (by decide) rfl ?_
      refine hg_icmp_ne (pc' := 104) cx 108 dX1_answer_101 (by decide) rfl (fun c_101 => ?_) (fun c_101 => ?_)
      ·
        refine hg_aload0 (pc' := 109) cx dX1_answer_108 rfl ?_
        refine hg_iload1 (pc' := 110) cx dX1_answer_109 rfl ?_
        refine hg_iload2 (pc' := 111) cx dX1_answer_110 rfl ?_
        refine cv_X1_34 (pc' := 114) cx (by first | assumption | omega | decide) (by first | assumption | omega | decide) (K_X1_answerAsCap l E _ _ (by first | assumption | omega | decide) (by first | assumption | omega | decide) _ _) ⟨rfl, rfl, Nat.le_of_ble_eq_true rfl, Nat.le_of_ble_eq_true rfl⟩ (Nat.le_of_ble_eq_true rfl) dX1_answer_111 rfl (fun r_111 τ_111 h_111 => ?_)
        obtain ⟨rfl, rfl⟩ := h_111
        refine hg_iret cx dX1_answer_114 ⟨_, rfl, ?_⟩
        exact ⟨by first | rfl | (simp [sp_says, c_4, c_101]; done) | (simp (decide := true) only [sp_says, c_4, c_101, ↓reduceIte, and_true, true_and, and_false, false_and, or_false, false_or, true_or, or_true]; done) | (simp only [sp_says]; grind) | (simp_all [sp_says]; done), rfl⟩
      ·
        refine hg_iconst (pc' := 105) cx 1 dX1_answer_104 (by decide) rfl ?_
        refine hg_goto cx 114 dX1_answer_105 (by decide) ?_
        refine hg_iret cx dX1_answer_114 ⟨_, rfl, ?_⟩
        exact ⟨by first | rfl | (simp [sp_says, c_4, c_101]; done) | (simp (decide := true) only [sp_says, c_4, c_101, ↓reduceIte, and_true, true_and, and_false, false_and, or_false, false_or, true_or, or_true]; done) | (simp only [sp_says]; grind) | (simp_all [sp_says]; done), rfl⟩
    | j + 5, hk, ht => exact absurd hk (by simp)
set_option maxHeartbeats 4000000 in
set_option maxRecDepth 100000 in
theorem K_X1_weight (l : Launch) (E : hg_Wd) (σ : hg_Mem) (i : Nat) (h1 : 20 ≤ i) (h2 : i < 50) (ses : Int32) : hg_C l E yX1_weight cX1_weight 2 (some .int) { frames := 0, cells := 0, slots := 0, locals := 0 } [.ref (hg_ad E i), .int ses] σ (hg_pi (fun r τ => r = sp_weighs (σ.1 i) ses ∧ σ = τ)) := by
  refine hg_intro (by decide) [some (.ref (hg_ad E i)), some (.int ses)] rfl (Nat.le_of_ble_eq_true rfl) ?_
  intro p e s m args below meth c cx
  have cx : hg_Cx E p s m args meth c cX1_weight 2 RX1 (some .int) := cx
  refine hg_aload0 (pc' := 1) cx dX1_weight_0 rfl ?_
  refine gf_X1_9 (pc' := 4) cx (by first | assumption | omega | decide) (by first | assumption | omega | decide) dX1_weight_1 rfl ?_
  refine hg_tsw cx [1, 2, 3, 4, 5] [40, 76, 50, 52, 64] 76 dX1_weight_4 (by decide) (by decide) (fun c_4 => ?_) (fun i v t hk ht c_4 => ?_)
  ·
    simp only [List.mem_cons, List.not_mem_nil, or_false, forall_eq_or_imp, forall_eq] at c_4
    refine hg_iconst (pc' := 77) cx 1 dX1_weight_76 (by decide) rfl ?_
    refine hg_iret cx dX1_weight_77 ⟨_, rfl, ?_⟩
    exact ⟨by first | rfl | (simp [sp_weighs, c_4]; done) | (simp (decide := true) only [sp_weighs, c_4, ↓reduceIte, and_true, true_and, and_false, false_and, or_false, false_or, true_or, or_true]; done) | (simp only [sp_weighs]; grind) | (simp_all [sp_weighs]; done), rfl⟩
  ·
    match i, hk, ht with
    | 0, hk, ht =>
      cases hk; cases ht
      refine hg_iconst (pc' := 41) cx 1 dX1_weight_40 (by decide) rfl ?_
      refine hg_aload0 (pc' := 42) cx dX1_weight_41 rfl ?_
      refine gf_X1_24 (pc' := 45) cx (by first | assumption | omega | decide) (by first | assumption | omega | decide) dX1_weight_42 rfl ?_
      refine hg_bipush (pc' := 47) cx 50 dX1_weight_45 (by decide) rfl ?_
      refine hg_idiv (pc' := 48) cx (by decide) dX1_weight_47 rfl ?_
      refine hg_iadd (pc' := 49) cx dX1_weight_48 rfl ?_
      refine hg_iret cx dX1_weight_49 ⟨_, rfl, ?_⟩
      exact ⟨by first | rfl | (simp [sp_weighs, c_4]; done) | (simp (decide := true) only [sp_weighs, c_4, ↓reduceIte, and_true, true_and, and_false, false_and, or_false, false_or, true_or, or_true]; done) | (simp only [sp_weighs]; grind) | (simp_all [sp_weighs]; done), rfl⟩
    | 1, hk, ht =>
      cases hk; cases ht
      refine hg_iconst (pc' := 77) cx 1 dX1_weight_76 (by decide) rfl ?_
      refine hg_iret cx dX1_weight_77 ⟨_, rfl, ?_⟩
      exact ⟨by first | rfl | (simp [sp_weighs, c_4]; done) | (simp (decide := true) only [sp_weighs, c_4, ↓reduceIte, and_true, true_and, and_false, false_and, or_false, false_or, true_or, or_true]; done) | (simp only [sp_weighs]; grind) | (simp_all [sp_weighs]; done), rfl⟩
    | 2, hk, ht =>
      cases hk; cases ht
      refine hg_iconst (pc' := 51) cx 3 dX1_weight_50 (by decide) rfl ?_
      refine hg_iret cx dX1_weight_51 ⟨_, rfl, ?_⟩
      exact ⟨by first | rfl | (simp [sp_weighs, c_4]; done) | (simp (decide := true) only [sp_weighs, c_4, ↓reduceIte, and_true, true_and, and_false, false_and, or_false, false_or, true_or, or_true]; done) | (simp only [sp_weighs]; grind) | (simp_all [sp_weighs]; done), rfl⟩
    | 3, hk, ht =>
      cases hk; cases ht
      refine hg_iconst (pc' := 53) cx 2 dX1_weight_52 (by decide) rfl ?_
      refine hg_iconst (pc' := 54) cx 1 dX1_weight_53 (by decide) rfl ?_
      refine hg_aload0 (pc' := 55) cx dX1_weight_54 rfl ?_
      refine gf_X1_24 (pc' := 58) cx (by first | assumption | omega | decide) (by first | assumption | omega | decide) dX1_weight_55 rfl ?_
      refine hg_bipush (pc' := 60) cx 50 dX1_weight_58 (by decide) rfl ?_
      refine hg_idiv (pc' := 61) cx (by decide) dX1_weight_60 rfl ?_
      refine hg_iadd (pc' := 62) cx dX1_weight_61 rfl ?_
      refine hg_imul (pc' := 63) cx dX1_weight_62 rfl ?_
      refine hg_iret cx dX1_weight_63 ⟨_, rfl, ?_⟩
      exact ⟨by first | rfl | (simp [sp_weighs, c_4]; done) | (simp (decide := true) only [sp_weighs, c_4, ↓reduceIte, and_true, true_and, and_false, false_and, or_false, false_or, true_or, or_true]; done) | (simp only [sp_weighs]; grind) | (simp_all [sp_weighs]; done), rfl⟩
    | 4, hk, ht =>
      cases hk; cases ht
      refine hg_iload1 (pc' := 65) cx dX1_weight_64 rfl ?_
      refine hg_iconst (pc' := 66) cx 3 dX1_weight_65 (by decide) rfl ?_
      refine hg_irem (pc' := 67) cx (by decide) dX1_weight_66 rfl ?_
      refine hg_if_ne (pc' := 70) cx 74 dX1_weight_67 (by decide) rfl (fun c_67 => ?_) (fun c_67 => ?_)
      ·
        refine hg_iconst (pc' := 75) cx 1 dX1_weight_74 (by decide) rfl ?_
        refine hg_iret cx dX1_weight_75 ⟨_, rfl, ?_⟩
        exact ⟨by first | rfl | (simp [sp_weighs, c_4, c_67]; done) | (simp (decide := true) only [sp_weighs, c_4, c_67, ↓reduceIte, and_true, true_and, and_false, false_and, or_false, false_or, true_or, or_true]; done) | (simp only [sp_weighs]; grind) | (simp_all [sp_weighs]; done), rfl⟩
      ·
        refine hg_iconst (pc' := 71) cx 2 dX1_weight_70 (by decide) rfl ?_
        refine hg_goto cx 75 dX1_weight_71 (by decide) ?_
        refine hg_iret cx dX1_weight_75 ⟨_, rfl, ?_⟩
        exact ⟨by first | rfl | (simp [sp_weighs, c_4, c_67]; done) | (simp (decide := true) only [sp_weighs, c_4, c_67, ↓reduceIte, and_true, true_and, and_false, false_and, or_false, false_or, true_or, or_true]; done) | (simp only [sp_weighs]; grind) | (simp_all [sp_weighs]; done), rfl⟩
    | j + 5, hk, ht => exact absurd hk (by simp)
set_option maxHeartbeats 4000000 in
set_option maxRecDepth 100000 in
theorem K_X1_isLearning (l : Launch) (E : hg_Wd) (σ : hg_Mem) (i : Nat) (h1 : 20 ≤ i) (h2 : i < 50) (ses : Int32) : hg_C l E yX1_isLearning cX1_isLearning 2 (some .boolean) { frames := 0, cells := 0, slots := 0, locals := 0 } [.ref (hg_ad E i), .int ses] σ (hg_pi (fun r τ => r = sp_learns (σ.1 i) ses ∧ σ = τ)) := by
  refine hg_intro (by decide) [some (.ref (hg_ad E i)), some (.int ses)] rfl (Nat.le_of_ble_eq_true rfl) ?_
  intro p e s m args below meth c cx
  have cx : hg_Cx E p s m args meth c cX1_isLearning 2 RX1 (some .boolean) := cx
  refine hg_aload0 (pc' := 1) cx dX1_isLearning_0 rfl ?_
  refine gf_X1_9 (pc' := 4) cx (by first | assumption | omega | decide) (by first | assumption | omega | decide) dX1_isLearning_1 rfl ?_
  refine hg_tsw cx [1, 2, 3, 4] [36, 52, 38, 40] 52 dX1_isLearning_4 (by decide) (by decide) (fun c_4 => ?_) (fun i v t hk ht c_4 => ?_)
  ·
    simp only [List.mem_cons, List.not_mem_nil, or_false, forall_eq_or_imp, forall_eq] at c_4
    refine hg_aload0 (pc' := 53) cx dX1_isLearning_52 rfl ?_
    refine gf_X1_24 (pc' := 56) cx (by first | assumption | omega | decide) (by first | assumption | omega | decide) dX1_isLearning_53 rfl ?_
    refine hg_bipush (pc' := 58) cx 50 dX1_isLearning_56 (by decide) rfl ?_
    refine hg_icmp_lt (pc' := 61) cx 65 dX1_isLearning_58 (by decide) rfl (fun c_58 => ?_) (fun c_58 => ?_)
    ·
      refine hg_iconst (pc' := 66) cx 0 dX1_isLearning_65 (by decide) rfl ?_
      refine hg_zret cx rfl dX1_isLearning_66 ⟨_, rfl, ?_⟩
      exact ⟨by first | rfl | (simp [sp_learns, c_4, c_58]; done) | (simp (decide := true) only [sp_learns, c_4, c_58, ↓reduceIte, and_true, true_and, and_false, false_and, or_false, false_or, true_or, or_true]; done) | (simp only [sp_learns]; grind) | (simp_all [sp_learns]; done), rfl⟩
    ·
      refine hg_iconst (pc' := 62) cx 1 dX1_isLearning_61 (by decide) rfl ?_
      refine hg_goto cx 66 dX1_isLearning_62 (by decide) ?_
      refine hg_zret cx rfl dX1_isLearning_66 ⟨_, rfl, ?_⟩
      exact ⟨by first | rfl | (simp [sp_learns, c_4, c_58]; done) | (simp (decide := true) only [sp_learns, c_4, c_58, ↓reduceIte, and_true, true_and, and_false, false_and, or_false, false_or, true_or, or_true]; done) | (simp only [sp_learns]; grind) | (simp_all [sp_learns]; done), rfl⟩
  ·
    match i, hk, ht with
    | 0, hk, ht =>
      cases hk; cases ht
      refine hg_iconst (pc' := 37) cx 1 dX1_isLearning_36 (by decide) rfl ?_
      refine hg_zret cx rfl dX1_isLearning_37 ⟨_, rfl, ?_⟩
      exact ⟨by first | rfl | (simp [sp_learns, c_4]; done) | (simp (decide := true) only [sp_learns, c_4, ↓reduceIte, and_true, true_and, and_false, false_and, or_false, false_or, true_or, or_true]; done) | (simp only [sp_learns]; grind) | (simp_all [sp_learns]; done), rfl⟩
    | 1, hk, ht =>
      cases hk; cases ht
      refine hg_aload0 (pc' := 53) cx dX1_isLearning_52 rfl ?_
      refine gf_X1_24 (pc' := 56) cx (by first | assumption | omega | decide) (by first | assumption | omega | decide) dX1_isLearning_53 rfl ?_
      refine hg_bipush (pc' := 58) cx 50 dX1_isLearning_56 (by decide) rfl ?_
      refine hg_icmp_lt (pc' := 61) cx 65 dX1_isLearning_58 (by decide) rfl (fun c_58 => ?_) (fun c_58 => ?_)
      ·
        refine hg_iconst (pc' := 66) cx 0 dX1_isLearning_65 (by decide) rfl ?_
        refine hg_zret cx rfl dX1_isLearning_66 ⟨_, rfl, ?_⟩
        exact ⟨by first | rfl | (simp [sp_learns, c_4, c_58]; done) | (simp (decide := true) only [sp_learns, c_4, c_58, ↓reduceIte, and_true, true_and, and_false, false_and, or_false, false_or, true_or, or_true]; done) | (simp only [sp_learns]; grind) | (simp_all [sp_learns]; done), rfl⟩
      ·
        refine hg_iconst (pc' := 62) cx 1 dX1_isLearning_61 (by decide) rfl ?_
        refine hg_goto cx 66 dX1_isLearning_62 (by decide) ?_
        refine hg_zret cx rfl dX1_isLearning_66 ⟨_, rfl, ?_⟩
        exact ⟨by first | rfl | (simp [sp_learns, c_4, c_58]; done) | (simp (decide := true) only [sp_learns, c_4, c_58, ↓reduceIte, and_true, true_and, and_false, false_and, or_false, false_or, true_or, or_true]; done) | (simp only [sp_learns]; grind) | (simp_all [sp_learns]; done), rfl⟩
    | 2, hk, ht =>
      cases hk; cases ht
      refine hg_iconst (pc' := 39) cx 0 dX1_isLearning_38 (by decide) rfl ?_
      refine hg_zret cx rfl dX1_isLearning_39 ⟨_, rfl, ?_⟩
      exact ⟨by first | rfl | (simp [sp_learns, c_4]; done) | (simp (decide := true) only [sp_learns, c_4, ↓reduceIte, and_true, true_and, and_false, false_and, or_false, false_or, true_or, or_true]; done) | (simp only [sp_learns]; grind) | (simp_all [sp_learns]; done), rfl⟩
    | 3, hk, ht =>
      cases hk; cases ht
      refine hg_iload1 (pc' := 41) cx dX1_isLearning_40 rfl ?_
      refine hg_iconst (pc' := 42) cx 2 dX1_isLearning_41 (by decide) rfl ?_
      refine hg_irem (pc' := 43) cx (by decide) dX1_isLearning_42 rfl ?_
      refine hg_if_ne (pc' := 46) cx 50 dX1_isLearning_43 (by decide) rfl (fun c_43 => ?_) (fun c_43 => ?_)
      ·
        refine hg_iconst (pc' := 51) cx 0 dX1_isLearning_50 (by decide) rfl ?_
        refine hg_zret cx rfl dX1_isLearning_51 ⟨_, rfl, ?_⟩
        exact ⟨by first | rfl | (simp [sp_learns, c_4, c_43]; done) | (simp (decide := true) only [sp_learns, c_4, c_43, ↓reduceIte, and_true, true_and, and_false, false_and, or_false, false_or, true_or, or_true]; done) | (simp only [sp_learns]; grind) | (simp_all [sp_learns]; done), rfl⟩
      ·
        refine hg_iconst (pc' := 47) cx 1 dX1_isLearning_46 (by decide) rfl ?_
        refine hg_goto cx 51 dX1_isLearning_47 (by decide) ?_
        refine hg_zret cx rfl dX1_isLearning_51 ⟨_, rfl, ?_⟩
        exact ⟨by first | rfl | (simp [sp_learns, c_4, c_43]; done) | (simp (decide := true) only [sp_learns, c_4, c_43, ↓reduceIte, and_true, true_and, and_false, false_and, or_false, false_or, true_or, or_true]; done) | (simp only [sp_learns]; grind) | (simp_all [sp_learns]; done), rfl⟩
    | j + 4, hk, ht => exact absurd hk (by simp)
set_option maxHeartbeats 4000000 in
set_option maxRecDepth 100000 in
theorem K_X1_stir (l : Launch) (E : hg_Wd) (σ : hg_Mem) (i : Nat) (h1 : 20 ≤ i) (h2 : i < 50) : hg_C l E yX1_stir cX1_stir 1 (some .int) { frames := 0, cells := 0, slots := 0, locals := 0 } [.ref (hg_ad E i)] σ (hg_pi (fun r τ => r = sp_stirs (σ.1 i) ∧ σ = τ)) := by
  refine hg_intro (by decide) [some (.ref (hg_ad E i))] rfl (Nat.le_of_ble_eq_true rfl) ?_
  intro p e s m args below meth c cx
  have cx : hg_Cx E p s m args meth c cX1_stir 1 RX1 (some .int) := cx
  refine hg_aload0 (pc' := 1) cx dX1_stir_0 rfl ?_
  refine gf_X1_9 (pc' := 4) cx (by first | assumption | omega | decide) (by first | assumption | omega | decide) dX1_stir_1 rfl ?_
  refine hg_tsw cx [1, 2, 3, 4, 5] [45, 40, 43, 45, 45] 47 dX1_stir_4 (by decide) (by decide) (fun c_4 => ?_) (fun i v t hk ht c_4 => ?_)
  ·
    simp only [List.mem_cons, List.not_mem_nil, or_false, forall_eq_or_imp, forall_eq] at c_4
    refine hg_iconst (pc' := 48) cx 5 dX1_stir_47 (by decide) rfl ?_
    refine hg_iret cx dX1_stir_48 ⟨_, rfl, ?_⟩
    exact ⟨by first | rfl | (simp [sp_stirs, c_4]; done) | (simp (decide := true) only [sp_stirs, c_4, ↓reduceIte, and_true, true_and, and_false, false_and, or_false, false_or, true_or, or_true]; done) | (simp only [sp_stirs]; grind) | (simp_all [sp_stirs]; done), rfl⟩
  ·
    match i, hk, ht with
    | 0, hk, ht =>
      cases hk; cases ht
      refine hg_iconst (pc' := 46) cx 3 dX1_stir_45 (by decide) rfl ?_
      refine hg_iret cx dX1_stir_46 ⟨_, rfl, ?_⟩
      exact ⟨by first | rfl | (simp [sp_stirs, c_4]; done) | (simp (decide := true) only [sp_stirs, c_4, ↓reduceIte, and_true, true_and, and_false, false_and, or_false, false_or, true_or, or_true]; done) | (simp only [sp_stirs]; grind) | (simp_all [sp_stirs]; done), rfl⟩
    | 1, hk, ht =>
      cases hk; cases ht
      refine hg_bipush (pc' := 42) cx 10 dX1_stir_40 (by decide) rfl ?_
      refine hg_iret cx dX1_stir_42 ⟨_, rfl, ?_⟩
      exact ⟨by first | rfl | (simp [sp_stirs, c_4]; done) | (simp (decide := true) only [sp_stirs, c_4, ↓reduceIte, and_true, true_and, and_false, false_and, or_false, false_or, true_or, or_true]; done) | (simp only [sp_stirs]; grind) | (simp_all [sp_stirs]; done), rfl⟩
    | 2, hk, ht =>
      cases hk; cases ht
      refine hg_iconst (pc' := 44) cx 1 dX1_stir_43 (by decide) rfl ?_
      refine hg_iret cx dX1_stir_44 ⟨_, rfl, ?_⟩
      exact ⟨by first | rfl | (simp [sp_stirs, c_4]; done) | (simp (decide := true) only [sp_stirs, c_4, ↓reduceIte, and_true, true_and, and_false, false_and, or_false, false_or, true_or, or_true]; done) | (simp only [sp_stirs]; grind) | (simp_all [sp_stirs]; done), rfl⟩
    | 3, hk, ht =>
      cases hk; cases ht
      refine hg_iconst (pc' := 46) cx 3 dX1_stir_45 (by decide) rfl ?_
      refine hg_iret cx dX1_stir_46 ⟨_, rfl, ?_⟩
      exact ⟨by first | rfl | (simp [sp_stirs, c_4]; done) | (simp (decide := true) only [sp_stirs, c_4, ↓reduceIte, and_true, true_and, and_false, false_and, or_false, false_or, true_or, or_true]; done) | (simp only [sp_stirs]; grind) | (simp_all [sp_stirs]; done), rfl⟩
    | 4, hk, ht =>
      cases hk; cases ht
      refine hg_iconst (pc' := 46) cx 3 dX1_stir_45 (by decide) rfl ?_
      refine hg_iret cx dX1_stir_46 ⟨_, rfl, ?_⟩
      exact ⟨by first | rfl | (simp [sp_stirs, c_4]; done) | (simp (decide := true) only [sp_stirs, c_4, ↓reduceIte, and_true, true_and, and_false, false_and, or_false, false_or, true_or, or_true]; done) | (simp only [sp_stirs]; grind) | (simp_all [sp_stirs]; done), rfl⟩
    | j + 5, hk, ht => exact absurd hk (by simp)
set_option maxHeartbeats 4000000 in
set_option maxRecDepth 100000 in
theorem K_X1_trait (l : Launch) (E : hg_Wd) (σ : hg_Mem) (i : Nat) (h1 : 20 ≤ i) (h2 : i < 50) (w : Int32) : hg_C l E yX1_trait cX1_trait 2 (some .int) { frames := 0, cells := 0, slots := 0, locals := 0 } [.ref (hg_ad E i), .int w] σ (hg_pi (fun r τ => r = sp_trait (σ.1 i) w ∧ σ = τ)) := by
  refine hg_intro (by decide) [some (.ref (hg_ad E i)), some (.int w)] rfl (Nat.le_of_ble_eq_true rfl) ?_
  intro p e s m args below meth c cx
  have cx : hg_Cx E p s m args meth c cX1_trait 2 RX1 (some .int) := cx
  refine hg_iload1 (pc' := 1) cx dX1_trait_0 rfl ?_
  refine hg_tsw cx [1, 2, 3, 4, 5] [36, 41, 46, 51, 56] 61 dX1_trait_1 (by decide) (by decide) (fun c_1 => ?_) (fun i v t hk ht c_1 => ?_)
  ·
    simp only [List.mem_cons, List.not_mem_nil, or_false, forall_eq_or_imp, forall_eq] at c_1
    refine hg_aload0 (pc' := 62) cx dX1_trait_61 rfl ?_
    refine gf_X1_9 (pc' := 65) cx (by first | assumption | omega | decide) (by first | assumption | omega | decide) dX1_trait_62 rfl ?_
    refine hg_iret cx dX1_trait_65 ⟨_, rfl, ?_⟩
    exact ⟨by first | rfl | (simp [sp_trait, c_1]; done) | (simp (decide := true) only [sp_trait, c_1, ↓reduceIte, and_true, true_and, and_false, false_and, or_false, false_or, true_or, or_true]; done) | (simp only [sp_trait]; grind) | (simp_all [sp_trait]; done), rfl⟩
  ·
    match i, hk, ht with
    | 0, hk, ht =>
      cases hk; cases ht
      refine hg_aload0 (pc' := 37) cx dX1_trait_36 rfl ?_
      refine gf_X1_15 (pc' := 40) cx (by first | assumption | omega | decide) (by first | assumption | omega | decide) dX1_trait_37 rfl ?_
      refine hg_iret cx dX1_trait_40 ⟨_, rfl, ?_⟩
      exact ⟨by first | rfl | (simp [sp_trait, c_1]; done) | (simp (decide := true) only [sp_trait, c_1, ↓reduceIte, and_true, true_and, and_false, false_and, or_false, false_or, true_or, or_true]; done) | (simp only [sp_trait]; grind) | (simp_all [sp_trait]; done), rfl⟩
    | 1, hk, ht =>
      cases hk; cases ht
      refine hg_aload0 (pc' := 42) cx dX1_trait_41 rfl ?_
      refine gf_X1_18 (pc' := 45) cx (by first | assumption | omega | decide) (by first | assumption | omega | decide) dX1_trait_42 rfl ?_
      refine hg_iret cx dX1_trait_45 ⟨_, rfl, ?_⟩
      exact ⟨by first | rfl | (simp [sp_trait, c_1]; done) | (simp (decide := true) only [sp_trait, c_1, ↓reduceIte, and_true, true_and, and_false, false_and, or_false, false_or, true_or, or_true]; done) | (simp only [sp_trait]; grind) | (simp_all [sp_trait]; done), rfl⟩
    | 2, hk, ht =>
      cases hk; cases ht
      refine hg_aload0 (pc' := 47) cx dX1_trait_46 rfl ?_
      refine gf_X1_21 (pc' := 50) cx (by first | assumption | omega | decide) (by first | assumption | omega | decide) dX1_trait_47 rfl ?_
      refine hg_iret cx dX1_trait_50 ⟨_, rfl, ?_⟩
      exact ⟨by first | rfl | (simp [sp_trait, c_1]; done) | (simp (decide := true) only [sp_trait, c_1, ↓reduceIte, and_true, true_and, and_false, false_and, or_false, false_or, true_or, or_true]; done) | (simp only [sp_trait]; grind) | (simp_all [sp_trait]; done), rfl⟩
    | 3, hk, ht =>
      cases hk; cases ht
      refine hg_aload0 (pc' := 52) cx dX1_trait_51 rfl ?_
      refine gf_X1_24 (pc' := 55) cx (by first | assumption | omega | decide) (by first | assumption | omega | decide) dX1_trait_52 rfl ?_
      refine hg_iret cx dX1_trait_55 ⟨_, rfl, ?_⟩
      exact ⟨by first | rfl | (simp [sp_trait, c_1]; done) | (simp (decide := true) only [sp_trait, c_1, ↓reduceIte, and_true, true_and, and_false, false_and, or_false, false_or, true_or, or_true]; done) | (simp only [sp_trait]; grind) | (simp_all [sp_trait]; done), rfl⟩
    | 4, hk, ht =>
      cases hk; cases ht
      refine hg_aload0 (pc' := 57) cx dX1_trait_56 rfl ?_
      refine gf_X1_27 (pc' := 60) cx (by first | assumption | omega | decide) (by first | assumption | omega | decide) dX1_trait_57 rfl ?_
      refine hg_iret cx dX1_trait_60 ⟨_, rfl, ?_⟩
      exact ⟨by first | rfl | (simp [sp_trait, c_1]; done) | (simp (decide := true) only [sp_trait, c_1, ↓reduceIte, and_true, true_and, and_false, false_and, or_false, false_or, true_or, or_true]; done) | (simp only [sp_trait]; grind) | (simp_all [sp_trait]; done), rfl⟩
    | j + 5, hk, ht => exact absurd hk (by simp)
set_option maxHeartbeats 4000000 in
set_option maxRecDepth 100000 in
theorem K_X1_mostOf (l : Launch) (E : hg_Wd) (σ : hg_Mem) (w : Int32) : hg_C l E yX1_mostOf cX1_mostOf 1 (some .int) { frames := 0, cells := 0, slots := 0, locals := 0 } [.int w] σ (hg_pi (fun r τ => r = sp_mostOf w ∧ σ = τ)) := by
  refine hg_intro (by decide) [some (.int w)] rfl (Nat.le_of_ble_eq_true rfl) ?_
  intro p e s m args below meth c cx
  have cx : hg_Cx E p s m args meth c cX1_mostOf 1 RX1 (some .int) := cx
  refine hg_iload0 (pc' := 1) cx dX1_mostOf_0 rfl ?_
  refine hg_tsw cx [1, 2, 3, 4, 5] [36, 45, 45, 40, 43] 45 dX1_mostOf_1 (by decide) (by decide) (fun c_1 => ?_) (fun i v t hk ht c_1 => ?_)
  ·
    simp only [List.mem_cons, List.not_mem_nil, or_false, forall_eq_or_imp, forall_eq] at c_1
    refine hg_sipush (pc' := 48) cx 9999 dX1_mostOf_45 (by decide) rfl ?_
    refine hg_iret cx dX1_mostOf_48 ⟨_, rfl, ?_⟩
    exact ⟨by first | rfl | (simp [sp_mostOf, c_1]; done) | (simp (decide := true) only [sp_mostOf, c_1, ↓reduceIte, and_true, true_and, and_false, false_and, or_false, false_or, true_or, or_true]; done) | (simp only [sp_mostOf]; grind) | (simp_all [sp_mostOf]; done), rfl⟩
  ·
    match i, hk, ht with
    | 0, hk, ht =>
      cases hk; cases ht
      refine hg_sipush (pc' := 39) cx 255 dX1_mostOf_36 (by decide) rfl ?_
      refine hg_iret cx dX1_mostOf_39 ⟨_, rfl, ?_⟩
      exact ⟨by first | rfl | (simp [sp_mostOf, c_1]; done) | (simp (decide := true) only [sp_mostOf, c_1, ↓reduceIte, and_true, true_and, and_false, false_and, or_false, false_or, true_or, or_true]; done) | (simp only [sp_mostOf]; grind) | (simp_all [sp_mostOf]; done), rfl⟩
    | 1, hk, ht =>
      cases hk; cases ht
      refine hg_sipush (pc' := 48) cx 9999 dX1_mostOf_45 (by decide) rfl ?_
      refine hg_iret cx dX1_mostOf_48 ⟨_, rfl, ?_⟩
      exact ⟨by first | rfl | (simp [sp_mostOf, c_1]; done) | (simp (decide := true) only [sp_mostOf, c_1, ↓reduceIte, and_true, true_and, and_false, false_and, or_false, false_or, true_or, or_true]; done) | (simp only [sp_mostOf]; grind) | (simp_all [sp_mostOf]; done), rfl⟩
    | 2, hk, ht =>
      cases hk; cases ht
      refine hg_sipush (pc' := 48) cx 9999 dX1_mostOf_45 (by decide) rfl ?_
      refine hg_iret cx dX1_mostOf_48 ⟨_, rfl, ?_⟩
      exact ⟨by first | rfl | (simp [sp_mostOf, c_1]; done) | (simp (decide := true) only [sp_mostOf, c_1, ↓reduceIte, and_true, true_and, and_false, false_and, or_false, false_or, true_or, or_true]; done) | (simp only [sp_mostOf]; grind) | (simp_all [sp_mostOf]; done), rfl⟩
    | 3, hk, ht =>
      cases hk; cases ht
      refine hg_bipush (pc' := 42) cx 99 dX1_mostOf_40 (by decide) rfl ?_
      refine hg_iret cx dX1_mostOf_42 ⟨_, rfl, ?_⟩
      exact ⟨by first | rfl | (simp [sp_mostOf, c_1]; done) | (simp (decide := true) only [sp_mostOf, c_1, ↓reduceIte, and_true, true_and, and_false, false_and, or_false, false_or, true_or, or_true]; done) | (simp only [sp_mostOf]; grind) | (simp_all [sp_mostOf]; done), rfl⟩
    | 4, hk, ht =>
      cases hk; cases ht
      refine hg_iconst (pc' := 44) cx 1 dX1_mostOf_43 (by decide) rfl ?_
      refine hg_iret cx dX1_mostOf_44 ⟨_, rfl, ?_⟩
      exact ⟨by first | rfl | (simp [sp_mostOf, c_1]; done) | (simp (decide := true) only [sp_mostOf, c_1, ↓reduceIte, and_true, true_and, and_false, false_and, or_false, false_or, true_or, or_true]; done) | (simp only [sp_mostOf]; grind) | (simp_all [sp_mostOf]; done), rfl⟩
    | j + 5, hk, ht => exact absurd hk (by simp)
set_option maxHeartbeats 4000000 in
set_option maxRecDepth 100000 in
theorem K_X1_isOfKind (l : Launch) (E : hg_Wd) (σ : hg_Mem) (i : Nat) (h1 : 20 ≤ i) (h2 : i < 50) (k : Int32) : hg_C l E yX1_isOfKind cX1_isOfKind 2 (some .boolean) { frames := 0, cells := 0, slots := 0, locals := 0 } [.ref (hg_ad E i), .int k] σ (hg_pi (fun r τ => r = sp_isKind (σ.1 i) k ∧ σ = τ)) := by
  refine hg_intro (by decide) [some (.ref (hg_ad E i)), some (.int k)] rfl (Nat.le_of_ble_eq_true rfl) ?_
  intro p e s m args below meth c cx
  have cx : hg_Cx E p s m args meth c cX1_isOfKind 2 RX1 (some .boolean) := cx
  refine hg_iload1 (pc' := 1) cx dX1_isOfKind_0 rfl ?_
  refine hg_aload0 (pc' := 2) cx dX1_isOfKind_1 rfl ?_
  refine gf_X1_9 (pc' := 5) cx (by first | assumption | omega | decide) (by first | assumption | omega | decide) dX1_isOfKind_2 rfl ?_
  refine hg_icmp_eq (pc' := 8) cx 38 dX1_isOfKind_5 (by decide) rfl (fun c_5 => ?_) (fun c_5 => ?_)
  ·
    refine hg_iconst (pc' := 39) cx 1 dX1_isOfKind_38 (by decide) rfl ?_
    refine hg_goto cx 43 dX1_isOfKind_39 (by decide) ?_
    refine hg_zret cx rfl dX1_isOfKind_43 ⟨_, rfl, ?_⟩
    exact ⟨by first | rfl | (simp [sp_isKind, c_5]; done) | (simp (decide := true) only [sp_isKind, c_5, ↓reduceIte, and_true, true_and, and_false, false_and, or_false, false_or, true_or, or_true]; done) | (simp only [sp_isKind]; grind) | (simp_all [sp_isKind]; done), rfl⟩
  ·
    refine hg_iload1 (pc' := 9) cx dX1_isOfKind_8 rfl ?_
    refine hg_if_eq (pc' := 12) cx 38 dX1_isOfKind_9 (by decide) rfl (fun c_9 => ?_) (fun c_9 => ?_)
    ·
      refine hg_iconst (pc' := 39) cx 1 dX1_isOfKind_38 (by decide) rfl ?_
      refine hg_goto cx 43 dX1_isOfKind_39 (by decide) ?_
      refine hg_zret cx rfl dX1_isOfKind_43 ⟨_, rfl, ?_⟩
      exact ⟨by first | rfl | (simp [sp_isKind, c_5, c_9]; done) | (simp (decide := true) only [sp_isKind, c_5, c_9, ↓reduceIte, and_true, true_and, and_false, false_and, or_false, false_or, true_or, or_true]; done) | (simp only [sp_isKind]; grind) | (simp_all [sp_isKind]; done), rfl⟩
    ·
      refine hg_iload1 (pc' := 13) cx dX1_isOfKind_12 rfl ?_
      refine hg_iconst (pc' := 14) cx 1 dX1_isOfKind_13 (by decide) rfl ?_
      refine hg_icmp_ne (pc' := 17) cx 25 dX1_isOfKind_14 (by decide) rfl (fun c_14 => ?_) (fun c_14 => ?_)
      ·
        refine hg_iload1 (pc' := 26) cx dX1_isOfKind_25 rfl ?_
        refine hg_iconst (pc' := 27) cx 2 dX1_isOfKind_26 (by decide) rfl ?_
        refine hg_icmp_ne (pc' := 30) cx 42 dX1_isOfKind_27 (by decide) rfl (fun c_27 => ?_) (fun c_27 => ?_)
        ·
          refine hg_iconst (pc' := 43) cx 0 dX1_isOfKind_42 (by decide) rfl ?_
          refine hg_zret cx rfl dX1_isOfKind_43 ⟨_, rfl, ?_⟩
          exact ⟨by first | rfl | (simp [sp_isKind, c_5, c_9, c_14, c_27]; done) | (simp (decide := true) only [sp_isKind, c_5, c_9, c_14, c_27, ↓reduceIte, and_true, true_and, and_false, false_and, or_false, false_or, true_or, or_true]; done) | (simp only [sp_isKind]; grind) | (simp_all [sp_isKind]; done), rfl⟩
        ·
          refine hg_aload0 (pc' := 31) cx dX1_isOfKind_30 rfl ?_
          refine gf_X1_9 (pc' := 34) cx (by first | assumption | omega | decide) (by first | assumption | omega | decide) dX1_isOfKind_31 rfl ?_
          refine hg_iconst (pc' := 35) cx 5 dX1_isOfKind_34 (by decide) rfl ?_
          refine hg_icmp_ne (pc' := 38) cx 42 dX1_isOfKind_35 (by decide) rfl (fun c_35 => ?_) (fun c_35 => ?_)
          ·
            refine hg_iconst (pc' := 43) cx 0 dX1_isOfKind_42 (by decide) rfl ?_
            refine hg_zret cx rfl dX1_isOfKind_43 ⟨_, rfl, ?_⟩
            exact ⟨by first | rfl | (simp [sp_isKind, c_5, c_9, c_14, c_27, c_35]; done) | (simp (decide := true) only [sp_isKind, c_5, c_9, c_14, c_27, c_35, ↓reduceIte, and_true, true_and, and_false, false_and, or_false, false_or, true_or, or_true]; done) | (simp only [sp_isKind]; grind) | (simp_all [sp_isKind]; done), rfl⟩
          ·
            refine hg_iconst (pc' := 39) cx 1 dX1_isOfKind_38 (by decide) rfl ?_
            refine hg_goto cx 43 dX1_isOfKind_39 (by decide) ?_
            refine hg_zret cx rfl dX1_isOfKind_43 ⟨_, rfl, ?_⟩
            exact ⟨by first | rfl | (simp [sp_isKind, c_5, c_9, c_14, c_27, c_35]; done) | (simp (decide := true) only [sp_isKind, c_5, c_9, c_14, c_27, c_35, ↓reduceIte, and_true, true_and, and_false, false_and, or_false, false_or, true_or, or_true]; done) | (simp only [sp_isKind]; grind) | (simp_all [sp_isKind]; done), rfl⟩
      ·
        refine hg_aload0 (pc' := 18) cx dX1_isOfKind_17 rfl ?_
        refine gf_X1_9 (pc' := 21) cx (by first | assumption | omega | decide) (by first | assumption | omega | decide) dX1_isOfKind_18 rfl ?_
        refine hg_iconst (pc' := 22) cx 4 dX1_isOfKind_21 (by decide) rfl ?_
        refine hg_icmp_eq (pc' := 25) cx 38 dX1_isOfKind_22 (by decide) rfl (fun c_22 => ?_) (fun c_22 => ?_)
        ·
          refine hg_iconst (pc' := 39) cx 1 dX1_isOfKind_38 (by decide) rfl ?_
          refine hg_goto cx 43 dX1_isOfKind_39 (by decide) ?_
          refine hg_zret cx rfl dX1_isOfKind_43 ⟨_, rfl, ?_⟩
          exact ⟨by first | rfl | (simp [sp_isKind, c_5, c_9, c_14, c_22]; done) | (simp (decide := true) only [sp_isKind, c_5, c_9, c_14, c_22, ↓reduceIte, and_true, true_and, and_false, false_and, or_false, false_or, true_or, or_true]; done) | (simp only [sp_isKind]; grind) | (simp_all [sp_isKind]; done), rfl⟩
        ·
          refine hg_iload1 (pc' := 26) cx dX1_isOfKind_25 rfl ?_
          refine hg_iconst (pc' := 27) cx 2 dX1_isOfKind_26 (by decide) rfl ?_
          refine hg_icmp_ne (pc' := 30) cx 42 dX1_isOfKind_27 (by decide) rfl (fun c_27 => ?_) (fun c_27 => ?_)
          ·
            refine hg_iconst (pc' := 43) cx 0 dX1_isOfKind_42 (by decide) rfl ?_
            refine hg_zret cx rfl dX1_isOfKind_43 ⟨_, rfl, ?_⟩
            exact ⟨by first | rfl | (simp [sp_isKind, c_5, c_9, c_14, c_22, c_27]; done) | (simp (decide := true) only [sp_isKind, c_5, c_9, c_14, c_22, c_27, ↓reduceIte, and_true, true_and, and_false, false_and, or_false, false_or, true_or, or_true]; done) | (simp only [sp_isKind]; grind) | (simp_all [sp_isKind]; done), rfl⟩
          ·
            refine hg_aload0 (pc' := 31) cx dX1_isOfKind_30 rfl ?_
            refine gf_X1_9 (pc' := 34) cx (by first | assumption | omega | decide) (by first | assumption | omega | decide) dX1_isOfKind_31 rfl ?_
            refine hg_iconst (pc' := 35) cx 5 dX1_isOfKind_34 (by decide) rfl ?_
            refine hg_icmp_ne (pc' := 38) cx 42 dX1_isOfKind_35 (by decide) rfl (fun c_35 => ?_) (fun c_35 => ?_)
            ·
              refine hg_iconst (pc' := 43) cx 0 dX1_isOfKind_42 (by decide) rfl ?_
              refine hg_zret cx rfl dX1_isOfKind_43 ⟨_, rfl, ?_⟩
              exact ⟨by first | rfl | (simp [sp_isKind, c_5, c_9, c_14, c_22, c_27, c_35]; done) | (simp (decide := true) only [sp_isKind, c_5, c_9, c_14, c_22, c_27, c_35, ↓reduceIte, and_true, true_and, and_false, false_and, or_false, false_or, true_or, or_true]; done) | (simp only [sp_isKind]; grind) | (simp_all [sp_isKind]; done), rfl⟩
            ·
              refine hg_iconst (pc' := 39) cx 1 dX1_isOfKind_38 (by decide) rfl ?_
              refine hg_goto cx 43 dX1_isOfKind_39 (by decide) ?_
              refine hg_zret cx rfl dX1_isOfKind_43 ⟨_, rfl, ?_⟩
              exact ⟨by first | rfl | (simp [sp_isKind, c_5, c_9, c_14, c_22, c_27, c_35]; done) | (simp (decide := true) only [sp_isKind, c_5, c_9, c_14, c_22, c_27, c_35, ↓reduceIte, and_true, true_and, and_false, false_and, or_false, false_or, true_or, or_true]; done) | (simp only [sp_isKind]; grind) | (simp_all [sp_isKind]; done), rfl⟩
set_option maxHeartbeats 4000000 in
set_option maxRecDepth 100000 in
theorem K_X1_credit (l : Launch) (E : hg_Wd) (σ : hg_Mem) (i : Nat) (h1 : 20 ≤ i) (h2 : i < 50) : hg_C l E yX1_credit cX1_credit 1 (some .int) { frames := 0, cells := 0, slots := 0, locals := 0 } [.ref (hg_ad E i)] σ (hg_pi (fun r τ => r = σ.1 i 2 - σ.1 i 3 ∧ σ = τ)) := by
  refine hg_intro (by decide) [some (.ref (hg_ad E i))] rfl (Nat.le_of_ble_eq_true rfl) ?_
  intro p e s m args below meth c cx
  have cx : hg_Cx E p s m args meth c cX1_credit 1 RX1 (some .int) := cx
  refine hg_aload0 (pc' := 1) cx dX1_credit_0 rfl ?_
  refine gf_X1_18 (pc' := 4) cx (by first | assumption | omega | decide) (by first | assumption | omega | decide) dX1_credit_1 rfl ?_
  refine hg_aload0 (pc' := 5) cx dX1_credit_4 rfl ?_
  refine gf_X1_21 (pc' := 8) cx (by first | assumption | omega | decide) (by first | assumption | omega | decide) dX1_credit_5 rfl ?_
  refine hg_isub (pc' := 9) cx dX1_credit_8 rfl ?_
  refine hg_iret cx dX1_credit_9 ⟨_, rfl, ?_⟩
  exact ⟨by first | rfl | (simp [sp_bit, and_self]; done) | (simp (decide := true) only [sp_bit, and_self, ↓reduceIte, and_true, true_and, and_false, false_and, or_false, false_or, true_or, or_true]; done) | (simp only [sp_bit]; grind) | (simp_all [sp_bit]; done), rfl⟩
