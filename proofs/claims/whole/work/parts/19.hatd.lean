set_option maxHeartbeats 4000000 in
set_option maxRecDepth 100000 in
theorem K_X5_swing (l : Launch) (E : hg_Wd) (σ : hg_Mem) (S : sp_S) (hc : cw_C σ S) : hg_C l E yX5_swing cX5_swing 3 (some .int) { frames := 4, cells := 0, slots := 0, locals := 88 } [.ref (hg_ad E 0)] σ (hg_pi (fun r τ => cw_P σ (op_swing S ) r τ)) := by
  refine hg_intro (by decide) [some (.ref (hg_ad E 0)), none, none] rfl (Nat.le_of_ble_eq_true rfl) ?_
  intro p e s m args below meth c cx
  have cx : hg_Cx E p s m args meth c cX5_swing 3 RX5 (some .int) := cx
  obtain ⟨hn10, hn, g0, g1, g2, hag⟩ := hc.get
  refine hg_aload0 (pc' := 1) cx dX5_swing_0 rfl ?_
  refine gf_X5_10 (pc' := 4) cx dX5_swing_1 rfl ?_
  refine cv_X5_63 (pc' := 7) cx (by first | assumption | omega | decide) (by first | assumption | omega | decide) (K_X3_ask l E _ 1 (by decide) (by decide) (S.1 0).2 hn10 hn) ⟨rfl, rfl, Nat.le_of_ble_eq_true rfl, Nat.le_of_ble_eq_true rfl⟩ (Nat.le_of_ble_eq_true rfl) dX5_swing_4 rfl (fun τ_4 h_4 => ?_)
  have hRa := h_4.rep hc.1 (by decide)
  obtain ⟨hc1, hf1⟩ := hc.fr h_4.1 (fun i a b d => h_4.2.1 i a (by omega)) hRa
  have ev : sp_verdict (τ_4.1 1 5) (τ_4.1 1 6) (τ_4.1 1 2) (sp_q (τ_4.1 1 0)) = sp_verd (S.1 0).1 (S.1 0).2 := by
    rw [h_4.2.2.2.1, h_4.2.2.2.2.1, h_4.2.2.1 2 (by decide) (by decide), h_4.2.2.1 0 (by decide) (by decide), sp_yes_ag (g := (S.1 0).1.2) _ _ _ _ (fun h hh k hk => hc.1.2.2.2 h hh k hk), sp_no_ag (g := (S.1 0).1.2) _ _ _ _ (fun h hh k hk => hc.1.2.2.2 h hh k hk), hc.1.2.2.1 2 (by decide), hc.1.2.2.1 0 (by decide)]
    rfl
  refine hg_aload0 (pc' := 8) cx dX5_swing_7 rfl ?_
  refine gf_X5_10 (pc' := 11) cx dX5_swing_8 rfl ?_
  refine cv_X5_166 (pc' := 14) cx (by first | assumption | omega | decide) (by first | assumption | omega | decide) (K_X3_verdict l E _ _ (by first | assumption | omega | decide) (by first | assumption | omega | decide)) ⟨rfl, rfl, Nat.le_of_ble_eq_true rfl, Nat.le_of_ble_eq_true rfl⟩ (Nat.le_of_ble_eq_true rfl) dX5_swing_11 rfl (fun r_11 τ_11 h_11 => ?_)
  obtain ⟨rfl, rfl⟩ := h_11
  rw [ev]
  refine hg_istore1 (pc' := 15) cx rfl dX5_swing_14 rfl ?_
  refine hg_iconst (pc' := 16) cx (nI 0) dX5_swing_15 (by decide) rfl ?_
  refine hg_istore2 (pc' := 17) cx rfl dX5_swing_16 rfl ?_
  refine hg_nm (fun μ hμ => ?_)
  refine hg_loop (α := hg_Mem × Nat) (I := fun z => z.2 ≤ (S.1 0).2 ∧ sp_Fr τ_4 z.1 2 ∧ sp_first (fun h => decide (¬ (S.1 0).1.2 h 5 = 0 ∧ ¬ sp_verd (sp_hatF (S.1 0).1 h 5 0) (S.1 0).2 = sp_verd (S.1 0).1 (S.1 0).2)) (S.1 0).2 0 = sp_first (fun h => decide (¬ (S.1 0).1.2 h 5 = 0 ∧ ¬ sp_verd (sp_hatF (S.1 0).1 h 5 0) (S.1 0).2 = sp_verd (S.1 0).1 (S.1 0).2)) ((S.1 0).2 - z.2) z.2) (P := fun z => hg_G E p l e { frames := 4, cells := 0, slots := 0, locals := 88 } s m args below meth c 3 (MQ below (hg_Qc E (hg_pi (fun r τ => cw_P σ (op_swing S ) r τ))) args s 0 0 (hg_AW E)) z.1 17 [some (.ref (hg_ad E 0)), some (.int (sp_verd (S.1 0).1 (S.1 0).2)), some (.int (nI z.2))] []) (fun z => (S.1 0).2 - z.2) ?_ (μ, 0) ?_
  rotate_left
  · subst hμ
    try dsimp only
    exact ⟨by omega, sp_Fr.rf _ _, rfl⟩
  clear hμ μ
  rintro ⟨τ, j⟩ hI ih_17
  try dsimp only at hI ih_17 ⊢
  obtain ⟨hcτ, hfτ⟩ := hc1.fr2 hI.2.1
  obtain ⟨-, hnτ, k0, k1, k2, hagτ⟩ := hcτ.get
  have hjn := hI.1
  refine hg_iload2 (pc' := 18) cx dX5_swing_17 rfl ?_
  refine hg_aload0 (pc' := 19) cx dX5_swing_18 rfl ?_
  refine gf_X5_10 (pc' := 22) cx dX5_swing_19 rfl ?_
  refine gf_X5_87 (pc' := 25) cx (by first | assumption | omega | decide) (by first | assumption | omega | decide) dX5_swing_22 rfl ?_
  refine hg_icmp_ge (pc' := 28) cx 96 dX5_swing_25 (by decide) rfl (fun c_25 => ?_) (fun c_25 => ?_)
  ·
    have jlt := hg_ge hnτ (by omega) (by omega) c_25
    refine hg_aload0 (pc' := 97) cx dX5_swing_96 rfl ?_
    refine hg_ldc (pc' := 99) cx kc_X5_148 dX5_swing_97 rfl ?_
    refine cv_X5_45 (pc' := 102) cx (K_X5_finding l E _ (-1000000004) 3 (by decide) (by decide)) ⟨rfl, rfl, Nat.le_of_ble_eq_true rfl, Nat.le_of_ble_eq_true rfl⟩ (Nat.le_of_ble_eq_true rfl) dX5_swing_99 rfl (fun r_99 τ_99 h_99 => ?_)
    obtain ⟨rfl, rfl⟩ := h_99
    refine hg_iret cx dX5_swing_102 ⟨_, rfl, ?_⟩
    simp only [op_swing]
    rw [hI.2.2, show (S.1 0).2 - j = 0 by omega]
    exact ⟨((hcτ.find (f := 3) (by decide) (by decide)).1), (hcτ.find (f := 3) (w := -1000000004) (by decide) (by decide)).2.1, (hf1.tr hfτ).tr (hcτ.find (f := 3) (w := -1000000004) (by decide) (by decide)).2.2⟩
  ·
    have jlt := hg_nge hnτ (by omega) (by omega) c_25
    have eon : τ.1 (10 + 10 * 1 + j) 5 = (S.1 0).1.2 j 5 := hagτ j jlt 5 (by decide)
    refine hg_aload0 (pc' := 29) cx dX5_swing_28 rfl ?_
    refine gf_X5_10 (pc' := 32) cx dX5_swing_29 rfl ?_
    refine gf_X5_94 (pc' := 35) cx (by first | assumption | omega | decide) (by first | assumption | omega | decide) dX5_swing_32 rfl ?_
    refine hg_iload2 (pc' := 36) cx dX5_swing_35 rfl ?_
    refine hg_seat (t := 1) cx (by decide) (by decide) (by omega) dX5_swing_36 rfl ?_
    refine gf_X5_152 (pc' := 40) cx (by first | assumption | omega | decide) (by first | assumption | omega | decide) dX5_swing_37 rfl ?_
    refine hg_if_ne (pc' := 43) cx 46 dX5_swing_40 (by decide) rfl (fun c_40 => ?_) (fun c_40 => ?_)
    ·
      refine hg_aload0 (pc' := 47) cx dX5_swing_46 rfl ?_
      refine gf_X5_16 (pc' := 50) cx dX5_swing_47 rfl ?_
      refine hg_aload0 (pc' := 51) cx dX5_swing_50 rfl ?_
      refine gf_X5_10 (pc' := 54) cx dX5_swing_51 rfl ?_
      refine cv_X5_141 (pc' := 57) cx (by first | assumption | omega | decide) (by first | assumption | omega | decide) (K_X3_become l E _ 2 (by decide) (by decide) 1 (by decide) (by decide) (by decide) (S.1 0).2 hn10 hnτ) ⟨rfl, rfl, Nat.le_of_ble_eq_true rfl, Nat.le_of_ble_eq_true rfl⟩ (Nat.le_of_ble_eq_true rfl) dX5_swing_54 rfl (fun τ_54 h_54 => ?_)
      obtain ⟨hF1, h4, hA⟩ := h_54
      have hR2 := hcτ.1.bec h4 hA
      have hS := hR2.setH jlt (sp_Ag.up (fun k hk => hR2.2.2.2 j jlt k hk) 5 (rfl : (0 : Int32) = 0))
      rw [← hg_sI_eq] at hS
      refine hg_aload0 (pc' := 58) cx dX5_swing_57 rfl ?_
      refine gf_X5_16 (pc' := 61) cx dX5_swing_58 rfl ?_
      refine gf_X5_94 (pc' := 64) cx (by first | assumption | omega | decide) (by first | assumption | omega | decide) dX5_swing_61 rfl ?_
      refine hg_iload2 (pc' := 65) cx dX5_swing_64 rfl ?_
      refine hg_seat (t := 2) cx (by decide) (by decide) (by omega) dX5_swing_65 rfl ?_
      refine hg_iconst (pc' := 67) cx 0 dX5_swing_66 (by decide) rfl ?_
      refine pf_X5_152 (pc' := 70) cx (by first | assumption | omega | decide) (by first | assumption | omega | decide) dX5_swing_67 rfl ?_
      refine hg_aload0 (pc' := 71) cx dX5_swing_70 rfl ?_
      refine gf_X5_16 (pc' := 74) cx dX5_swing_71 rfl ?_
      refine cv_X5_63 (pc' := 77) cx (by first | assumption | omega | decide) (by first | assumption | omega | decide) (K_X3_ask l E _ 2 (by decide) (by decide) (S.1 0).2 hn10 ((hS.1.2.2.1 3 (by decide)).trans hS.1.2.1)) ⟨rfl, rfl, Nat.le_of_ble_eq_true rfl, Nat.le_of_ble_eq_true rfl⟩ (Nat.le_of_ble_eq_true rfl) dX5_swing_74 rfl (fun τ_74 h_74 => ?_)
      have hF9 : sp_Fr τ_4 τ_74 2 := ((hI.2.1.tr hF1).tr hS.2).tr ⟨h_74.1, fun i a b => h_74.2.1 i a (by omega)⟩
      have ev2 : sp_verdict (τ_74.1 2 5) (τ_74.1 2 6) (τ_74.1 2 2) (sp_q (τ_74.1 2 0)) = sp_verd (sp_hatF (S.1 0).1 j 5 0) (S.1 0).2 := by
        rw [h_74.2.2.2.1, h_74.2.2.2.2.1, h_74.2.2.1 2 (by decide) (by decide), h_74.2.2.1 0 (by decide) (by decide), sp_yes_ag (g := (sp_hatF (S.1 0).1 j 5 0).2) _ _ _ _ (fun h hh k hk => hS.1.2.2.2 h hh k hk), sp_no_ag (g := (sp_hatF (S.1 0).1 j 5 0).2) _ _ _ _ (fun h hh k hk => hS.1.2.2.2 h hh k hk), hS.1.2.2.1 2 (by decide), hS.1.2.2.1 0 (by decide)]
        rfl
      refine hg_aload0 (pc' := 78) cx dX5_swing_77 rfl ?_
      refine gf_X5_16 (pc' := 81) cx dX5_swing_78 rfl ?_
      refine cv_X5_166 (pc' := 84) cx (by first | assumption | omega | decide) (by first | assumption | omega | decide) (K_X3_verdict l E _ _ (by first | assumption | omega | decide) (by first | assumption | omega | decide)) ⟨rfl, rfl, Nat.le_of_ble_eq_true rfl, Nat.le_of_ble_eq_true rfl⟩ (Nat.le_of_ble_eq_true rfl) dX5_swing_81 rfl (fun r_81 τ_81 h_81 => ?_)
      obtain ⟨rfl, rfl⟩ := h_81
      rw [ev2]
      refine hg_iload1 (pc' := 85) cx dX5_swing_84 rfl ?_
      refine hg_icmp_eq (pc' := 88) cx 90 dX5_swing_85 (by decide) rfl (fun c_85 => ?_) (fun c_85 => ?_)
      ·
        refine hg_iinc2p (pc' := 93) cx rfl dX5_swing_90 rfl ?_
        refine hg_goto cx 17 dX5_swing_93 (by decide) ?_
        rw [nI_1]
        refine hg_nm (fun μ hμ => ?_)
        refine ih_17 (μ, _) ?_ ?_
        · subst hμ
          try dsimp only
          first
            | (refine ⟨by omega, hI.2.1, ?_⟩
               rw [hI.2.2, show (S.1 0).2 - j = ((S.1 0).2 - (j + 1)) + 1 by omega, sp_first_no (decide_eq_false (fun z => z.1 (eon ▸ c_40)))])
            | (refine ⟨by omega, hF9, ?_⟩
               rw [hI.2.2, show (S.1 0).2 - j = ((S.1 0).2 - (j + 1)) + 1 by omega, sp_first_no (decide_eq_false (fun z => z.2 c_85))])
        · show (S.1 0).2 - (j + 1) < (S.1 0).2 - j
          omega
      ·
        refine hg_iload2 (pc' := 89) cx dX5_swing_88 rfl ?_
        refine hg_iret cx dX5_swing_89 ⟨_, rfl, ?_⟩
        obtain ⟨q1, q2⟩ := hc1.fr2 hF9
        simp only [op_swing]
        rw [hI.2.2, show (S.1 0).2 - j = ((S.1 0).2 - (j + 1)) + 1 by omega, sp_first_yes (decide_eq_true ⟨fun z => c_40 (eon.trans z), c_85⟩)]
        exact ⟨rfl, q1, hf1.tr q2⟩
    ·
      refine hg_goto cx 90 dX5_swing_43 (by decide) ?_
      refine hg_iinc2p (pc' := 93) cx rfl dX5_swing_90 rfl ?_
      refine hg_goto cx 17 dX5_swing_93 (by decide) ?_
      rw [nI_1]
      refine hg_nm (fun μ hμ => ?_)
      refine ih_17 (μ, _) ?_ ?_
      · subst hμ
        try dsimp only
        first
          | (refine ⟨by omega, hI.2.1, ?_⟩
             rw [hI.2.2, show (S.1 0).2 - j = ((S.1 0).2 - (j + 1)) + 1 by omega, sp_first_no (decide_eq_false (fun z => z.1 (eon ▸ c_40)))])
          | (refine ⟨by omega, hF9, ?_⟩
             rw [hI.2.2, show (S.1 0).2 - j = ((S.1 0).2 - (j + 1)) + 1 by omega, sp_first_no (decide_eq_false (fun z => z.2 c_85))])
      · show (S.1 0).2 - (j + 1) < (S.1 0).2 - j
        omega
set_option maxHeartbeats 4000000 in
set_option maxRecDepth 100000 in
theorem K_X4_add (l : Launch) (E : hg_Wd) (σ : hg_Mem) (k : Nat) (hk : k < 120) (hl : σ.1 7 1 = nI k) (b : Int32) : hg_C l E yX4_add cX4_add 2 none { frames := 0, cells := 0, slots := 0, locals := 0 } [.ref (hg_ad E 7), .int b] σ (hg_pv (fun τ => hg_sI (hg_sI σ 8 k b) 7 1 (nI (k + 1)) = τ)) := by
  refine hg_intro (by decide) [some (.ref (hg_ad E 7)), some (.int b)] rfl (Nat.le_of_ble_eq_true rfl) ?_
  intro p e s m args below meth c cx
  have cx : hg_Cx E p s m args meth c cX4_add 2 RX4 none := cx
  refine hg_aload0 (pc' := 1) cx dX4_add_0 rfl ?_
  refine gf_X4_15 (pc' := 4) cx dX4_add_1 rfl ?_
  refine hg_bipush (pc' := 6) cx (nI 120) dX4_add_4 (by decide) rfl ?_
  refine hg_icmp_ge (pc' := 9) cx 29 dX4_add_6 (by decide) rfl (fun c_6 => ?_) (fun c_6 => ?_)
  ·
    exact absurd (hg_ge (n := 120) (j := k) rfl (by omega) (by omega) (hl ▸ c_6)) (by omega)
  ·
    refine hg_aload0 (pc' := 10) cx dX4_add_9 rfl ?_
    refine gf_X4_9 (pc' := 13) cx dX4_add_10 rfl ?_
    refine hg_aload0 (pc' := 14) cx dX4_add_13 rfl ?_
    refine gf_X4_15 (pc' := 17) cx dX4_add_14 rfl ?_
    rw [hl]
    refine hg_iload1 (pc' := 18) cx dX4_add_17 rfl ?_
    refine hg_iast2 (pc' := 19) cx (by decide) (hg_ceI8 E) hk (by decide) dX4_add_18 rfl ?_
    refine hg_aload0 (pc' := 20) cx dX4_add_19 rfl ?_
    refine hg_dup (pc' := 21) cx rfl dX4_add_20 rfl ?_
    refine gf_X4_15 (pc' := 24) cx dX4_add_21 rfl ?_
    refine hg_iconst (pc' := 25) cx 1 dX4_add_24 (by decide) rfl ?_
    refine hg_iadd (pc' := 26) cx dX4_add_25 rfl ?_
    refine pf_X4_15 (pc' := 29) cx dX4_add_26 rfl ?_
    refine hg_vret cx dX4_add_29 ⟨rfl, ?_⟩
    rw [show (hg_sI σ 8 k b).1 7 1 + 1 = nI (k + 1) from by rw [hg_sI_eq, hg_sH_ne _ _ (show (7 : Nat) ≠ 8 by decide), hl, nI_1]]
set_option maxHeartbeats 4000000 in
set_option maxRecDepth 100000 in
theorem K_X5_feed (l : Launch) (E : hg_Wd) (σ : hg_Mem) (S : sp_S) (hc : cw_C σ S) (hv : vs_S S) (b : Int32) (N : Int32) : hg_C l E yX5_feed cX5_feed 4 (some .int) { frames := 2, cells := 0, slots := 0, locals := 44 } [.ref (hg_ad E 0), .int b, .int N] σ (hg_pi (fun r τ => cw_P σ (op_feed S b N) r τ)) := by
  refine hg_intro (by decide) [some (.ref (hg_ad E 0)), some (.int b), some (.int N), none] rfl (Nat.le_of_ble_eq_true rfl) ?_
  intro p e s m args below meth c cx
  have cx : hg_Cx E p s m args meth c cX5_feed 4 RX5 (some .int) := cx
  obtain ⟨hn10, hn, g0, g1, g2, hag⟩ := hc.get
  refine hg_iload2 (pc' := 1) cx dX5_feed_0 rfl ?_
  refine hg_iconst (pc' := 2) cx 1 dX5_feed_1 (by decide) rfl ?_
  refine hg_iconst (pc' := 3) cx 4 dX5_feed_2 (by decide) rfl ?_
  refine cs_X5_40 (pc' := 6) cx (K_X5_outside l E _ _ _ _) ⟨rfl, rfl, Nat.le_of_ble_eq_true rfl, Nat.le_of_ble_eq_true rfl⟩ (Nat.le_of_ble_eq_true rfl) dX5_feed_3 rfl (fun r_3 τ_3 h_3 => ?_)
  obtain ⟨rfl, rfl⟩ := h_3
  refine hg_if_eq (pc' := 9) cx 16 dX5_feed_6 (by decide) rfl (fun c_6 => ?_) (fun c_6 => ?_)
  ·
    obtain ⟨a0, ha1, ha2, rfl⟩ := sp_out_of 1 4 (by decide) (by decide) (by decide) (by decide) c_6
    obtain ⟨a, rfl⟩ : ∃ a, a0 = a + 1 := ⟨a0 - 1, by omega⟩
    have hca : (nI (a + 1)).toNatClampNeg = a + 1 := nI_clamp (by omega)
    obtain ⟨tl, htl, etl⟩ := hv.2.2.2.1
    have htp := hc.2.2.2.1
    refine hg_aload0 (pc' := 17) cx dX5_feed_16 rfl ?_
    refine gf_X5_25 (pc' := 20) cx dX5_feed_17 rfl ?_
    refine gf_X5_176 (pc' := 23) cx dX5_feed_20 rfl ?_
    refine gf_X5_180 (pc' := 26) cx dX5_feed_23 rfl ?_
    refine hg_bipush (pc' := 28) cx 120 dX5_feed_26 (by decide) rfl ?_
    refine hg_iload2 (pc' := 29) cx dX5_feed_28 rfl ?_
    refine hg_isub (pc' := 30) cx dX5_feed_29 rfl ?_
    refine hg_icmp_le (pc' := 33) cx 40 dX5_feed_30 (by decide) rfl (fun c_30 => ?_) (fun c_30 => ?_)
    ·
      have hle : tl + (a + 1) ≤ 120 := by
        rw [htp, etl, show (120 : Int32) - nI (a + 1) = nI (120 - (a + 1)) from pk_sub (a := 120) (by omega)] at c_30
        have := (nI_leI (by omega) (by omega)).mp c_30
        omega
      refine hg_iload2 (pc' := 41) cx dX5_feed_40 rfl ?_
      refine hg_iconst (pc' := 42) cx 1 dX5_feed_41 (by decide) rfl ?_
      refine hg_isub (pc' := 43) cx dX5_feed_42 rfl ?_
      rw [nI_pred]
      refine hg_istore3 (pc' := 44) cx rfl dX5_feed_43 rfl ?_
      refine hg_nm (fun μ hμ => ?_)
      refine hg_loop (α := hg_Mem × sp_S × Int32 × Nat) (I := fun z => cw_C z.1 z.2.1 ∧ cw_Fr σ z.1 ∧ z.2.2.1 = nI z.2.2.2 - 1 ∧ z.2.2.2 ≤ a + 1 ∧ z.2.1.2.1 0 1 = nI (tl + (a + 1 - z.2.2.2)) ∧ sp_feed b z.2.2.2 z.2.1 = sp_feed b (a + 1) S) (P := fun z => hg_G E p l e { frames := 2, cells := 0, slots := 0, locals := 44 } s m args below meth c 4 (MQ below (hg_Qc E (hg_pi (fun r τ => cw_P σ (op_feed S b (nI (a + 1))) r τ))) args s 0 0 (hg_AW E)) z.1 44 [some (.ref (hg_ad E 0)), some (.int b), some (.int (nI (a + 1))), some (.int z.2.2.1)] []) (fun z => z.2.2.2) ?_ (μ, S, nI a, a + 1) ?_
      rotate_left
      · subst hμ
        try dsimp only
        exact ⟨hc, cw_Fr.rf _, (nI_pred _).symm, Nat.le_refl _, by rw [etl, Nat.sub_self, Nat.add_zero], rfl⟩
      clear hμ μ
      rintro ⟨τ, T, x, i⟩ hI ih_44
      try dsimp only at hI ih_44 ⊢
      have hx := hI.2.2.1
      have hia := hI.2.2.2.1
      refine hg_iload3 (pc' := 45) cx dX5_feed_44 rfl ?_
      refine hg_if_lt (pc' := 48) cx 74 dX5_feed_45 (by decide) rfl (fun c_45 => ?_) (fun c_45 => ?_)
      ·
        refine hg_aload0 (pc' := 75) cx dX5_feed_74 rfl ?_
        refine gf_X5_25 (pc' := 78) cx dX5_feed_75 rfl ?_
        refine gf_X5_176 (pc' := 81) cx dX5_feed_78 rfl ?_
        refine gf_X5_180 (pc' := 84) cx dX5_feed_81 rfl ?_
        refine hg_iret cx dX5_feed_84 ⟨_, rfl, ?_⟩
        obtain rfl : i = 0 := by
          rcases Nat.eq_zero_or_pos i with q | q
          · exact q
          · obtain ⟨i1, rfl⟩ : ∃ i1, i = i1 + 1 := ⟨i - 1, by omega⟩
            rw [hx, nI_pred] at c_45
            exact absurd c_45 (nI_pos (by omega))
        simp only [op_feed, c_6, hca, ← htp, c_30, not_true_eq_false, not_false_eq_true, if_true, if_false]
        refine ⟨?_, ?_, hI.2.1⟩
        · rw [hI.1.2.2.2.1, hI.2.2.2.2.1, htp, etl, nI_add]
          rfl
        · rw [← hI.2.2.2.2.2]; exact hI.1
      ·
        obtain ⟨i0, rfl⟩ : ∃ i0, i = i0 + 1 := by
          refine ⟨i - 1, ?_⟩
          rcases Nat.eq_zero_or_pos i with q | q
          · rw [hx, q] at c_45; exact absurd (by decide) c_45
          · omega
        rw [nI_pred] at hx
        subst hx
        refine hg_aload0 (pc' := 49) cx dX5_feed_48 rfl ?_
        refine gf_X5_25 (pc' := 52) cx dX5_feed_49 rfl ?_
        refine gf_X5_176 (pc' := 55) cx dX5_feed_52 rfl ?_
        refine hg_iload1 (pc' := 56) cx dX5_feed_55 rfl ?_
        refine hg_bipush (pc' := 58) cx 8 dX5_feed_56 (by decide) rfl ?_
        refine hg_iload3 (pc' := 59) cx dX5_feed_58 rfl ?_
        refine hg_imul (pc' := 60) cx dX5_feed_59 rfl ?_
        refine hg_iushr (pc' := 61) cx dX5_feed_60 rfl ?_
        refine hg_sipush (pc' := 64) cx 255 dX5_feed_61 (by decide) rfl ?_
        refine hg_iand (pc' := 65) cx dX5_feed_64 rfl ?_
        refine cv_X5_185 (pc' := 68) cx (K_X4_add l E _ (tl + (a + 1 - (i0 + 1))) (by omega) (hI.1.2.2.2.1.trans hI.2.2.2.2.1) (sp_byte b i0)) ⟨rfl, rfl, Nat.le_of_ble_eq_true rfl, Nat.le_of_ble_eq_true rfl⟩ (Nat.le_of_ble_eq_true rfl) dX5_feed_65 rfl (fun τ_65 h_65 => ?_)
        obtain rfl := h_65
        refine hg_iinc3m (pc' := 71) cx rfl dX5_feed_68 rfl ?_
        refine hg_goto cx 44 dX5_feed_71 (by decide) ?_
        refine hg_nm (fun μ hμ => ?_)
        refine ih_44 (μ, sp_push T (sp_byte b i0), nI i0 + (-1), i0) ?_ ?_
        · subst hμ
          try dsimp only
          obtain ⟨q1, q2⟩ := hI.1.push (k := tl + (a + 1 - (i0 + 1))) (by omega) hI.2.2.2.2.1 (sp_byte b i0)
          refine ⟨q1, hI.2.1.tr q2, (by rw [Int32.sub_eq_add_neg]), by omega, ?_, hI.2.2.2.2.2⟩
          show va_up (T.2.1 0) 1 (T.2.1 0 1 + 1) 1 = _
          rw [va_upE, hI.2.2.2.2.1, nI_1, show tl + (a + 1 - (i0 + 1)) + 1 = tl + (a + 1 - i0) by omega]
        · show i0 < i0 + 1
          omega
    ·
      refine hg_aload0 (pc' := 34) cx dX5_feed_33 rfl ?_
      refine hg_ldc (pc' := 36) cx kc_X5_82 dX5_feed_34 rfl ?_
      refine cv_X5_45 (pc' := 39) cx (K_X5_finding l E _ (-1000000002) 1 (by decide) (by decide)) ⟨rfl, rfl, Nat.le_of_ble_eq_true rfl, Nat.le_of_ble_eq_true rfl⟩ (Nat.le_of_ble_eq_true rfl) dX5_feed_36 rfl (fun r_36 τ_36 h_36 => ?_)
      obtain ⟨rfl, rfl⟩ := h_36
      refine hg_iret cx dX5_feed_39 ⟨_, rfl, ?_⟩
      simp only [op_feed, c_6, ← htp, c_30, not_true_eq_false, not_false_eq_true, if_true, if_false]
      exact hc.find (by decide) (by decide)
  ·
    refine hg_aload0 (pc' := 10) cx dX5_feed_9 rfl ?_
    refine hg_ldc (pc' := 12) cx kc_X5_44 dX5_feed_10 rfl ?_
    refine cv_X5_45 (pc' := 15) cx (K_X5_finding l E _ (-1000000001) 0 (by decide) (by decide)) ⟨rfl, rfl, Nat.le_of_ble_eq_true rfl, Nat.le_of_ble_eq_true rfl⟩ (Nat.le_of_ble_eq_true rfl) dX5_feed_12 rfl (fun r_12 τ_12 h_12 => ?_)
    obtain ⟨rfl, rfl⟩ := h_12
    refine hg_iret cx dX5_feed_15 ⟨_, rfl, ?_⟩
    simp only [op_feed, c_6, not_true_eq_false, not_false_eq_true, true_or, or_true, false_or, or_false, or_self, if_true, if_false, and_self]
    exact hc.find (by decide) (by decide)
set_option maxHeartbeats 4000000 in
set_option maxRecDepth 100000 in
theorem K_X5_wipe (l : Launch) (E : hg_Wd) (σ : hg_Mem) (S : sp_S) (hc : cw_C σ S) : hg_C l E yX5_wipe cX5_wipe 2 (some .int) { frames := 0, cells := 0, slots := 0, locals := 0 } [.ref (hg_ad E 0)] σ (hg_pi (fun r τ => cw_P σ (op_wipe S ) r τ)) := by
  refine hg_intro (by decide) [some (.ref (hg_ad E 0)), none] rfl (Nat.le_of_ble_eq_true rfl) ?_
  intro p e s m args below meth c cx
  have cx : hg_Cx E p s m args meth c cX5_wipe 2 RX5 (some .int) := cx
  obtain ⟨hn10, hn, g0, g1, g2, hag⟩ := hc.get
  refine hg_aload0 (pc' := 1) cx dX5_wipe_0 rfl ?_
  refine gf_X5_25 (pc' := 4) cx dX5_wipe_1 rfl ?_
  refine gf_X5_176 (pc' := 7) cx dX5_wipe_4 rfl ?_
  refine gf_X5_180 (pc' := 10) cx dX5_wipe_7 rfl ?_
  refine hg_istore1 (pc' := 11) cx rfl dX5_wipe_10 rfl ?_
  refine hg_aload0 (pc' := 12) cx dX5_wipe_11 rfl ?_
  refine gf_X5_25 (pc' := 15) cx dX5_wipe_12 rfl ?_
  refine gf_X5_176 (pc' := 18) cx dX5_wipe_15 rfl ?_
  refine hg_iconst (pc' := 19) cx 0 dX5_wipe_18 (by decide) rfl ?_
  refine pf_X5_180 (pc' := 22) cx dX5_wipe_19 rfl ?_
  refine hg_iload1 (pc' := 23) cx dX5_wipe_22 rfl ?_
  refine hg_iret cx dX5_wipe_23 ⟨_, rfl, ?_⟩
  exact ⟨hc.2.2.2.1, hc.len 0⟩
set_option maxHeartbeats 4000000 in
set_option maxRecDepth 100000 in
theorem K_X5_image (l : Launch) (E : hg_Wd) (σ : hg_Mem) (S : sp_S) (hc : cw_C σ S) : hg_C l E yX5_image cX5_image 1 (some .int) { frames := 2, cells := 0, slots := 0, locals := 43 } [.ref (hg_ad E 0)] σ (hg_pi (fun r τ => cw_P σ (op_image S ) r τ)) := by
  refine hg_intro (by decide) [some (.ref (hg_ad E 0))] rfl (Nat.le_of_ble_eq_true rfl) ?_
  intro p e s m args below meth c cx
  have cx : hg_Cx E p s m args meth c cX5_image 1 RX5 (some .int) := cx
  obtain ⟨hn10, hn, g0, g1, g2, hag⟩ := hc.get
  refine hg_aload0 (pc' := 1) cx dX5_image_0 rfl ?_
  refine gf_X5_19 (pc' := 4) cx dX5_image_1 rfl ?_
  refine hg_aload0 (pc' := 5) cx dX5_image_4 rfl ?_
  refine gf_X5_10 (pc' := 8) cx dX5_image_5 rfl ?_
  refine cv_X5_141 (pc' := 11) cx (by first | assumption | omega | decide) (by first | assumption | omega | decide) (K_X3_become l E _ 3 (by decide) (by decide) 1 (by decide) (by decide) (by decide) (S.1 0).2 hn10 hn) ⟨rfl, rfl, Nat.le_of_ble_eq_true rfl, Nat.le_of_ble_eq_true rfl⟩ (Nat.le_of_ble_eq_true rfl) dX5_image_8 rfl (fun τ_8 h_8 => ?_)
  obtain ⟨hF1, h4, hA⟩ := h_8
  have hR2 := hc.1.bec h4 hA
  refine hg_aload0 (pc' := 12) cx dX5_image_11 rfl ?_
  refine hg_iconst (pc' := 13) cx 1 dX5_image_12 (by decide) rfl ?_
  refine pf_X5_235 (pc' := 16) cx ⟨rfl, rfl⟩ dX5_image_13 rfl ?_
  refine hg_iconst (pc' := 17) cx 1 dX5_image_16 (by decide) rfl ?_
  refine hg_iret cx dX5_image_17 ⟨_, rfl, ?_⟩
  exact ⟨rfl, hc.image hF1 hR2⟩
set_option maxHeartbeats 4000000 in
set_option maxRecDepth 100000 in
theorem K_X5_undo (l : Launch) (E : hg_Wd) (σ : hg_Mem) (S : sp_S) (hc : cw_C σ S) (hv : vs_S S) : hg_C l E yX5_undo cX5_undo 1 (some .int) { frames := 2, cells := 0, slots := 0, locals := 44 } [.ref (hg_ad E 0)] σ (hg_pi (fun r τ => cw_P σ (op_undo S ) r τ)) := by
  refine hg_intro (by decide) [some (.ref (hg_ad E 0))] rfl (Nat.le_of_ble_eq_true rfl) ?_
  intro p e s m args below meth c cx
  have cx : hg_Cx E p s m args meth c cX5_undo 1 RX5 (some .int) := cx
  obtain ⟨hn10, hn, g0, g1, g2, hag⟩ := hc.get
  refine hg_aload0 (pc' := 1) cx dX5_undo_0 rfl ?_
  refine gf_X5_235 (pc' := 4) cx dX5_undo_1 rfl ?_
  refine hg_if_ne (pc' := 7) cx 14 dX5_undo_4 (by decide) rfl (fun c_4 => ?_) (fun c_4 => ?_)
  ·
    have hk1 : S.2.1 0 0 = 1 := hv.2.2.1.elim (fun z => absurd (hc.2.2.1.trans z) c_4) id
    have hR3 := hc.2.1 hk1
    refine hg_aload0 (pc' := 15) cx dX5_undo_14 rfl ?_
    refine gf_X5_10 (pc' := 18) cx dX5_undo_15 rfl ?_
    refine hg_aload0 (pc' := 19) cx dX5_undo_18 rfl ?_
    refine gf_X5_19 (pc' := 22) cx dX5_undo_19 rfl ?_
    refine cv_X5_141 (pc' := 25) cx (by first | assumption | omega | decide) (by first | assumption | omega | decide) (K_X3_become l E _ 1 (by decide) (by decide) 3 (by decide) (by decide) (by decide) (S.1 1).2 hR3.1 ((hR3.2.2.1 3 (by decide)).trans hR3.2.1)) ⟨rfl, rfl, Nat.le_of_ble_eq_true rfl, Nat.le_of_ble_eq_true rfl⟩ (Nat.le_of_ble_eq_true rfl) dX5_undo_22 rfl (fun τ_22 h_22 => ?_)
    obtain ⟨hF1, h4, hA⟩ := h_22
    have hR2 := hR3.bec h4 hA
    refine hg_aload0 (pc' := 26) cx dX5_undo_25 rfl ?_
    refine gf_X5_10 (pc' := 29) cx dX5_undo_26 rfl ?_
    refine gf_X5_87 (pc' := 32) cx (by first | assumption | omega | decide) (by first | assumption | omega | decide) dX5_undo_29 rfl ?_
    refine hg_iret cx dX5_undo_32 ⟨_, rfl, ?_⟩
    simp only [op_undo, ← hc.2.2.1, c_4, if_false]
    exact ⟨(hR2.2.2.1 3 (by decide)).trans hR2.2.1, hc.setC _ _ hF1 hR2⟩
  ·
    refine hg_aload0 (pc' := 8) cx dX5_undo_7 rfl ?_
    refine hg_ldc (pc' := 10) cx kc_X5_148 dX5_undo_8 rfl ?_
    refine cv_X5_45 (pc' := 13) cx (K_X5_finding l E _ (-1000000004) 3 (by decide) (by decide)) ⟨rfl, rfl, Nat.le_of_ble_eq_true rfl, Nat.le_of_ble_eq_true rfl⟩ (Nat.le_of_ble_eq_true rfl) dX5_undo_10 rfl (fun r_10 τ_10 h_10 => ?_)
    obtain ⟨rfl, rfl⟩ := h_10
    refine hg_iret cx dX5_undo_13 ⟨_, rfl, ?_⟩
    simp only [op_undo, ← hc.2.2.1, c_4, if_true]
    exact hc.find (by decide) (by decide)
set_option maxHeartbeats 4000000 in
set_option maxRecDepth 100000 in
theorem K_X5_tear (l : Launch) (E : hg_Wd) (σ : hg_Mem) (S : sp_S) (hc : cw_C σ S) : hg_C l E yX5_tear cX5_tear 2 (some .int) { frames := 0, cells := 0, slots := 0, locals := 0 } [.ref (hg_ad E 0)] σ (hg_pi (fun r τ => cw_P σ (op_tear S ) r τ)) := by
  refine hg_intro (by decide) [some (.ref (hg_ad E 0)), none] rfl (Nat.le_of_ble_eq_true rfl) ?_
  intro p e s m args below meth c cx
  have cx : hg_Cx E p s m args meth c cX5_tear 2 RX5 (some .int) := cx
  obtain ⟨hn10, hn, g0, g1, g2, hag⟩ := hc.get
  refine hg_aload0 (pc' := 1) cx dX5_tear_0 rfl ?_
  refine gf_X5_235 (pc' := 4) cx dX5_tear_1 rfl ?_
  refine hg_if_eq (pc' := 7) cx 11 dX5_tear_4 (by decide) rfl (fun c_4 => ?_) (fun c_4 => ?_)
  ·
    refine hg_iconst (pc' := 12) cx 0 dX5_tear_11 (by decide) rfl ?_
    refine hg_istore1 (pc' := 13) cx rfl dX5_tear_12 rfl ?_
    refine hg_aload0 (pc' := 14) cx dX5_tear_13 rfl ?_
    refine hg_iconst (pc' := 15) cx 0 dX5_tear_14 (by decide) rfl ?_
    refine pf_X5_235 (pc' := 18) cx ⟨rfl, rfl⟩ dX5_tear_15 rfl ?_
    refine hg_iload1 (pc' := 19) cx dX5_tear_18 rfl ?_
    refine hg_iret cx dX5_tear_19 ⟨_, rfl, ?_⟩
    exact ⟨by simp only [op_tear, ← hc.2.2.1, c_4, if_true, if_false], hc.kept⟩
  ·
    refine hg_iconst (pc' := 8) cx 1 dX5_tear_7 (by decide) rfl ?_
    refine hg_goto cx 12 dX5_tear_8 (by decide) ?_
    refine hg_istore1 (pc' := 13) cx rfl dX5_tear_12 rfl ?_
    refine hg_aload0 (pc' := 14) cx dX5_tear_13 rfl ?_
    refine hg_iconst (pc' := 15) cx 0 dX5_tear_14 (by decide) rfl ?_
    refine pf_X5_235 (pc' := 18) cx ⟨rfl, rfl⟩ dX5_tear_15 rfl ?_
    refine hg_iload1 (pc' := 19) cx dX5_tear_18 rfl ?_
    refine hg_iret cx dX5_tear_19 ⟨_, rfl, ?_⟩
    exact ⟨by simp only [op_tear, ← hc.2.2.1, c_4, if_true, if_false], hc.kept⟩
set_option maxHeartbeats 4000000 in
set_option maxRecDepth 100000 in
theorem K_X5_count (l : Launch) (E : hg_Wd) (σ : hg_Mem) (S : sp_S) (hc : cw_C σ S) (w : Int32) : hg_C l E yX5_count cX5_count 2 (some .int) { frames := 2, cells := 0, slots := 0, locals := 44 } [.ref (hg_ad E 0), .int w] σ (hg_pi (fun r τ => cw_P σ (op_count S w) r τ)) := by
  refine hg_intro (by decide) [some (.ref (hg_ad E 0)), some (.int w)] rfl (Nat.le_of_ble_eq_true rfl) ?_
  intro p e s m args below meth c cx
  have cx : hg_Cx E p s m args meth c cX5_count 2 RX5 (some .int) := cx
  obtain ⟨hn10, hn, g0, g1, g2, hag⟩ := hc.get
  refine hg_iload1 (pc' := 1) cx dX5_count_0 rfl ?_
  refine hg_tsw cx [0, 1, 2, 3] [32, 40, 51, 60] 69 dX5_count_1 (by decide) (by decide) (fun c_1 => ?_) (fun i v t hk ht c_1 => ?_)
  ·
    simp only [List.mem_cons, List.not_mem_nil, or_false, forall_eq_or_imp, forall_eq] at c_1
    refine hg_aload0 (pc' := 70) cx dX5_count_69 rfl ?_
    refine hg_ldc (pc' := 72) cx kc_X5_44 dX5_count_70 rfl ?_
    refine cv_X5_45 (pc' := 75) cx (K_X5_finding l E _ (-1000000001) 0 (by decide) (by decide)) ⟨rfl, rfl, Nat.le_of_ble_eq_true rfl, Nat.le_of_ble_eq_true rfl⟩ (Nat.le_of_ble_eq_true rfl) dX5_count_72 rfl (fun r_72 τ_72 h_72 => ?_)
    obtain ⟨rfl, rfl⟩ := h_72
    refine hg_iret cx dX5_count_75 ⟨_, rfl, ?_⟩
    simp (decide := true) only [op_count, c_1, if_true, if_false]
    exact hc.find (by decide) (by decide)
  ·
    match i, hk, ht with
    | 0, hk, ht =>
      cases hk; cases ht
      refine hg_aload0 (pc' := 33) cx dX5_count_32 rfl ?_
      refine gf_X5_10 (pc' := 36) cx dX5_count_33 rfl ?_
      refine gf_X5_87 (pc' := 39) cx (by first | assumption | omega | decide) (by first | assumption | omega | decide) dX5_count_36 rfl ?_
      refine hg_iret cx dX5_count_39 ⟨_, rfl, ?_⟩
      simp (decide := true) only [op_count, c_1, if_true, if_false]
      exact ⟨hn, hc, cw_Fr.rf _⟩
    | 1, hk, ht =>
      cases hk; cases ht
      refine hg_aload0 (pc' := 41) cx dX5_count_40 rfl ?_
      refine gf_X5_25 (pc' := 44) cx dX5_count_41 rfl ?_
      refine gf_X5_176 (pc' := 47) cx dX5_count_44 rfl ?_
      refine gf_X5_180 (pc' := 50) cx dX5_count_47 rfl ?_
      refine hg_iret cx dX5_count_50 ⟨_, rfl, ?_⟩
      simp (decide := true) only [op_count, c_1, if_true, if_false]
      exact ⟨hc.2.2.2.1, hc, cw_Fr.rf _⟩
    | 2, hk, ht =>
      cases hk; cases ht
      refine hg_aload0 (pc' := 52) cx dX5_count_51 rfl ?_
      refine gf_X5_10 (pc' := 55) cx dX5_count_52 rfl ?_
      refine hg_iconst (pc' := 56) cx 2 dX5_count_55 (by decide) rfl ?_
      refine cv_X5_170 (pc' := 59) cx (by first | assumption | omega | decide) (by first | assumption | omega | decide) (K_X3_sum l E _ 1 (by decide) (by decide) (S.1 0).2 hn10 hn _) ⟨rfl, rfl, Nat.le_of_ble_eq_true rfl, Nat.le_of_ble_eq_true rfl⟩ (Nat.le_of_ble_eq_true rfl) dX5_count_56 rfl (fun r_56 τ_56 h_56 => ?_)
      obtain ⟨rfl, rfl⟩ := h_56
      refine hg_iret cx dX5_count_59 ⟨_, rfl, ?_⟩
      simp (decide := true) only [op_count, c_1, if_true, if_false]
      exact ⟨sp_sum_ag _ _ hag, hc, cw_Fr.rf _⟩
    | 3, hk, ht =>
      cases hk; cases ht
      refine hg_aload0 (pc' := 61) cx dX5_count_60 rfl ?_
      refine gf_X5_10 (pc' := 64) cx dX5_count_61 rfl ?_
      refine hg_iconst (pc' := 65) cx 3 dX5_count_64 (by decide) rfl ?_
      refine cv_X5_170 (pc' := 68) cx (by first | assumption | omega | decide) (by first | assumption | omega | decide) (K_X3_sum l E _ 1 (by decide) (by decide) (S.1 0).2 hn10 hn _) ⟨rfl, rfl, Nat.le_of_ble_eq_true rfl, Nat.le_of_ble_eq_true rfl⟩ (Nat.le_of_ble_eq_true rfl) dX5_count_65 rfl (fun r_65 τ_65 h_65 => ?_)
      obtain ⟨rfl, rfl⟩ := h_65
      refine hg_iret cx dX5_count_68 ⟨_, rfl, ?_⟩
      simp (decide := true) only [op_count, c_1, if_true, if_false]
      exact ⟨sp_sum_ag _ _ hag, hc, cw_Fr.rf _⟩
    | j + 4, hk, ht => exact absurd hk (by simp)
set_option maxHeartbeats 4000000 in
set_option maxRecDepth 100000 in
theorem K_X5_status (l : Launch) (E : hg_Wd) (σ : hg_Mem) (S : sp_S) (hc : cw_C σ S) (w : Int32) : hg_C l E yX5_status cX5_status 4 (some .int) { frames := 2, cells := 0, slots := 0, locals := 44 } [.ref (hg_ad E 0), .int w] σ (hg_pi (fun r τ => cw_P σ (op_status S w) r τ)) := by
  refine hg_intro (by decide) [some (.ref (hg_ad E 0)), some (.int w), none, none] rfl (Nat.le_of_ble_eq_true rfl) ?_
  intro p e s m args below meth c cx
  have cx : hg_Cx E p s m args meth c cX5_status 4 RX5 (some .int) := cx
  obtain ⟨hn10, hn, g0, g1, g2, hag⟩ := hc.get
  refine hg_iload1 (pc' := 1) cx dX5_status_0 rfl ?_
  refine hg_iconst (pc' := 2) cx (-1) dX5_status_1 (by decide) rfl ?_
  refine hg_bipush (pc' := 4) cx 6 dX5_status_2 (by decide) rfl ?_
  refine cs_X5_40 (pc' := 7) cx (K_X5_outside l E _ _ _ _) ⟨rfl, rfl, Nat.le_of_ble_eq_true rfl, Nat.le_of_ble_eq_true rfl⟩ (Nat.le_of_ble_eq_true rfl) dX5_status_4 rfl (fun r_4 τ_4 h_4 => ?_)
  obtain ⟨rfl, rfl⟩ := h_4
  refine hg_if_eq (pc' := 10) cx 17 dX5_status_7 (by decide) rfl (fun c_7 => ?_) (fun c_7 => ?_)
  ·
    refine hg_iload1 (pc' := 18) cx dX5_status_17 rfl ?_
    refine hg_if_lt (pc' := 21) cx 28 dX5_status_18 (by decide) rfl (fun c_18 => ?_) (fun c_18 => ?_)
    ·
      refine hg_iconst (pc' := 29) cx 0 dX5_status_28 (by decide) rfl ?_
      refine hg_istore2 (pc' := 30) cx rfl dX5_status_29 rfl ?_
      refine hg_iconst (pc' := 31) cx (nI 0) dX5_status_30 (by decide) rfl ?_
      refine hg_istore3 (pc' := 32) cx rfl dX5_status_31 rfl ?_
      refine hg_loop (α := Int32 × Nat) (I := fun z => z.2 ≤ 7 ∧ z.1 = sp_fsum (σ.1 11) z.2) (P := fun z => hg_G E p l e { frames := 2, cells := 0, slots := 0, locals := 44 } s m args below meth c 4 (MQ below (hg_Qc E (hg_pi (fun r τ => cw_P σ (op_status S w) r τ))) args s 0 0 (hg_AW E)) σ 32 [some (.ref (hg_ad E 0)), some (.int w), some (.int z.1), some (.int (nI z.2))] []) (fun z => 7 - z.2) ?_ (0, 0) ?_
      rotate_left
      · try dsimp only
        exact ⟨by omega, rfl⟩
      rintro ⟨x, i⟩ hI ih_32
      try dsimp only at hI ih_32 ⊢
      have hi7 := hI.1
      refine hg_iload3 (pc' := 33) cx dX5_status_32 rfl ?_
      refine hg_bipush (pc' := 35) cx (nI 7) dX5_status_33 (by decide) rfl ?_
      refine hg_icmp_ge (pc' := 38) cx 53 dX5_status_35 (by decide) rfl (fun c_35 => ?_) (fun c_35 => ?_)
      ·
        have hi := hg_ge (n := 7) (j := i) rfl (by omega) (by omega) c_35
        refine hg_iload2 (pc' := 54) cx dX5_status_53 rfl ?_
        refine hg_iret cx dX5_status_54 ⟨_, rfl, ?_⟩
        obtain rfl : i = 7 := by omega
        simp only [op_status, c_7, c_18, not_true_eq_false, if_false, if_true]
        exact ⟨hI.2.trans (sp_fsum_ag 7 hc.2.2.2.2.1), hc, cw_Fr.rf _⟩
      ·
        have hi := hg_nge (n := 7) (j := i) rfl (by omega) (by omega) c_35
        refine hg_iload2 (pc' := 39) cx dX5_status_38 rfl ?_
        refine hg_aload0 (pc' := 40) cx dX5_status_39 rfl ?_
        refine gf_X5_35 (pc' := 43) cx dX5_status_40 rfl ?_
        refine hg_iload3 (pc' := 44) cx dX5_status_43 rfl ?_
        refine hg_iald2 (pc' := 45) cx (by decide) (hg_ceI11 E) (by omega) (by decide) dX5_status_44 rfl ?_
        refine hg_iadd (pc' := 46) cx dX5_status_45 rfl ?_
        refine hg_istore2 (pc' := 47) cx rfl dX5_status_46 rfl ?_
        refine hg_iinc3p (pc' := 50) cx rfl dX5_status_47 rfl ?_
        refine hg_goto cx 32 dX5_status_50 (by decide) ?_
        rw [nI_1]
        refine ih_32 (_, i + 1) ?_ ?_
        · try dsimp only
          exact ⟨by omega, by rw [hI.2]; rfl⟩
        · show 7 - (i + 1) < 7 - i
          omega
    ·
      obtain ⟨a, ha1, ha2, rfl⟩ : ∃ a, 0 ≤ a ∧ a ≤ 6 ∧ w = nI a := by
        obtain ⟨a, ha, rfl⟩ := nI_of c_18
        refine ⟨a, Nat.zero_le _, ?_, rfl⟩
        have h1 := hg_b0 c_7
        rcases Nat.lt_or_ge 6 a with q | q
        · exact absurd (Or.inr (nI_lt q ha)) h1
        · exact q
      have hca : (nI a).toNatClampNeg = a := nI_clamp (by omega)
      refine hg_aload0 (pc' := 22) cx dX5_status_21 rfl ?_
      refine gf_X5_35 (pc' := 25) cx dX5_status_22 rfl ?_
      refine hg_iload1 (pc' := 26) cx dX5_status_25 rfl ?_
      refine hg_iald2 (pc' := 27) cx (by decide) (hg_ceI11 E) (by omega) (by decide) dX5_status_26 rfl ?_
      refine hg_iret cx dX5_status_27 ⟨_, rfl, ?_⟩
      simp only [op_status, c_7, c_18, hca, not_true_eq_false, if_false]
      exact ⟨hc.2.2.2.2.1 a (by omega), hc, cw_Fr.rf _⟩
  ·
    refine hg_aload0 (pc' := 11) cx dX5_status_10 rfl ?_
    refine hg_ldc (pc' := 13) cx kc_X5_44 dX5_status_11 rfl ?_
    refine cv_X5_45 (pc' := 16) cx (K_X5_finding l E _ (-1000000001) 0 (by decide) (by decide)) ⟨rfl, rfl, Nat.le_of_ble_eq_true rfl, Nat.le_of_ble_eq_true rfl⟩ (Nat.le_of_ble_eq_true rfl) dX5_status_13 rfl (fun r_13 τ_13 h_13 => ?_)
    obtain ⟨rfl, rfl⟩ := h_13
    refine hg_iret cx dX5_status_16 ⟨_, rfl, ?_⟩
    simp only [op_status, c_7, not_true_eq_false, not_false_eq_true, true_or, or_true, false_or, or_false, or_self, if_true, if_false, and_self]
    exact hc.find (by decide) (by decide)
