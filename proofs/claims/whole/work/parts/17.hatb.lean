set_option maxHeartbeats 4000000 in
set_option maxRecDepth 100000 in
theorem K_J6_bitCount_0f7a4 (l : Launch) (E : hg_Wd) (σ : hg_Mem) (x : Int32) : hg_C l E yJ6_bitCount_0f7a4 cJ6_bitCount_0f7a4 1 (some .int) { frames := 0, cells := 0, slots := 0, locals := 0 } [.int x] σ (hg_pi (fun r τ => r = sp_bc x ∧ σ = τ)) := by
  refine hg_intro (by decide) [some (.int x)] rfl (Nat.le_of_ble_eq_true rfl) ?_
  intro p e s m args below meth c cx
  have cx : hg_Cx E p s m args meth c cJ6_bitCount_0f7a4 1 RJ6 (some .int) := cx
  refine hg_iload0 (pc' := 1) cx dJ6_bitCount_0f7a4_0 rfl ?_
  refine hg_iload0 (pc' := 2) cx dJ6_bitCount_0f7a4_1 rfl ?_
  refine hg_iconst (pc' := 3) cx 1 dJ6_bitCount_0f7a4_2 (by decide) rfl ?_
  refine hg_iushr (pc' := 4) cx dJ6_bitCount_0f7a4_3 rfl ?_
  refine hg_ldcw (pc' := 7) cx kc_J6_265 dJ6_bitCount_0f7a4_4 rfl ?_
  refine hg_iand (pc' := 8) cx dJ6_bitCount_0f7a4_7 rfl ?_
  refine hg_isub (pc' := 9) cx dJ6_bitCount_0f7a4_8 rfl ?_
  refine hg_istore0 (pc' := 10) cx dJ6_bitCount_0f7a4_9 rfl ?_
  refine hg_iload0 (pc' := 11) cx dJ6_bitCount_0f7a4_10 rfl ?_
  refine hg_ldcw (pc' := 14) cx kc_J6_266 dJ6_bitCount_0f7a4_11 rfl ?_
  refine hg_iand (pc' := 15) cx dJ6_bitCount_0f7a4_14 rfl ?_
  refine hg_iload0 (pc' := 16) cx dJ6_bitCount_0f7a4_15 rfl ?_
  refine hg_iconst (pc' := 17) cx 2 dJ6_bitCount_0f7a4_16 (by decide) rfl ?_
  refine hg_iushr (pc' := 18) cx dJ6_bitCount_0f7a4_17 rfl ?_
  refine hg_ldcw (pc' := 21) cx kc_J6_266 dJ6_bitCount_0f7a4_18 rfl ?_
  refine hg_iand (pc' := 22) cx dJ6_bitCount_0f7a4_21 rfl ?_
  refine hg_iadd (pc' := 23) cx dJ6_bitCount_0f7a4_22 rfl ?_
  refine hg_istore0 (pc' := 24) cx dJ6_bitCount_0f7a4_23 rfl ?_
  refine hg_iload0 (pc' := 25) cx dJ6_bitCount_0f7a4_24 rfl ?_
  refine hg_iload0 (pc' := 26) cx dJ6_bitCount_0f7a4_25 rfl ?_
  refine hg_iconst (pc' := 27) cx 4 dJ6_bitCount_0f7a4_26 (by decide) rfl ?_
  refine hg_iushr (pc' := 28) cx dJ6_bitCount_0f7a4_27 rfl ?_
  refine hg_iadd (pc' := 29) cx dJ6_bitCount_0f7a4_28 rfl ?_
  refine hg_ldcw (pc' := 32) cx kc_J6_267 dJ6_bitCount_0f7a4_29 rfl ?_
  refine hg_iand (pc' := 33) cx dJ6_bitCount_0f7a4_32 rfl ?_
  refine hg_istore0 (pc' := 34) cx dJ6_bitCount_0f7a4_33 rfl ?_
  refine hg_iload0 (pc' := 35) cx dJ6_bitCount_0f7a4_34 rfl ?_
  refine hg_iload0 (pc' := 36) cx dJ6_bitCount_0f7a4_35 rfl ?_
  refine hg_bipush (pc' := 38) cx 8 dJ6_bitCount_0f7a4_36 (by decide) rfl ?_
  refine hg_iushr (pc' := 39) cx dJ6_bitCount_0f7a4_38 rfl ?_
  refine hg_iadd (pc' := 40) cx dJ6_bitCount_0f7a4_39 rfl ?_
  refine hg_istore0 (pc' := 41) cx dJ6_bitCount_0f7a4_40 rfl ?_
  refine hg_iload0 (pc' := 42) cx dJ6_bitCount_0f7a4_41 rfl ?_
  refine hg_iload0 (pc' := 43) cx dJ6_bitCount_0f7a4_42 rfl ?_
  refine hg_bipush (pc' := 45) cx 16 dJ6_bitCount_0f7a4_43 (by decide) rfl ?_
  refine hg_iushr (pc' := 46) cx dJ6_bitCount_0f7a4_45 rfl ?_
  refine hg_iadd (pc' := 47) cx dJ6_bitCount_0f7a4_46 rfl ?_
  refine hg_istore0 (pc' := 48) cx dJ6_bitCount_0f7a4_47 rfl ?_
  refine hg_iload0 (pc' := 49) cx dJ6_bitCount_0f7a4_48 rfl ?_
  refine hg_bipush (pc' := 51) cx 63 dJ6_bitCount_0f7a4_49 (by decide) rfl ?_
  refine hg_iand (pc' := 52) cx dJ6_bitCount_0f7a4_51 rfl ?_
  refine hg_iret cx dJ6_bitCount_0f7a4_52 ⟨_, rfl, ?_⟩
  exact ⟨rfl, rfl⟩
set_option maxHeartbeats 4000000 in
set_option maxRecDepth 100000 in
theorem K_X5_comes (l : Launch) (E : hg_Wd) (σ : hg_Mem) (S : sp_S) (hc : cw_C σ S) (q : Int32) (v : Int32) : hg_C l E yX5_comes cX5_comes 4 (some .int) { frames := 5, cells := 0, slots := 0, locals := 112 } [.ref (hg_ad E 0), .int q, .int v] σ (hg_pi (fun r τ => cw_P σ (op_comes S q v) r τ)) := by
  refine hg_intro (by decide) [some (.ref (hg_ad E 0)), some (.int q), some (.int v), none] rfl (Nat.le_of_ble_eq_true rfl) ?_
  intro p e s m args below meth c cx
  have cx : hg_Cx E p s m args meth c cX5_comes 4 RX5 (some .int) := cx
  obtain ⟨hn10, hn, g0, g1, g2, hag⟩ := hc.get
  refine hg_iload1 (pc' := 1) cx dX5_comes_0 rfl ?_
  refine hg_iconst (pc' := 2) cx 0 dX5_comes_1 (by decide) rfl ?_
  refine hg_bipush (pc' := 4) cx 7 dX5_comes_2 (by decide) rfl ?_
  refine cs_X5_40 (pc' := 7) cx (K_X5_outside l E _ _ _ _) ⟨rfl, rfl, Nat.le_of_ble_eq_true rfl, Nat.le_of_ble_eq_true rfl⟩ (Nat.le_of_ble_eq_true rfl) dX5_comes_4 rfl (fun r_4 τ_4 h_4 => ?_)
  obtain ⟨rfl, rfl⟩ := h_4
  refine hg_if_ne (pc' := 10) cx 19 dX5_comes_7 (by decide) rfl (fun c_7 => ?_) (fun c_7 => ?_)
  ·
    refine hg_aload0 (pc' := 20) cx dX5_comes_19 rfl ?_
    refine hg_ldc (pc' := 22) cx kc_X5_44 dX5_comes_20 rfl ?_
    refine cv_X5_45 (pc' := 25) cx (K_X5_finding l E _ (-1000000001) 0 (by decide) (by decide)) ⟨rfl, rfl, Nat.le_of_ble_eq_true rfl, Nat.le_of_ble_eq_true rfl⟩ (Nat.le_of_ble_eq_true rfl) dX5_comes_22 rfl (fun r_22 τ_22 h_22 => ?_)
    obtain ⟨rfl, rfl⟩ := h_22
    refine hg_iret cx dX5_comes_25 ⟨_, rfl, ?_⟩
    simp only [op_comes, c_7, not_true_eq_false, not_false_eq_true, true_or, or_true, false_or, or_false, or_self, if_true, if_false, and_self]
    exact hc.find (by decide) (by decide)
  ·
    refine hg_iload2 (pc' := 11) cx dX5_comes_10 rfl ?_
    refine hg_iconst (pc' := 12) cx 0 dX5_comes_11 (by decide) rfl ?_
    refine hg_iconst (pc' := 13) cx 1 dX5_comes_12 (by decide) rfl ?_
    refine cs_X5_40 (pc' := 16) cx (K_X5_outside l E _ _ _ _) ⟨rfl, rfl, Nat.le_of_ble_eq_true rfl, Nat.le_of_ble_eq_true rfl⟩ (Nat.le_of_ble_eq_true rfl) dX5_comes_13 rfl (fun r_13 τ_13 h_13 => ?_)
    obtain ⟨rfl, rfl⟩ := h_13
    refine hg_if_eq (pc' := 19) cx 26 dX5_comes_16 (by decide) rfl (fun c_16 => ?_) (fun c_16 => ?_)
    ·
      refine hg_aload0 (pc' := 27) cx dX5_comes_26 rfl ?_
      refine gf_X5_16 (pc' := 30) cx dX5_comes_27 rfl ?_
      refine hg_aload0 (pc' := 31) cx dX5_comes_30 rfl ?_
      refine gf_X5_10 (pc' := 34) cx dX5_comes_31 rfl ?_
      refine cv_X5_141 (pc' := 37) cx (by first | assumption | omega | decide) (by first | assumption | omega | decide) (K_X3_become l E _ 2 (by decide) (by decide) 1 (by decide) (by decide) (by decide) (S.1 0).2 hn10 hn) ⟨rfl, rfl, Nat.le_of_ble_eq_true rfl, Nat.le_of_ble_eq_true rfl⟩ (Nat.le_of_ble_eq_true rfl) dX5_comes_34 rfl (fun τ_34 h_34 => ?_)
      obtain ⟨hF1, h4, hA⟩ := h_34
      have hR2 := hc.1.bec h4 hA
      refine hg_iconst (pc' := 38) cx (nI 0) dX5_comes_37 (by decide) rfl ?_
      refine hg_istore3 (pc' := 39) cx rfl dX5_comes_38 rfl ?_
      refine hg_nm (fun μ hμ => ?_)
      refine hg_loop (α := hg_Mem × Nat) (I := fun z => z.2 ≤ 201 ∧ sp_Fr σ z.1 2 ∧ sp_Rep z.1 2 (sp_go (S.1 0).1 (S.1 0).2 z.2) (S.1 0).2 ∧ sp_first (fun k => decide (sp_bit ((sp_go (S.1 0).1 (S.1 0).2 k).1 2) q = v)) 201 0 = sp_first (fun k => decide (sp_bit ((sp_go (S.1 0).1 (S.1 0).2 k).1 2) q = v)) (201 - z.2) z.2) (P := fun z => hg_G E p l e { frames := 5, cells := 0, slots := 0, locals := 112 } s m args below meth c 4 (MQ below (hg_Qc E (hg_pi (fun r τ => cw_P σ (op_comes S q v) r τ))) args s 0 0 (hg_AW E)) z.1 39 [some (.ref (hg_ad E 0)), some (.int q), some (.int v), some (.int (nI z.2))] []) (fun z => 201 - z.2) ?_ (μ, 0) ?_
      rotate_left
      · subst hμ
        try dsimp only
        exact ⟨by omega, hF1, hR2, rfl⟩
      clear hμ μ
      rintro ⟨τ, j⟩ hI ih_39
      try dsimp only at hI ih_39 ⊢
      obtain ⟨hcτ, hfτ⟩ := hc.fr2 hI.2.1
      obtain ⟨-, hnτ, k0, k1, k2, hagτ⟩ := hcτ.get
      refine hg_iload3 (pc' := 40) cx dX5_comes_39 rfl ?_
      refine hg_sipush (pc' := 43) cx (nI 200) dX5_comes_40 (by decide) rfl ?_
      refine hg_icmp_gt (pc' := 46) cx 77 dX5_comes_43 (by decide) rfl (fun c_43 => ?_) (fun c_43 => ?_)
      ·
        have hj := hg_gt (a := 200) (b := j) (by omega) (by omega) c_43
        refine hg_aload0 (pc' := 78) cx dX5_comes_77 rfl ?_
        refine hg_ldc (pc' := 80) cx kc_X5_148 dX5_comes_78 rfl ?_
        refine cv_X5_45 (pc' := 83) cx (K_X5_finding l E _ (-1000000004) 3 (by decide) (by decide)) ⟨rfl, rfl, Nat.le_of_ble_eq_true rfl, Nat.le_of_ble_eq_true rfl⟩ (Nat.le_of_ble_eq_true rfl) dX5_comes_80 rfl (fun r_80 τ_80 h_80 => ?_)
        obtain ⟨rfl, rfl⟩ := h_80
        refine hg_iret cx dX5_comes_83 ⟨_, rfl, ?_⟩
        simp only [op_comes, c_7, c_16, not_true_eq_false, or_self, if_false]
        rw [hI.2.2.2, show 201 - j = 0 by omega]
        exact ⟨((hcτ.find (f := 3) (by decide) (by decide)).1), (hcτ.find (f := 3) (w := -1000000004) (by decide) (by decide)).2.1, hfτ.tr (hcτ.find (f := 3) (w := -1000000004) (by decide) (by decide)).2.2⟩
      ·
        have hj := hg_ngt (a := 200) (b := j) (by omega) (by omega) c_43
        refine hg_aload0 (pc' := 47) cx dX5_comes_46 rfl ?_
        refine gf_X5_16 (pc' := 50) cx dX5_comes_47 rfl ?_
        refine gf_X5_53 (pc' := 53) cx (by first | assumption | omega | decide) (by first | assumption | omega | decide) dX5_comes_50 rfl ?_
        refine hg_iload1 (pc' := 54) cx dX5_comes_53 rfl ?_
        refine cs_X5_145 (pc' := 57) cx (K_X5_bit l E _ _ _) ⟨rfl, rfl, Nat.le_of_ble_eq_true rfl, Nat.le_of_ble_eq_true rfl⟩ (Nat.le_of_ble_eq_true rfl) dX5_comes_54 rfl (fun r_54 τ_54 h_54 => ?_)
        obtain ⟨rfl, rfl⟩ := h_54
        refine hg_iload2 (pc' := 58) cx dX5_comes_57 rfl ?_
        refine hg_icmp_ne (pc' := 61) cx 63 dX5_comes_58 (by decide) rfl (fun c_58 => ?_) (fun c_58 => ?_)
        ·
          refine hg_aload0 (pc' := 64) cx dX5_comes_63 rfl ?_
          refine gf_X5_16 (pc' := 67) cx dX5_comes_64 rfl ?_
          refine hg_iconst (pc' := 68) cx (nI 1) dX5_comes_67 (by decide) rfl ?_
          refine cv_X5_134 (pc' := 71) cx (by first | assumption | omega | decide) (by first | assumption | omega | decide) (K_X3_go l E _ 2 (by decide) (by decide) (S.1 0).2 hn10 ((hI.2.2.1.2.2.1 3 (by decide)).trans hI.2.2.1.2.1) 1 (by omega) _ hI.2.2.1) ⟨rfl, rfl, Nat.le_of_ble_eq_true rfl, Nat.le_of_ble_eq_true rfl⟩ (Nat.le_of_ble_eq_true rfl) dX5_comes_68 rfl (fun τ_68 h_68 => ?_)
          skip
          refine hg_iinc3p (pc' := 74) cx rfl dX5_comes_71 rfl ?_
          refine hg_goto cx 39 dX5_comes_74 (by decide) ?_
          rw [nI_1]
          refine hg_nm (fun μ hμ => ?_)
          refine ih_39 (μ, _) ?_ ?_
          · subst hμ
            try dsimp only
            refine ⟨by omega, hI.2.1.tr h_68.2, h_68.1, ?_⟩
            rw [hI.2.2.2, show 201 - j = (201 - (j + 1)) + 1 by omega, sp_first_no (decide_eq_false (by rw [← hI.2.2.1.2.2.1 2 (by decide)]; exact c_58))]
          · show 201 - (j + 1) < 201 - j
            omega
        ·
          refine hg_iload3 (pc' := 62) cx dX5_comes_61 rfl ?_
          refine hg_iret cx dX5_comes_62 ⟨_, rfl, ?_⟩
          simp only [op_comes, c_7, c_16, not_true_eq_false, or_self, if_false]
          rw [hI.2.2.2, show 201 - j = (200 - j) + 1 by omega, sp_first_yes (decide_eq_true (by rw [← hI.2.2.1.2.2.1 2 (by decide)]; exact c_58))]
          exact ⟨rfl, hcτ, hfτ⟩
    ·
      refine hg_aload0 (pc' := 20) cx dX5_comes_19 rfl ?_
      refine hg_ldc (pc' := 22) cx kc_X5_44 dX5_comes_20 rfl ?_
      refine cv_X5_45 (pc' := 25) cx (K_X5_finding l E _ (-1000000001) 0 (by decide) (by decide)) ⟨rfl, rfl, Nat.le_of_ble_eq_true rfl, Nat.le_of_ble_eq_true rfl⟩ (Nat.le_of_ble_eq_true rfl) dX5_comes_22 rfl (fun r_22 τ_22 h_22 => ?_)
      obtain ⟨rfl, rfl⟩ := h_22
      refine hg_iret cx dX5_comes_25 ⟨_, rfl, ?_⟩
      simp only [op_comes, c_7, c_16, not_true_eq_false, not_false_eq_true, true_or, or_true, false_or, or_false, or_self, if_true, if_false, and_self]
      exact hc.find (by decide) (by decide)
set_option maxHeartbeats 4000000 in
set_option maxRecDepth 100000 in
theorem K_X5_wise (l : Launch) (E : hg_Wd) (σ : hg_Mem) (S : sp_S) (hc : cw_C σ S) : hg_C l E yX5_wise cX5_wise 2 (some .int) { frames := 5, cells := 0, slots := 0, locals := 112 } [.ref (hg_ad E 0)] σ (hg_pi (fun r τ => cw_P σ (op_wise S ) r τ)) := by
  refine hg_intro (by decide) [some (.ref (hg_ad E 0)), none] rfl (Nat.le_of_ble_eq_true rfl) ?_
  intro p e s m args below meth c cx
  have cx : hg_Cx E p s m args meth c cX5_wise 2 RX5 (some .int) := cx
  obtain ⟨hn10, hn, g0, g1, g2, hag⟩ := hc.get
  refine hg_aload0 (pc' := 1) cx dX5_wise_0 rfl ?_
  refine gf_X5_16 (pc' := 4) cx dX5_wise_1 rfl ?_
  refine hg_aload0 (pc' := 5) cx dX5_wise_4 rfl ?_
  refine gf_X5_10 (pc' := 8) cx dX5_wise_5 rfl ?_
  refine cv_X5_141 (pc' := 11) cx (by first | assumption | omega | decide) (by first | assumption | omega | decide) (K_X3_become l E _ 2 (by decide) (by decide) 1 (by decide) (by decide) (by decide) (S.1 0).2 hn10 hn) ⟨rfl, rfl, Nat.le_of_ble_eq_true rfl, Nat.le_of_ble_eq_true rfl⟩ (Nat.le_of_ble_eq_true rfl) dX5_wise_8 rfl (fun τ_8 h_8 => ?_)
  obtain ⟨hF1, h4, hA⟩ := h_8
  have hR2 := hc.1.bec h4 hA
  refine hg_iconst (pc' := 12) cx (nI 0) dX5_wise_11 (by decide) rfl ?_
  refine hg_istore1 (pc' := 13) cx rfl dX5_wise_12 rfl ?_
  refine hg_nm (fun μ hμ => ?_)
  refine hg_loop (α := hg_Mem × Nat) (I := fun z => z.2 ≤ 201 ∧ sp_Fr σ z.1 2 ∧ sp_Rep z.1 2 (sp_go (S.1 0).1 (S.1 0).2 z.2) (S.1 0).2 ∧ sp_first (fun k => decide (sp_trueOnes ((sp_go (S.1 0).1 (S.1 0).2 k).1 2) ((sp_go (S.1 0).1 (S.1 0).2 k).1 1) = 255)) 201 0 = sp_first (fun k => decide (sp_trueOnes ((sp_go (S.1 0).1 (S.1 0).2 k).1 2) ((sp_go (S.1 0).1 (S.1 0).2 k).1 1) = 255)) (201 - z.2) z.2) (P := fun z => hg_G E p l e { frames := 5, cells := 0, slots := 0, locals := 112 } s m args below meth c 2 (MQ below (hg_Qc E (hg_pi (fun r τ => cw_P σ (op_wise S ) r τ))) args s 0 0 (hg_AW E)) z.1 13 [some (.ref (hg_ad E 0)), some (.int (nI z.2))] []) (fun z => 201 - z.2) ?_ (μ, 0) ?_
  rotate_left
  · subst hμ
    try dsimp only
    exact ⟨by omega, hF1, hR2, rfl⟩
  clear hμ μ
  rintro ⟨τ, j⟩ hI ih_13
  try dsimp only at hI ih_13 ⊢
  obtain ⟨hcτ, hfτ⟩ := hc.fr2 hI.2.1
  obtain ⟨-, hnτ, k0, k1, k2, hagτ⟩ := hcτ.get
  refine hg_iload1 (pc' := 14) cx dX5_wise_13 rfl ?_
  refine hg_sipush (pc' := 17) cx (nI 200) dX5_wise_14 (by decide) rfl ?_
  refine hg_icmp_gt (pc' := 20) cx 49 dX5_wise_17 (by decide) rfl (fun c_17 => ?_) (fun c_17 => ?_)
  ·
    have hj := hg_gt (a := 200) (b := j) (by omega) (by omega) c_17
    refine hg_aload0 (pc' := 50) cx dX5_wise_49 rfl ?_
    refine hg_ldc (pc' := 52) cx kc_X5_148 dX5_wise_50 rfl ?_
    refine cv_X5_45 (pc' := 55) cx (K_X5_finding l E _ (-1000000004) 3 (by decide) (by decide)) ⟨rfl, rfl, Nat.le_of_ble_eq_true rfl, Nat.le_of_ble_eq_true rfl⟩ (Nat.le_of_ble_eq_true rfl) dX5_wise_52 rfl (fun r_52 τ_52 h_52 => ?_)
    obtain ⟨rfl, rfl⟩ := h_52
    refine hg_iret cx dX5_wise_55 ⟨_, rfl, ?_⟩
    simp only [op_wise]
    rw [hI.2.2.2, show 201 - j = 0 by omega]
    exact ⟨((hcτ.find (f := 3) (by decide) (by decide)).1), (hcτ.find (f := 3) (w := -1000000004) (by decide) (by decide)).2.1, hfτ.tr (hcτ.find (f := 3) (w := -1000000004) (by decide) (by decide)).2.2⟩
  ·
    have hj := hg_ngt (a := 200) (b := j) (by omega) (by omega) c_17
    refine hg_aload0 (pc' := 21) cx dX5_wise_20 rfl ?_
    refine gf_X5_16 (pc' := 24) cx dX5_wise_21 rfl ?_
    refine cv_X5_75 (pc' := 27) cx (by first | assumption | omega | decide) (by first | assumption | omega | decide) (K_X3_trueOnes l E _ _ (by first | assumption | omega | decide) (by first | assumption | omega | decide)) ⟨rfl, rfl, Nat.le_of_ble_eq_true rfl, Nat.le_of_ble_eq_true rfl⟩ (Nat.le_of_ble_eq_true rfl) dX5_wise_24 rfl (fun r_24 τ_24 h_24 => ?_)
    obtain ⟨rfl, rfl⟩ := h_24
    refine hg_sipush (pc' := 30) cx 255 dX5_wise_27 (by decide) rfl ?_
    refine hg_icmp_ne (pc' := 33) cx 35 dX5_wise_30 (by decide) rfl (fun c_30 => ?_) (fun c_30 => ?_)
    ·
      refine hg_aload0 (pc' := 36) cx dX5_wise_35 rfl ?_
      refine gf_X5_16 (pc' := 39) cx dX5_wise_36 rfl ?_
      refine hg_iconst (pc' := 40) cx (nI 1) dX5_wise_39 (by decide) rfl ?_
      refine cv_X5_134 (pc' := 43) cx (by first | assumption | omega | decide) (by first | assumption | omega | decide) (K_X3_go l E _ 2 (by decide) (by decide) (S.1 0).2 hn10 ((hI.2.2.1.2.2.1 3 (by decide)).trans hI.2.2.1.2.1) 1 (by omega) _ hI.2.2.1) ⟨rfl, rfl, Nat.le_of_ble_eq_true rfl, Nat.le_of_ble_eq_true rfl⟩ (Nat.le_of_ble_eq_true rfl) dX5_wise_40 rfl (fun τ_40 h_40 => ?_)
      skip
      refine hg_iinc1p (pc' := 46) cx rfl dX5_wise_43 rfl ?_
      refine hg_goto cx 13 dX5_wise_46 (by decide) ?_
      rw [nI_1]
      refine hg_nm (fun μ hμ => ?_)
      refine ih_13 (μ, _) ?_ ?_
      · subst hμ
        try dsimp only
        rw [hI.2.2.1.2.2.1 2 (by decide), hI.2.2.1.2.2.1 1 (by decide)] at c_30
        refine ⟨by omega, hI.2.1.tr h_40.2, h_40.1, ?_⟩
        rw [hI.2.2.2, show 201 - j = (201 - (j + 1)) + 1 by omega, sp_first_no (decide_eq_false c_30)]
      · show 201 - (j + 1) < 201 - j
        omega
    ·
      refine hg_iload1 (pc' := 34) cx dX5_wise_33 rfl ?_
      refine hg_iret cx dX5_wise_34 ⟨_, rfl, ?_⟩
      rw [hI.2.2.1.2.2.1 2 (by decide), hI.2.2.1.2.2.1 1 (by decide)] at c_30
      simp only [op_wise]
      rw [hI.2.2.2, show 201 - j = (200 - j) + 1 by omega, sp_first_yes (decide_eq_true c_30)]
      exact ⟨rfl, hcτ, hfτ⟩
set_option maxHeartbeats 4000000 in
set_option maxRecDepth 100000 in
theorem K_X5_errs (l : Launch) (E : hg_Wd) (σ : hg_Mem) (S : sp_S) (hc : cw_C σ S) (x : Int32) : hg_C l E yX5_errs cX5_errs 4 (some .int) { frames := 5, cells := 0, slots := 0, locals := 112 } [.ref (hg_ad E 0), .int x] σ (hg_pi (fun r τ => cw_P σ (op_errs S x) r τ)) := by
  refine hg_intro (by decide) [some (.ref (hg_ad E 0)), some (.int x), none, none] rfl (Nat.le_of_ble_eq_true rfl) ?_
  intro p e s m args below meth c cx
  have cx : hg_Cx E p s m args meth c cX5_errs 4 RX5 (some .int) := cx
  obtain ⟨hn10, hn, g0, g1, g2, hag⟩ := hc.get
  refine hg_aload0 (pc' := 1) cx dX5_errs_0 rfl ?_
  refine gf_X5_10 (pc' := 4) cx dX5_errs_1 rfl ?_
  refine hg_iload1 (pc' := 5) cx dX5_errs_4 rfl ?_
  refine cv_X5_90 (pc' := 8) cx (by first | assumption | omega | decide) (by first | assumption | omega | decide) (K_X3_has l E _ 1 (by decide) (by decide) (S.1 0).2 hn10 hn _) ⟨rfl, rfl, Nat.le_of_ble_eq_true rfl, Nat.le_of_ble_eq_true rfl⟩ (Nat.le_of_ble_eq_true rfl) dX5_errs_5 rfl (fun r_5 τ_5 h_5 => ?_)
  obtain ⟨rfl, rfl⟩ := h_5
  refine hg_if_ne (pc' := 11) cx 18 dX5_errs_8 (by decide) rfl (fun c_8 => ?_) (fun c_8 => ?_)
  ·
    obtain ⟨j, hjn, rfl⟩ := sp_hz_of hn10 c_8
    have hcl : (nI j).toNatClampNeg = j := nI_clamp (by omega)
    have hj := hag j hjn
    refine hg_aload0 (pc' := 19) cx dX5_errs_18 rfl ?_
    refine gf_X5_10 (pc' := 22) cx dX5_errs_19 rfl ?_
    refine gf_X5_94 (pc' := 25) cx (by first | assumption | omega | decide) (by first | assumption | omega | decide) dX5_errs_22 rfl ?_
    refine hg_iload1 (pc' := 26) cx dX5_errs_25 rfl ?_
    refine hg_seat (t := 1) cx (by decide) (by decide) (by omega) dX5_errs_26 rfl ?_
    refine gf_X5_149 (pc' := 30) cx (by first | assumption | omega | decide) (by first | assumption | omega | decide) dX5_errs_27 rfl ?_
    refine hg_istore2 (pc' := 31) cx rfl dX5_errs_30 rfl ?_
    refine hg_aload0 (pc' := 32) cx dX5_errs_31 rfl ?_
    refine gf_X5_16 (pc' := 35) cx dX5_errs_32 rfl ?_
    refine hg_aload0 (pc' := 36) cx dX5_errs_35 rfl ?_
    refine gf_X5_10 (pc' := 39) cx dX5_errs_36 rfl ?_
    refine cv_X5_141 (pc' := 42) cx (by first | assumption | omega | decide) (by first | assumption | omega | decide) (K_X3_become l E _ 2 (by decide) (by decide) 1 (by decide) (by decide) (by decide) (S.1 0).2 hn10 hn) ⟨rfl, rfl, Nat.le_of_ble_eq_true rfl, Nat.le_of_ble_eq_true rfl⟩ (Nat.le_of_ble_eq_true rfl) dX5_errs_39 rfl (fun τ_39 h_39 => ?_)
    obtain ⟨hF1, h4, hA⟩ := h_39
    have hR2 := hc.1.bec h4 hA
    refine hg_iconst (pc' := 43) cx (nI 1) dX5_errs_42 (by decide) rfl ?_
    refine hg_istore3 (pc' := 44) cx rfl dX5_errs_43 rfl ?_
    refine hg_nm (fun μ hμ => ?_)
    refine hg_loop (α := hg_Mem × Nat) (I := fun z => z.2 ≤ 200 ∧ sp_Fr σ z.1 2 ∧ sp_Rep z.1 2 (sp_go (S.1 0).1 (S.1 0).2 z.2) (S.1 0).2 ∧ sp_first (fun k => decide ((S.1 0).1.2 j 3 < (sp_go (S.1 0).1 (S.1 0).2 k).2 j 3)) 200 1 = sp_first (fun k => decide ((S.1 0).1.2 j 3 < (sp_go (S.1 0).1 (S.1 0).2 k).2 j 3)) (200 - z.2) (z.2 + 1)) (P := fun z => hg_G E p l e { frames := 5, cells := 0, slots := 0, locals := 112 } s m args below meth c 4 (MQ below (hg_Qc E (hg_pi (fun r τ => cw_P σ (op_errs S (nI j)) r τ))) args s 0 0 (hg_AW E)) z.1 44 [some (.ref (hg_ad E 0)), some (.int (nI j)), some (.int (σ.1 (10 + 10 * 1 + j) 3)), some (.int (nI (z.2 + 1)))] []) (fun z => 200 - z.2) ?_ (μ, 0) ?_
    rotate_left
    · subst hμ
      try dsimp only
      exact ⟨by omega, hF1, hR2, rfl⟩
    clear hμ μ
    rintro ⟨τ, i⟩ hI ih_44
    try dsimp only at hI ih_44 ⊢
    obtain ⟨hcτ, hfτ⟩ := hc.fr2 hI.2.1
    obtain ⟨-, hnτ, k0, k1, k2, hagτ⟩ := hcτ.get
    refine hg_iload3 (pc' := 45) cx dX5_errs_44 rfl ?_
    refine hg_sipush (pc' := 48) cx (nI 200) dX5_errs_45 (by decide) rfl ?_
    refine hg_icmp_gt (pc' := 51) cx 83 dX5_errs_48 (by decide) rfl (fun c_48 => ?_) (fun c_48 => ?_)
    ·
      have hj2 := hg_gt (a := 200) (b := i + 1) (by omega) (by omega) c_48
      refine hg_aload0 (pc' := 84) cx dX5_errs_83 rfl ?_
      refine hg_ldc (pc' := 86) cx kc_X5_148 dX5_errs_84 rfl ?_
      refine cv_X5_45 (pc' := 89) cx (K_X5_finding l E _ (-1000000004) 3 (by decide) (by decide)) ⟨rfl, rfl, Nat.le_of_ble_eq_true rfl, Nat.le_of_ble_eq_true rfl⟩ (Nat.le_of_ble_eq_true rfl) dX5_errs_86 rfl (fun r_86 τ_86 h_86 => ?_)
      obtain ⟨rfl, rfl⟩ := h_86
      refine hg_iret cx dX5_errs_89 ⟨_, rfl, ?_⟩
      simp only [op_errs, sp_hz, c_8, hcl, if_false]
      rw [hI.2.2.2, show 200 - i = 0 by omega]
      exact ⟨((hcτ.find (f := 3) (by decide) (by decide)).1), (hcτ.find (f := 3) (w := -1000000004) (by decide) (by decide)).2.1, hfτ.tr (hcτ.find (f := 3) (w := -1000000004) (by decide) (by decide)).2.2⟩
    ·
      have hj2 := hg_ngt (a := 200) (b := i + 1) (by omega) (by omega) c_48
      refine hg_aload0 (pc' := 52) cx dX5_errs_51 rfl ?_
      refine gf_X5_16 (pc' := 55) cx dX5_errs_52 rfl ?_
      refine hg_iconst (pc' := 56) cx (nI 1) dX5_errs_55 (by decide) rfl ?_
      refine cv_X5_134 (pc' := 59) cx (by first | assumption | omega | decide) (by first | assumption | omega | decide) (K_X3_go l E _ 2 (by decide) (by decide) (S.1 0).2 hn10 ((hI.2.2.1.2.2.1 3 (by decide)).trans hI.2.2.1.2.1) 1 (by omega) _ hI.2.2.1) ⟨rfl, rfl, Nat.le_of_ble_eq_true rfl, Nat.le_of_ble_eq_true rfl⟩ (Nat.le_of_ble_eq_true rfl) dX5_errs_56 rfl (fun τ_56 h_56 => ?_)
      have hw : τ_56.1 (10 + 10 * 2 + j) 3 = (sp_go (S.1 0).1 (S.1 0).2 (i + 1)).2 j 3 := h_56.1.2.2.2 j hjn 3 (by decide)
      refine hg_aload0 (pc' := 60) cx dX5_errs_59 rfl ?_
      refine gf_X5_16 (pc' := 63) cx dX5_errs_60 rfl ?_
      refine gf_X5_94 (pc' := 66) cx (by first | assumption | omega | decide) (by first | assumption | omega | decide) dX5_errs_63 rfl ?_
      refine hg_iload1 (pc' := 67) cx dX5_errs_66 rfl ?_
      refine hg_seat (t := 2) cx (by decide) (by decide) (by omega) dX5_errs_67 rfl ?_
      refine gf_X5_149 (pc' := 71) cx (by first | assumption | omega | decide) (by first | assumption | omega | decide) dX5_errs_68 rfl ?_
      refine hg_iload2 (pc' := 72) cx dX5_errs_71 rfl ?_
      refine hg_icmp_le (pc' := 75) cx 77 dX5_errs_72 (by decide) rfl (fun c_72 => ?_) (fun c_72 => ?_)
      ·
        refine hg_iinc3p (pc' := 80) cx rfl dX5_errs_77 rfl ?_
        refine hg_goto cx 44 dX5_errs_80 (by decide) ?_
        rw [nI_1]
        refine hg_nm (fun μ hμ => ?_)
        refine ih_44 (μ, _) ?_ ?_
        · subst hμ
          try dsimp only
          rw [hw, hj 3 (by decide)] at c_72
          refine ⟨by omega, hI.2.1.tr h_56.2, h_56.1, ?_⟩
          rw [hI.2.2.2, show 200 - i = (200 - (i + 1)) + 1 by omega, sp_first_no (decide_eq_false (Int32.not_lt.mpr c_72))]
        · show 200 - (i + 1) < 200 - i
          omega
      ·
        refine hg_iload3 (pc' := 76) cx dX5_errs_75 rfl ?_
        refine hg_iret cx dX5_errs_76 ⟨_, rfl, ?_⟩
        rw [hw, hj 3 (by decide)] at c_72
        obtain ⟨q1, q2⟩ := hcτ.fr2 h_56.2
        simp only [op_errs, sp_hz, c_8, hcl, if_false]
        rw [hI.2.2.2, show 200 - i = (199 - i) + 1 by omega, sp_first_yes (decide_eq_true (Int32.not_le.mp c_72))]
        exact ⟨rfl, q1, hfτ.tr q2⟩
  ·
    refine hg_aload0 (pc' := 12) cx dX5_errs_11 rfl ?_
    refine hg_ldc (pc' := 14) cx kc_X5_44 dX5_errs_12 rfl ?_
    refine cv_X5_45 (pc' := 17) cx (K_X5_finding l E _ (-1000000001) 0 (by decide) (by decide)) ⟨rfl, rfl, Nat.le_of_ble_eq_true rfl, Nat.le_of_ble_eq_true rfl⟩ (Nat.le_of_ble_eq_true rfl) dX5_errs_14 rfl (fun r_14 τ_14 h_14 => ?_)
    obtain ⟨rfl, rfl⟩ := h_14
    refine hg_iret cx dX5_errs_17 ⟨_, rfl, ?_⟩
    simp only [op_errs, sp_hz, c_8, not_true_eq_false, not_false_eq_true, true_or, or_true, false_or, or_false, or_self, if_true, if_false, and_self]
    exact hc.find (by decide) (by decide)
set_option maxHeartbeats 4000000 in
set_option maxRecDepth 100000 in
theorem K_X5_lift (l : Launch) (E : hg_Wd) (σ : hg_Mem) (S : sp_S) (hc : cw_C σ S) (N : Int32) : hg_C l E yX5_lift cX5_lift 6 (some .int) { frames := 5, cells := 0, slots := 0, locals := 112 } [.ref (hg_ad E 0), .int N] σ (hg_pi (fun r τ => cw_P σ (op_lift S N) r τ)) := by
  refine hg_intro (by decide) [some (.ref (hg_ad E 0)), some (.int N), none, none, none, none] rfl (Nat.le_of_ble_eq_true rfl) ?_
  intro p e s m args below meth c cx
  have cx : hg_Cx E p s m args meth c cX5_lift 6 RX5 (some .int) := cx
  obtain ⟨hn10, hn, g0, g1, g2, hag⟩ := hc.get
  refine hg_iload1 (pc' := 1) cx dX5_lift_0 rfl ?_
  refine hg_iconst (pc' := 2) cx 1 dX5_lift_1 (by decide) rfl ?_
  refine hg_bipush (pc' := 4) cx 60 dX5_lift_2 (by decide) rfl ?_
  refine cs_X5_40 (pc' := 7) cx (K_X5_outside l E _ _ _ _) ⟨rfl, rfl, Nat.le_of_ble_eq_true rfl, Nat.le_of_ble_eq_true rfl⟩ (Nat.le_of_ble_eq_true rfl) dX5_lift_4 rfl (fun r_4 τ_4 h_4 => ?_)
  obtain ⟨rfl, rfl⟩ := h_4
  refine hg_if_eq (pc' := 10) cx 17 dX5_lift_7 (by decide) rfl (fun c_7 => ?_) (fun c_7 => ?_)
  ·
    obtain ⟨a, ha1, ha2, rfl⟩ := sp_out_of 1 60 (by decide) (by decide) (by decide) (by decide) c_7
    have hca : (nI a).toNatClampNeg = a := nI_clamp (by omega)
    refine hg_iconst (pc' := 18) cx (-1) dX5_lift_17 (by decide) rfl ?_
    refine hg_istore2 (pc' := 19) cx rfl dX5_lift_18 rfl ?_
    refine hg_iconst (pc' := 20) cx (-1) dX5_lift_19 (by decide) rfl ?_
    refine hg_istore3 (pc' := 21) cx rfl dX5_lift_20 rfl ?_
    refine hg_iconst (pc' := 22) cx (nI 0) dX5_lift_21 (by decide) rfl ?_
    refine hg_istore4 (pc' := 24) cx rfl dX5_lift_22 rfl ?_
    refine hg_drop5 ?_
    refine hg_nm (fun μ hμ => ?_)
    refine hg_loop (α := hg_Mem × Int32 × Int32 × Nat) (I := fun z => z.2.2.2 ≤ (S.1 0).2 ∧ sp_Fr σ z.1 2 ∧ sp_scan (sp_liftO (S.1 0).1) (sp_liftV (S.1 0).1 (S.1 0).2 a) (-1) (-1) z.2.2.2 = (z.2.1, z.2.2.1)) (P := fun z => hg_G E p l e { frames := 5, cells := 0, slots := 0, locals := 112 } s m args below meth c 6 (MQ below (hg_Qc E (hg_pi (fun r τ => cw_P σ (op_lift S (nI a)) r τ))) args s 0 0 (hg_AW E)) z.1 24 [some (.ref (hg_ad E 0)), some (.int (nI a)), some (.int z.2.1), some (.int z.2.2.1), some (.int (nI z.2.2.2)), none] []) (fun z => (S.1 0).2 - z.2.2.2) ?_ (μ, -1, -1, 0) ?_
    rotate_left
    · subst hμ
      try dsimp only
      exact ⟨by omega, sp_Fr.rf _ _, rfl⟩
    clear hμ μ
    rintro ⟨τ, b, w, j⟩ hI ih_24
    try dsimp only at hI ih_24 ⊢
    obtain ⟨hcτ, hfτ⟩ := hc.fr2 hI.2.1
    obtain ⟨-, hnτ, k0, k1, k2, hagτ⟩ := hcτ.get
    have hjn := hI.1
    refine hg_iload4 (pc' := 26) cx dX5_lift_24 rfl ?_
    refine hg_aload0 (pc' := 27) cx dX5_lift_26 rfl ?_
    refine gf_X5_10 (pc' := 30) cx dX5_lift_27 rfl ?_
    refine gf_X5_87 (pc' := 33) cx (by first | assumption | omega | decide) (by first | assumption | omega | decide) dX5_lift_30 rfl ?_
    refine hg_icmp_ge (pc' := 36) cx 118 dX5_lift_33 (by decide) rfl (fun c_33 => ?_) (fun c_33 => ?_)
    ·
      have jlt := hg_ge hnτ (by omega) (by omega) c_33
      refine hg_iload2 (pc' := 119) cx dX5_lift_118 rfl ?_
      refine hg_if_ge (pc' := 122) cx 131 dX5_lift_119 (by decide) rfl (fun c_119 => ?_) (fun c_119 => ?_)
      ·
        refine hg_iload2 (pc' := 132) cx dX5_lift_131 rfl ?_
        refine hg_iret cx dX5_lift_132 ⟨_, rfl, ?_⟩
        obtain rfl : j = (S.1 0).2 := by omega
        first
          | (have c9 : 0 ≤ b := c_119
             simp only [op_lift, c_7, hca, not_true_eq_false, if_false, sp_orN, hI.2.2, if_neg (Int32.not_lt.mpr c_119)]
             exact ⟨rfl, hcτ, hfτ⟩)
          | (simp only [op_lift, c_7, hca, not_true_eq_false, if_false, sp_orN, hI.2.2, if_pos (Int32.not_le.mp c_119)]
             exact ⟨((hcτ.find (f := 3) (by decide) (by decide)).1), (hcτ.find (f := 3) (w := -1000000004) (by decide) (by decide)).2.1, hfτ.tr (hcτ.find (f := 3) (w := -1000000004) (by decide) (by decide)).2.2⟩)
      ·
        refine hg_aload0 (pc' := 123) cx dX5_lift_122 rfl ?_
        refine hg_ldc (pc' := 125) cx kc_X5_148 dX5_lift_123 rfl ?_
        refine cv_X5_45 (pc' := 128) cx (K_X5_finding l E _ (-1000000004) 3 (by decide) (by decide)) ⟨rfl, rfl, Nat.le_of_ble_eq_true rfl, Nat.le_of_ble_eq_true rfl⟩ (Nat.le_of_ble_eq_true rfl) dX5_lift_125 rfl (fun r_125 τ_125 h_125 => ?_)
        obtain ⟨rfl, rfl⟩ := h_125
        refine hg_goto cx 132 dX5_lift_128 (by decide) ?_
        refine hg_iret cx dX5_lift_132 ⟨_, rfl, ?_⟩
        obtain rfl : j = (S.1 0).2 := by omega
        first
          | (have c9 : 0 ≤ b := c_119
             simp only [op_lift, c_7, hca, not_true_eq_false, if_false, sp_orN, hI.2.2, if_neg (Int32.not_lt.mpr c_119)]
             exact ⟨rfl, hcτ, hfτ⟩)
          | (simp only [op_lift, c_7, hca, not_true_eq_false, if_false, sp_orN, hI.2.2, if_pos (Int32.not_le.mp c_119)]
             exact ⟨((hcτ.find (f := 3) (by decide) (by decide)).1), (hcτ.find (f := 3) (w := -1000000004) (by decide) (by decide)).2.1, hfτ.tr (hcτ.find (f := 3) (w := -1000000004) (by decide) (by decide)).2.2⟩)
    ·
      have jlt := hg_nge hnτ (by omega) (by omega) c_33
      have eon : τ.1 (10 + 10 * 1 + j) 5 = (S.1 0).1.2 j 5 := hagτ j jlt 5 (by decide)
      refine hg_aload0 (pc' := 37) cx dX5_lift_36 rfl ?_
      refine gf_X5_10 (pc' := 40) cx dX5_lift_37 rfl ?_
      refine gf_X5_94 (pc' := 43) cx (by first | assumption | omega | decide) (by first | assumption | omega | decide) dX5_lift_40 rfl ?_
      refine hg_iload4 (pc' := 45) cx dX5_lift_43 rfl ?_
      refine hg_seat (t := 1) cx (by decide) (by decide) (by omega) dX5_lift_45 rfl ?_
      refine gf_X5_152 (pc' := 49) cx (by first | assumption | omega | decide) (by first | assumption | omega | decide) dX5_lift_46 rfl ?_
      refine hg_if_ne (pc' := 52) cx 55 dX5_lift_49 (by decide) rfl (fun c_49 => ?_) (fun c_49 => ?_)
      ·
        refine hg_aload0 (pc' := 56) cx dX5_lift_55 rfl ?_
        refine gf_X5_16 (pc' := 59) cx dX5_lift_56 rfl ?_
        refine hg_aload0 (pc' := 60) cx dX5_lift_59 rfl ?_
        refine gf_X5_10 (pc' := 63) cx dX5_lift_60 rfl ?_
        refine cv_X5_141 (pc' := 66) cx (by first | assumption | omega | decide) (by first | assumption | omega | decide) (K_X3_become l E _ 2 (by decide) (by decide) 1 (by decide) (by decide) (by decide) (S.1 0).2 hn10 hnτ) ⟨rfl, rfl, Nat.le_of_ble_eq_true rfl, Nat.le_of_ble_eq_true rfl⟩ (Nat.le_of_ble_eq_true rfl) dX5_lift_63 rfl (fun τ_63 h_63 => ?_)
        obtain ⟨hF1, h4, hA⟩ := h_63
        have hR2 := hcτ.1.bec h4 hA
        have hS := hR2.setH jlt (sp_Ag.up (fun k hk => hR2.2.2.2 j jlt k hk) 5 (rfl : (0 : Int32) = 0))
        refine hg_aload0 (pc' := 67) cx dX5_lift_66 rfl ?_
        refine gf_X5_16 (pc' := 70) cx dX5_lift_67 rfl ?_
        refine gf_X5_94 (pc' := 73) cx (by first | assumption | omega | decide) (by first | assumption | omega | decide) dX5_lift_70 rfl ?_
        refine hg_iload4 (pc' := 75) cx dX5_lift_73 rfl ?_
        refine hg_seat (t := 2) cx (by decide) (by decide) (by omega) dX5_lift_75 rfl ?_
        refine hg_iconst (pc' := 77) cx 0 dX5_lift_76 (by decide) rfl ?_
        refine pf_X5_152 (pc' := 80) cx (by first | assumption | omega | decide) (by first | assumption | omega | decide) dX5_lift_77 rfl ?_
        refine hg_aload0 (pc' := 81) cx dX5_lift_80 rfl ?_
        refine gf_X5_16 (pc' := 84) cx dX5_lift_81 rfl ?_
        refine hg_iload1 (pc' := 85) cx dX5_lift_84 rfl ?_
        refine cv_X5_134 (pc' := 88) cx (by first | assumption | omega | decide) (by first | assumption | omega | decide) (K_X3_go l E _ 2 (by decide) (by decide) (S.1 0).2 hn10 ((hS.1.2.2.1 3 (by decide)).trans hS.1.2.1) a (by omega) _ hS.1) ⟨rfl, rfl, Nat.le_of_ble_eq_true rfl, Nat.le_of_ble_eq_true rfl⟩ (Nat.le_of_ble_eq_true rfl) dX5_lift_85 rfl (fun τ_85 h_85 => ?_)
        have hF9 : sp_Fr σ τ_85 2 := (hI.2.1.tr hF1).tr (hS.2.tr h_85.2)
        refine hg_aload0 (pc' := 89) cx dX5_lift_88 rfl ?_
        refine gf_X5_16 (pc' := 92) cx dX5_lift_89 rfl ?_
        refine cv_X5_75 (pc' := 95) cx (by first | assumption | omega | decide) (by first | assumption | omega | decide) (K_X3_trueOnes l E _ _ (by first | assumption | omega | decide) (by first | assumption | omega | decide)) ⟨rfl, rfl, Nat.le_of_ble_eq_true rfl, Nat.le_of_ble_eq_true rfl⟩ (Nat.le_of_ble_eq_true rfl) dX5_lift_92 rfl (fun r_92 τ_92 h_92 => ?_)
        obtain ⟨rfl, rfl⟩ := h_92
        rw [h_85.1.2.2.1 2 (by decide), h_85.1.2.2.1 1 (by decide)]
        refine cs_X5_155 (pc' := 98) cx (K_J6_bitCount_0f7a4 l E _ _) ⟨rfl, rfl, Nat.le_of_ble_eq_true rfl, Nat.le_of_ble_eq_true rfl⟩ (Nat.le_of_ble_eq_true rfl) dX5_lift_95 rfl (fun r_95 τ_95 h_95 => ?_)
        obtain ⟨rfl, rfl⟩ := h_95
        refine hg_istore5 (pc' := 100) cx rfl dX5_lift_98 rfl ?_
        refine hg_iload5 (pc' := 102) cx dX5_lift_100 rfl ?_
        refine hg_iload3 (pc' := 103) cx dX5_lift_102 rfl ?_
        refine hg_icmp_le (pc' := 106) cx 112 dX5_lift_103 (by decide) rfl (fun c_103 => ?_) (fun c_103 => ?_)
        ·
          refine hg_iinc4p (pc' := 115) cx rfl dX5_lift_112 rfl ?_
          refine hg_goto cx 24 dX5_lift_115 (by decide) ?_
          refine hg_drop5 ?_
          rw [nI_1]
          refine hg_nm (fun μ hμ => ?_)
          refine ih_24 (μ, _, _, _) ?_ ?_
          · subst hμ
            try dsimp only
            first
              | exact ⟨by omega, hI.2.1, by rw [sp_scan_no (decide_eq_false (fun z => z (eon ▸ c_49)))]; exact hI.2.2⟩
              | (refine ⟨by omega, hF9, ?_⟩
                 have hok : sp_liftO (S.1 0).1 j = true := decide_eq_true (fun z => c_49 (eon.trans z))
                 first
                   | (rw [sp_scan_ge hok (by rw [hI.2.2]; exact Int32.not_lt.mpr c_103)]; exact hI.2.2)
                   | (rw [sp_scan_lt hok (by rw [hI.2.2]; exact Int32.not_le.mp c_103)]; rfl))
          · show (S.1 0).2 - (j + 1) < (S.1 0).2 - j
            omega
        ·
          refine hg_iload5 (pc' := 108) cx dX5_lift_106 rfl ?_
          refine hg_istore3 (pc' := 109) cx rfl dX5_lift_108 rfl ?_
          refine hg_iload4 (pc' := 111) cx dX5_lift_109 rfl ?_
          refine hg_istore2 (pc' := 112) cx rfl dX5_lift_111 rfl ?_
          refine hg_iinc4p (pc' := 115) cx rfl dX5_lift_112 rfl ?_
          refine hg_goto cx 24 dX5_lift_115 (by decide) ?_
          refine hg_drop5 ?_
          rw [nI_1]
          refine hg_nm (fun μ hμ => ?_)
          refine ih_24 (μ, _, _, _) ?_ ?_
          · subst hμ
            try dsimp only
            first
              | exact ⟨by omega, hI.2.1, by rw [sp_scan_no (decide_eq_false (fun z => z (eon ▸ c_49)))]; exact hI.2.2⟩
              | (refine ⟨by omega, hF9, ?_⟩
                 have hok : sp_liftO (S.1 0).1 j = true := decide_eq_true (fun z => c_49 (eon.trans z))
                 first
                   | (rw [sp_scan_ge hok (by rw [hI.2.2]; exact Int32.not_lt.mpr c_103)]; exact hI.2.2)
                   | (rw [sp_scan_lt hok (by rw [hI.2.2]; exact Int32.not_le.mp c_103)]; rfl))
          · show (S.1 0).2 - (j + 1) < (S.1 0).2 - j
            omega
      ·
        refine hg_goto cx 112 dX5_lift_52 (by decide) ?_
        refine hg_iinc4p (pc' := 115) cx rfl dX5_lift_112 rfl ?_
        refine hg_goto cx 24 dX5_lift_115 (by decide) ?_
        refine hg_drop5 ?_
        rw [nI_1]
        refine hg_nm (fun μ hμ => ?_)
        refine ih_24 (μ, _, _, _) ?_ ?_
        · subst hμ
          try dsimp only
          first
            | exact ⟨by omega, hI.2.1, by rw [sp_scan_no (decide_eq_false (fun z => z (eon ▸ c_49)))]; exact hI.2.2⟩
            | (refine ⟨by omega, hF9, ?_⟩
               have hok : sp_liftO (S.1 0).1 j = true := decide_eq_true (fun z => c_49 (eon.trans z))
               first
                 | (rw [sp_scan_ge hok (by rw [hI.2.2]; exact Int32.not_lt.mpr c_103)]; exact hI.2.2)
                 | (rw [sp_scan_lt hok (by rw [hI.2.2]; exact Int32.not_le.mp c_103)]; rfl))
        · show (S.1 0).2 - (j + 1) < (S.1 0).2 - j
          omega
  ·
    refine hg_aload0 (pc' := 11) cx dX5_lift_10 rfl ?_
    refine hg_ldc (pc' := 13) cx kc_X5_44 dX5_lift_11 rfl ?_
    refine cv_X5_45 (pc' := 16) cx (K_X5_finding l E _ (-1000000001) 0 (by decide) (by decide)) ⟨rfl, rfl, Nat.le_of_ble_eq_true rfl, Nat.le_of_ble_eq_true rfl⟩ (Nat.le_of_ble_eq_true rfl) dX5_lift_13 rfl (fun r_13 τ_13 h_13 => ?_)
    obtain ⟨rfl, rfl⟩ := h_13
    refine hg_iret cx dX5_lift_16 ⟨_, rfl, ?_⟩
    simp only [op_lift, c_7, not_true_eq_false, not_false_eq_true, true_or, or_true, false_or, or_false, or_self, if_true, if_false, and_self]
    exact hc.find (by decide) (by decide)
