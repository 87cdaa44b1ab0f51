set_option maxHeartbeats 4000000 in
set_option maxRecDepth 100000 in
theorem K_X5_lays (l : Launch) (E : hg_Wd) (σ : hg_Mem) (S : sp_S) (hc : cw_C σ S) (hv : vs_S S) (s : Int32) : hg_C l E yX5_lays cX5_lays 6 (some .int) { frames := 2, cells := 0, slots := 0, locals := 44 } [.ref (hg_ad E 0), .int s] σ (hg_pi (fun r τ => cw_P σ (op_lays S s) r τ)) := by
  refine hg_intro (by decide) [some (.ref (hg_ad E 0)), some (.int s), none, none, none, none] rfl (Nat.le_of_ble_eq_true rfl) ?_
  intro p e s m args below meth c cx
  have cx : hg_Cx E p s m args meth c cX5_lays 6 RX5 (some .int) := cx
  obtain ⟨hn10, hn, g0, g1, g2, hag⟩ := hc.get
  refine hg_iload1 (pc' := 1) cx dX5_lays_0 rfl ?_
  refine cs_X5_191 (pc' := 4) cx (K_X5_noSheet l E _ _) ⟨rfl, rfl, Nat.le_of_ble_eq_true rfl, Nat.le_of_ble_eq_true rfl⟩ (Nat.le_of_ble_eq_true rfl) dX5_lays_1 rfl (fun r_1 τ_1 h_1 => ?_)
  obtain ⟨rfl, rfl⟩ := h_1
  refine hg_if_eq (pc' := 7) cx 14 dX5_lays_4 (by decide) rfl (fun c_4 => ?_) (fun c_4 => ?_)
  ·
    obtain ⟨a, -, ha3, rfl⟩ := sp_out_of 0 3 (by decide) (by decide) (by decide) (by decide) c_4
    have hca : (nI a).toNatClampNeg = a := nI_clamp (by omega)
    obtain ⟨s1a, s2a, s3a⟩ := hc.2.2.2.2.2.2 a (by omega)
    refine hg_aload0 (pc' := 15) cx dX5_lays_14 rfl ?_
    refine gf_X5_31 (pc' := 18) cx dX5_lays_15 rfl ?_
    refine hg_iload1 (pc' := 19) cx dX5_lays_18 rfl ?_
    refine hg_shat (j := a) cx (by omega) dX5_lays_19 rfl ?_
    refine cv_X5_202 (pc' := 23) cx (by first | assumption | omega | decide) (by first | assumption | omega | decide) (K_X2_isMissing l E _ _ (by first | assumption | omega | decide) (by first | assumption | omega | decide)) ⟨rfl, rfl, Nat.le_of_ble_eq_true rfl, Nat.le_of_ble_eq_true rfl⟩ (Nat.le_of_ble_eq_true rfl) dX5_lays_20 rfl (fun r_20 τ_20 h_20 => ?_)
    obtain ⟨rfl, rfl⟩ := h_20
    refine hg_if_eq (pc' := 26) cx 33 dX5_lays_23 (by decide) rfl (fun c_23 => ?_) (fun c_23 => ?_)
    ·
      obtain ⟨len, hlen, elen⟩ := (hv.2.2.2.2 a (by omega)).2
      have hcl : (nI len).toNatClampNeg = len := nI_clamp (by omega)
      refine hg_iconst (pc' := 34) cx 0 dX5_lays_33 (by decide) rfl ?_
      refine hg_istore2 (pc' := 35) cx rfl dX5_lays_34 rfl ?_
      refine hg_iconst (pc' := 36) cx (nI 0) dX5_lays_35 (by decide) rfl ?_
      refine hg_istore3 (pc' := 37) cx rfl dX5_lays_36 rfl ?_
      refine hg_drop4 ?_
      refine hg_drop5 ?_
      refine hg_nm (fun μ hμ => ?_)
      refine hg_loop (α := hg_Mem × Int32 × Nat) (I := fun z => z.2.2 ≤ len ∧ z.2.2 ≤ (S.1 0).2 ∧ cw_C z.1 (sp_sC S (sp_lays (S.2.2 a) (S.1 0).1 z.2.2).2 (S.1 0).2) ∧ cw_Fr σ z.1 ∧ z.2.1 = (sp_lays (S.2.2 a) (S.1 0).1 z.2.2).1) (P := fun z => hg_G E p l e { frames := 2, cells := 0, slots := 0, locals := 44 } s m args below meth c 6 (MQ below (hg_Qc E (hg_pi (fun r τ => cw_P σ (op_lays S (nI a)) r τ))) args s 0 0 (hg_AW E)) z.1 37 [some (.ref (hg_ad E 0)), some (.int (nI a)), some (.int z.2.1), some (.int (nI z.2.2)), none, none] []) (fun z => len - z.2.2) ?_ (μ, 0, 0) ?_
      rotate_left
      · subst hμ
        try dsimp only
        exact ⟨Nat.zero_le _, Nat.zero_le _, by rw [show (sp_lays (S.2.2 a) (S.1 0).1 0).2 = (S.1 0).1 from rfl, sp_sC_self]; exact hc, cw_Fr.rf _, rfl⟩
      clear hμ μ
      rintro ⟨τ, x, k⟩ hI ih_37
      try dsimp only at hI ih_37 ⊢
      have hkl := hI.1
      have hkn := hI.2.1
      obtain ⟨-, hnτ, k0, k1, k2, hagτ⟩ := hI.2.2.1.get
      have hRτ := hI.2.2.1.1
      rw [sp_sC_get] at hnτ hRτ
      dsimp only at hnτ hRτ
      obtain ⟨e1, e2, e3⟩ := hI.2.2.1.2.2.2.2.2.2 a (by omega)
      replace e2 : τ.1 (12 + a) 2 = S.2.1 4 a := e2
      replace e3 : ∀ k, k < 40 → τ.2 (16 + a) k = S.2.2 a k := e3
      refine hg_iload3 (pc' := 38) cx dX5_lays_37 rfl ?_
      refine hg_aload0 (pc' := 39) cx dX5_lays_38 rfl ?_
      refine gf_X5_31 (pc' := 42) cx dX5_lays_39 rfl ?_
      refine hg_iload1 (pc' := 43) cx dX5_lays_42 rfl ?_
      refine hg_shat (j := a) cx (by omega) dX5_lays_43 rfl ?_
      refine gf_X5_201 (pc' := 47) cx (by first | assumption | omega | decide) (by first | assumption | omega | decide) dX5_lays_44 rfl ?_
      refine hg_icmp_ge (pc' := 50) cx 114 dX5_lays_47 (by decide) rfl (fun c_47 => ?_) (fun c_47 => ?_)
      ·
        have hk := hg_ge (n := len) (j := k) (e2.trans elen) (by omega) (by omega) c_47
        refine hg_iload2 (pc' := 115) cx dX5_lays_114 rfl ?_
        refine hg_iret cx dX5_lays_115 ⟨_, rfl, ?_⟩
        simp only [op_lays, c_4, hca, ← s1a, if_neg (hg_b0 c_23), elen, hcl, not_true_eq_false, if_false]
        rw [show min len (S.1 0).2 = k by omega]
        exact ⟨hI.2.2.2.2, hI.2.2.1, hI.2.2.2.1⟩
      ·
        have hk := hg_nge (n := len) (j := k) (e2.trans elen) (by omega) (by omega) c_47
        refine hg_iload3 (pc' := 51) cx dX5_lays_50 rfl ?_
        refine hg_aload0 (pc' := 52) cx dX5_lays_51 rfl ?_
        refine gf_X5_10 (pc' := 55) cx dX5_lays_52 rfl ?_
        refine gf_X5_87 (pc' := 58) cx (by first | assumption | omega | decide) (by first | assumption | omega | decide) dX5_lays_55 rfl ?_
        refine hg_icmp_ge (pc' := 61) cx 114 dX5_lays_58 (by decide) rfl (fun c_58 => ?_) (fun c_58 => ?_)
        ·
          have hk2 := hg_ge hnτ (by omega) (by omega) c_58
          refine hg_iload2 (pc' := 115) cx dX5_lays_114 rfl ?_
          refine hg_iret cx dX5_lays_115 ⟨_, rfl, ?_⟩
          simp only [op_lays, c_4, hca, ← s1a, if_neg (hg_b0 c_23), elen, hcl, not_true_eq_false, if_false]
          rw [show min len (S.1 0).2 = k by omega]
          exact ⟨hI.2.2.2.2, hI.2.2.1, hI.2.2.2.1⟩
        ·
          have hk2 := hg_nge hnτ (by omega) (by omega) c_58
          have ec : τ.2 (12 + a + 4) k = S.2.2 a k := by rw [show 12 + a + 4 = 16 + a by omega]; exact e3 k (by omega)
          refine hg_aload0 (pc' := 62) cx dX5_lays_61 rfl ?_
          refine gf_X5_31 (pc' := 65) cx dX5_lays_62 rfl ?_
          refine hg_iload1 (pc' := 66) cx dX5_lays_65 rfl ?_
          refine hg_shat (j := a) cx (by omega) dX5_lays_66 rfl ?_
          refine gf_X5_206 (pc' := 70) cx (by first | assumption | omega | decide) (by first | assumption | omega | decide) dX5_lays_67 rfl ?_
          refine hg_iload3 (pc' := 71) cx dX5_lays_70 rfl ?_
          refine hg_lald2 (i := 12 + a + 4) cx (by omega) (fun f g => hg_ceNum E f g (by omega) (by omega)) (by omega) (by decide) dX5_lays_71 rfl ?_
          refine hg_lstore4 (pc' := 74) cx rfl dX5_lays_72 rfl ?_
          rw [ec]
          refine hg_lload4 (pc' := 76) cx dX5_lays_74 rfl ?_
          refine hg_lconst (pc' := 77) cx 0 dX5_lays_76 (by decide) rfl ?_
          refine hg_lcmp (pc' := 78) cx dX5_lays_77 rfl ?_
          refine hg_if_lt (pc' := 81) cx 108 dX5_lays_78 (by decide) rfl (fun c_78 => ?_) (fun c_78 => ?_)
          ·
            refine hg_iinc3p (pc' := 111) cx rfl dX5_lays_108 rfl ?_
            refine hg_goto cx 37 dX5_lays_111 (by decide) ?_
            refine hg_drop4 ?_
            refine hg_drop5 ?_
            rw [nI_1]
            refine hg_nm (fun μ hμ => ?_)
            refine ih_37 (μ, _, k + 1) ?_ ?_
            · subst hμ
              try dsimp only
              first
                | (have q := (lg_cmp_lt _ _).mp c_78
                   rw [sp_lays, if_neg (fun z => Int64.not_le.mpr q z.1)]
                   exact ⟨hk, hk2, hI.2.2.1, hI.2.2.2.1, hI.2.2.2.2⟩)
                | (have q := (lg_cmp_gt _ _).mp c_87
                   rw [sp_lays, if_neg (fun z => Int64.not_le.mpr q z.2)]
                   exact ⟨hk, hk2, hI.2.2.1, hI.2.2.2.1, hI.2.2.2.2⟩)
                | (have q1 : (0 : Int64) ≤ S.2.2 a k := Int64.not_lt.mp (fun z => c_78 ((lg_cmp_lt _ _).mpr z))
                   have q2 : S.2.2 a k ≤ 255 := Int64.not_lt.mp (fun z => c_87 ((lg_cmp_gt _ _).mpr z))
                   rw [sp_lays, if_pos ⟨q1, q2⟩]
                   rw [hg_sI_eq]
                   obtain ⟨hA, hB⟩ := hRτ.setH hk2 (sp_Ag.up (fun j hj => hRτ.2.2.2 k hk2 j hj) 1 (rfl : (S.2.2 a k).toInt32 = _))
                   obtain ⟨q3, q4⟩ := hI.2.2.1.setC _ _ hB hA
                   rw [sp_sC_sC] at q3
                   exact ⟨hk, hk2, q3, hI.2.2.2.1.tr q4, by rw [hI.2.2.2.2]⟩)
            · show len - (k + 1) < len - k
              omega
          ·
            skip
            refine hg_lload4 (pc' := 83) cx dX5_lays_81 rfl ?_
            refine hg_ldc2 (pc' := 86) cx kc_X5_226 dX5_lays_83 rfl ?_
            refine hg_lcmp (pc' := 87) cx dX5_lays_86 rfl ?_
            refine hg_if_gt (pc' := 90) cx 108 dX5_lays_87 (by decide) rfl (fun c_87 => ?_) (fun c_87 => ?_)
            ·
              refine hg_iinc3p (pc' := 111) cx rfl dX5_lays_108 rfl ?_
              refine hg_goto cx 37 dX5_lays_111 (by decide) ?_
              refine hg_drop4 ?_
              refine hg_drop5 ?_
              rw [nI_1]
              refine hg_nm (fun μ hμ => ?_)
              refine ih_37 (μ, _, k + 1) ?_ ?_
              · subst hμ
                try dsimp only
                first
                  | (have q := (lg_cmp_lt _ _).mp c_78
                     rw [sp_lays, if_neg (fun z => Int64.not_le.mpr q z.1)]
                     exact ⟨hk, hk2, hI.2.2.1, hI.2.2.2.1, hI.2.2.2.2⟩)
                  | (have q := (lg_cmp_gt _ _).mp c_87
                     rw [sp_lays, if_neg (fun z => Int64.not_le.mpr q z.2)]
                     exact ⟨hk, hk2, hI.2.2.1, hI.2.2.2.1, hI.2.2.2.2⟩)
                  | (have q1 : (0 : Int64) ≤ S.2.2 a k := Int64.not_lt.mp (fun z => c_78 ((lg_cmp_lt _ _).mpr z))
                     have q2 : S.2.2 a k ≤ 255 := Int64.not_lt.mp (fun z => c_87 ((lg_cmp_gt _ _).mpr z))
                     rw [sp_lays, if_pos ⟨q1, q2⟩]
                     rw [hg_sI_eq]
                     obtain ⟨hA, hB⟩ := hRτ.setH hk2 (sp_Ag.up (fun j hj => hRτ.2.2.2 k hk2 j hj) 1 (rfl : (S.2.2 a k).toInt32 = _))
                     obtain ⟨q3, q4⟩ := hI.2.2.1.setC _ _ hB hA
                     rw [sp_sC_sC] at q3
                     exact ⟨hk, hk2, q3, hI.2.2.2.1.tr q4, by rw [hI.2.2.2.2]⟩)
              · show len - (k + 1) < len - k
                omega
            ·
              refine hg_aload0 (pc' := 91) cx dX5_lays_90 rfl ?_
              refine gf_X5_10 (pc' := 94) cx dX5_lays_91 rfl ?_
              refine gf_X5_94 (pc' := 97) cx (by first | assumption | omega | decide) (by first | assumption | omega | decide) dX5_lays_94 rfl ?_
              refine hg_iload3 (pc' := 98) cx dX5_lays_97 rfl ?_
              refine hg_seat (t := 1) (j := k) cx (by decide) (by decide) (by omega) dX5_lays_98 rfl ?_
              refine hg_lload4 (pc' := 101) cx dX5_lays_99 rfl ?_
              refine hg_l2i (pc' := 102) cx dX5_lays_101 rfl ?_
              refine pf_X5_128 (pc' := 105) cx (by first | assumption | omega | decide) (by first | assumption | omega | decide) dX5_lays_102 rfl ?_
              refine hg_iinc2p (pc' := 108) cx rfl dX5_lays_105 rfl ?_
              refine hg_iinc3p (pc' := 111) cx rfl dX5_lays_108 rfl ?_
              refine hg_goto cx 37 dX5_lays_111 (by decide) ?_
              refine hg_drop4 ?_
              refine hg_drop5 ?_
              rw [nI_1]
              refine hg_nm (fun μ hμ => ?_)
              refine ih_37 (μ, _, k + 1) ?_ ?_
              · subst hμ
                try dsimp only
                first
                  | (have q := (lg_cmp_lt _ _).mp c_78
                     rw [sp_lays, if_neg (fun z => Int64.not_le.mpr q z.1)]
                     exact ⟨hk, hk2, hI.2.2.1, hI.2.2.2.1, hI.2.2.2.2⟩)
                  | (have q := (lg_cmp_gt _ _).mp c_87
                     rw [sp_lays, if_neg (fun z => Int64.not_le.mpr q z.2)]
                     exact ⟨hk, hk2, hI.2.2.1, hI.2.2.2.1, hI.2.2.2.2⟩)
                  | (have q1 : (0 : Int64) ≤ S.2.2 a k := Int64.not_lt.mp (fun z => c_78 ((lg_cmp_lt _ _).mpr z))
                     have q2 : S.2.2 a k ≤ 255 := Int64.not_lt.mp (fun z => c_87 ((lg_cmp_gt _ _).mpr z))
                     rw [sp_lays, if_pos ⟨q1, q2⟩]
                     rw [hg_sI_eq]
                     obtain ⟨hA, hB⟩ := hRτ.setH hk2 (sp_Ag.up (fun j hj => hRτ.2.2.2 k hk2 j hj) 1 (rfl : (S.2.2 a k).toInt32 = _))
                     obtain ⟨q3, q4⟩ := hI.2.2.1.setC _ _ hB hA
                     rw [sp_sC_sC] at q3
                     exact ⟨hk, hk2, q3, hI.2.2.2.1.tr q4, by rw [hI.2.2.2.2]⟩)
              · show len - (k + 1) < len - k
                omega
    ·
      refine hg_aload0 (pc' := 27) cx dX5_lays_26 rfl ?_
      refine hg_ldc (pc' := 29) cx kc_X5_205 dX5_lays_27 rfl ?_
      refine cv_X5_45 (pc' := 32) cx (K_X5_finding l E _ (-1000000006) 5 (by decide) (by decide)) ⟨rfl, rfl, Nat.le_of_ble_eq_true rfl, Nat.le_of_ble_eq_true rfl⟩ (Nat.le_of_ble_eq_true rfl) dX5_lays_29 rfl (fun r_29 τ_29 h_29 => ?_)
      obtain ⟨rfl, rfl⟩ := h_29
      refine hg_iret cx dX5_lays_32 ⟨_, rfl, ?_⟩
      simp only [op_lays, c_4, hca, ← s1a, if_pos (hg_b1 c_23), not_true_eq_false, if_false]
      exact hc.find (by decide) (by decide)
  ·
    refine hg_aload0 (pc' := 8) cx dX5_lays_7 rfl ?_
    refine hg_ldc (pc' := 10) cx kc_X5_44 dX5_lays_8 rfl ?_
    refine cv_X5_45 (pc' := 13) cx (K_X5_finding l E _ (-1000000001) 0 (by decide) (by decide)) ⟨rfl, rfl, Nat.le_of_ble_eq_true rfl, Nat.le_of_ble_eq_true rfl⟩ (Nat.le_of_ble_eq_true rfl) dX5_lays_10 rfl (fun r_10 τ_10 h_10 => ?_)
    obtain ⟨rfl, rfl⟩ := h_10
    refine hg_iret cx dX5_lays_13 ⟨_, rfl, ?_⟩
    simp only [op_lays, c_4, not_true_eq_false, not_false_eq_true, true_or, or_true, false_or, or_false, or_self, if_true, if_false, and_self]
    exact hc.find (by decide) (by decide)
set_option maxHeartbeats 4000000 in
set_option maxRecDepth 100000 in
theorem K_X5_book (l : Launch) (E : hg_Wd) (σ : hg_Mem) (S : sp_S) (hc : cw_C σ S) (hv : vs_S S) (s : Int32) (x : Int32) : hg_C l E yX5_book cX5_book 4 (some .int) { frames := 5, cells := 0, slots := 0, locals := 112 } [.ref (hg_ad E 0), .int s, .int x] σ (hg_pi (fun r τ => cw_P σ (op_book S s x) r τ)) := by
  refine hg_intro (by decide) [some (.ref (hg_ad E 0)), some (.int s), some (.int x), none] rfl (Nat.le_of_ble_eq_true rfl) ?_
  intro p e s m args below meth c cx
  have cx : hg_Cx E p s m args meth c cX5_book 4 RX5 (some .int) := cx
  obtain ⟨hn10, hn, g0, g1, g2, hag⟩ := hc.get
  refine hg_iload1 (pc' := 1) cx dX5_book_0 rfl ?_
  refine cs_X5_191 (pc' := 4) cx (K_X5_noSheet l E _ _) ⟨rfl, rfl, Nat.le_of_ble_eq_true rfl, Nat.le_of_ble_eq_true rfl⟩ (Nat.le_of_ble_eq_true rfl) dX5_book_1 rfl (fun r_1 τ_1 h_1 => ?_)
  obtain ⟨rfl, rfl⟩ := h_1
  refine hg_if_eq (pc' := 7) cx 14 dX5_book_4 (by decide) rfl (fun c_4 => ?_) (fun c_4 => ?_)
  ·
    obtain ⟨a, -, ha3, rfl⟩ := sp_out_of 0 3 (by decide) (by decide) (by decide) (by decide) c_4
    have hca : (nI a).toNatClampNeg = a := nI_clamp (by omega)
    obtain ⟨s1a, s2a, s3a⟩ := hc.2.2.2.2.2.2 a (by omega)
    refine hg_aload0 (pc' := 15) cx dX5_book_14 rfl ?_
    refine gf_X5_31 (pc' := 18) cx dX5_book_15 rfl ?_
    refine hg_iload1 (pc' := 19) cx dX5_book_18 rfl ?_
    refine hg_shat (j := a) cx (by omega) dX5_book_19 rfl ?_
    refine cv_X5_202 (pc' := 23) cx (by first | assumption | omega | decide) (by first | assumption | omega | decide) (K_X2_isMissing l E _ _ (by first | assumption | omega | decide) (by first | assumption | omega | decide)) ⟨rfl, rfl, Nat.le_of_ble_eq_true rfl, Nat.le_of_ble_eq_true rfl⟩ (Nat.le_of_ble_eq_true rfl) dX5_book_20 rfl (fun r_20 τ_20 h_20 => ?_)
    obtain ⟨rfl, rfl⟩ := h_20
    refine hg_if_eq (pc' := 26) cx 33 dX5_book_23 (by decide) rfl (fun c_23 => ?_) (fun c_23 => ?_)
    ·
      refine hg_aload0 (pc' := 34) cx dX5_book_33 rfl ?_
      refine gf_X5_10 (pc' := 37) cx dX5_book_34 rfl ?_
      refine hg_iload2 (pc' := 38) cx dX5_book_37 rfl ?_
      refine cv_X5_90 (pc' := 41) cx (by first | assumption | omega | decide) (by first | assumption | omega | decide) (K_X3_has l E _ 1 (by decide) (by decide) (S.1 0).2 hn10 hn _) ⟨rfl, rfl, Nat.le_of_ble_eq_true rfl, Nat.le_of_ble_eq_true rfl⟩ (Nat.le_of_ble_eq_true rfl) dX5_book_38 rfl (fun r_38 τ_38 h_38 => ?_)
      obtain ⟨rfl, rfl⟩ := h_38
      refine hg_if_ne (pc' := 44) cx 51 dX5_book_41 (by decide) rfl (fun c_41 => ?_) (fun c_41 => ?_)
      ·
        obtain ⟨j, hjn, rfl⟩ := sp_hz_of hn10 c_41
        have hcj : (nI j).toNatClampNeg = j := nI_clamp (by omega)
        obtain ⟨len, hlen, elen⟩ := (hv.2.2.2.2 a (by omega)).2
        have hcl : (nI len).toNatClampNeg = len := nI_clamp (by omega)
        refine hg_aload0 (pc' := 52) cx dX5_book_51 rfl ?_
        refine gf_X5_16 (pc' := 55) cx dX5_book_52 rfl ?_
        refine hg_aload0 (pc' := 56) cx dX5_book_55 rfl ?_
        refine gf_X5_10 (pc' := 59) cx dX5_book_56 rfl ?_
        refine cv_X5_141 (pc' := 62) cx (by first | assumption | omega | decide) (by first | assumption | omega | decide) (K_X3_become l E _ 2 (by decide) (by decide) 1 (by decide) (by decide) (by decide) (S.1 0).2 hn10 hn) ⟨rfl, rfl, Nat.le_of_ble_eq_true rfl, Nat.le_of_ble_eq_true rfl⟩ (Nat.le_of_ble_eq_true rfl) dX5_book_59 rfl (fun τ_59 h_59 => ?_)
        obtain ⟨hF1, h4, hA⟩ := h_59
        have hR2 := hc.1.bec h4 hA
        refine hg_iconst (pc' := 63) cx (nI 0) dX5_book_62 (by decide) rfl ?_
        refine hg_istore3 (pc' := 64) cx rfl dX5_book_63 rfl ?_
        refine hg_nm (fun μ hμ => ?_)
        refine hg_loop (α := hg_Mem × Nat) (I := fun z => z.2 ≤ len ∧ (∀ i, i ≠ 2 → (i < 30 ∨ 40 ≤ i) → z.1.1 i = σ.1 i) ∧ sp_Rep z.1 2 (sp_go (S.1 0).1 (S.1 0).2 z.2) (S.1 0).2 ∧ (∀ i, i ≠ 16 + a → z.1.2 i = σ.2 i) ∧ ∀ i, i < 40 → z.1.2 (16 + a) i = sp_book (S.1 0).1 (S.1 0).2 j (S.2.1 3 a) (S.2.2 a) z.2 i) (P := fun z => hg_G E p l e { frames := 5, cells := 0, slots := 0, locals := 112 } s m args below meth c 4 (MQ below (hg_Qc E (hg_pi (fun r τ => cw_P σ (op_book S (nI a) (nI j)) r τ))) args s 0 0 (hg_AW E)) z.1 64 [some (.ref (hg_ad E 0)), some (.int (nI a)), some (.int (nI j)), some (.int (nI z.2))] []) (fun z => len - z.2) ?_ (μ, 0) ?_
        rotate_left
        · subst hμ
          try dsimp only
          refine ⟨Nat.zero_le _, fun i h1 h2 => hF1.2 i h1 (by omega), hR2, fun i _ => by rw [hF1.1], fun i hi => ?_⟩
          rw [hF1.1, s3a i hi, sp_book, if_neg (Nat.not_lt_zero _)]
        clear hμ μ
        rintro ⟨τ, k⟩ hI ih_64
        try dsimp only at hI ih_64 ⊢
        have hkl := hI.1
        refine hg_iload3 (pc' := 65) cx dX5_book_64 rfl ?_
        refine hg_aload0 (pc' := 66) cx dX5_book_65 rfl ?_
        refine gf_X5_31 (pc' := 69) cx dX5_book_66 rfl ?_
        refine hg_iload1 (pc' := 70) cx dX5_book_69 rfl ?_
        refine hg_shat (j := a) cx (by omega) dX5_book_70 rfl ?_
        refine gf_X5_201 (pc' := 74) cx (by first | assumption | omega | decide) (by first | assumption | omega | decide) dX5_book_71 rfl ?_
        refine hg_icmp_ge (pc' := 77) cx 110 dX5_book_74 (by decide) rfl (fun c_74 => ?_) (fun c_74 => ?_)
        ·
          have hk := hg_ge (n := len) (j := k) ((congrArg (fun z => z 2) (hI.2.1 (12 + a) (by omega) (by omega))).trans (s2a.trans elen)) (by omega) (by omega) c_74
          refine hg_aload0 (pc' := 111) cx dX5_book_110 rfl ?_
          refine gf_X5_31 (pc' := 114) cx dX5_book_111 rfl ?_
          refine hg_iload1 (pc' := 115) cx dX5_book_114 rfl ?_
          refine hg_shat (j := a) cx (by omega) dX5_book_115 rfl ?_
          refine gf_X5_201 (pc' := 119) cx (by first | assumption | omega | decide) (by first | assumption | omega | decide) dX5_book_116 rfl ?_
          refine hg_iret cx dX5_book_119 ⟨_, rfl, ?_⟩
          obtain rfl : k = len := by omega
          simp only [op_book, sp_hz, c_4, hca, hcj, ← s1a, if_neg (hg_b0 c_23), c_41, elen, hcl, not_true_eq_false, if_false]
          rw [s1a]
          exact ⟨by rw [hI.2.1 _ (by omega) (by omega), s2a, elen], hc.book (by omega) _ hI.2.1 hI.2.2.2.1 hI.2.2.2.2⟩
        ·
          have hk := hg_nge (n := len) (j := k) ((congrArg (fun z => z 2) (hI.2.1 (12 + a) (by omega) (by omega))).trans (s2a.trans elen)) (by omega) (by omega) c_74
          refine hg_aload0 (pc' := 78) cx dX5_book_77 rfl ?_
          refine gf_X5_31 (pc' := 81) cx dX5_book_78 rfl ?_
          refine hg_iload1 (pc' := 82) cx dX5_book_81 rfl ?_
          refine hg_shat (j := a) cx (by omega) dX5_book_82 rfl ?_
          refine hg_iload3 (pc' := 84) cx dX5_book_83 rfl ?_
          refine hg_aload0 (pc' := 85) cx dX5_book_84 rfl ?_
          refine gf_X5_16 (pc' := 88) cx dX5_book_85 rfl ?_
          refine hg_iload2 (pc' := 89) cx dX5_book_88 rfl ?_
          refine cv_X5_228 (pc' := 92) cx (by first | assumption | omega | decide) (by first | assumption | omega | decide) (K_X3_word l E _ 2 (by decide) (by decide) (S.1 0).2 hn10 ((hI.2.2.1.2.2.1 3 (by decide)).trans hI.2.2.1.2.1) j hjn) ⟨rfl, rfl, Nat.le_of_ble_eq_true rfl, Nat.le_of_ble_eq_true rfl⟩ (Nat.le_of_ble_eq_true rfl) dX5_book_89 rfl (fun r_89 τ_89 h_89 => ?_)
          obtain ⟨rfl, rfl⟩ := h_89
          rw [hI.2.2.1.word hjn]
          refine hg_i2l (pc' := 93) cx dX5_book_92 rfl ?_
          refine cv_X5_210 (pc' := 96) cx (by first | assumption | omega | decide) (by first | assumption | omega | decide) (K_X2_put l E _ (12 + a) (by omega) (by omega) k (by omega) (by rw [hI.2.1 _ (by omega) (by omega), s2a, elen]; exact nI_lt hk (by omega)) _) ⟨rfl, rfl, Nat.le_of_ble_eq_true rfl, Nat.le_of_ble_eq_true rfl⟩ (Nat.le_of_ble_eq_true rfl) dX5_book_93 rfl (fun τ_93 h_93 => ?_)
          have hR9 : sp_Rep τ_93 2 (sp_go (S.1 0).1 (S.1 0).2 k) (S.1 0).2 := by rw [← h_93]; exact hI.2.2.1
          refine hg_aload0 (pc' := 97) cx dX5_book_96 rfl ?_
          refine gf_X5_16 (pc' := 100) cx dX5_book_97 rfl ?_
          refine hg_iconst (pc' := 101) cx (nI 1) dX5_book_100 (by decide) rfl ?_
          refine cv_X5_134 (pc' := 104) cx (by first | assumption | omega | decide) (by first | assumption | omega | decide) (K_X3_go l E _ 2 (by decide) (by decide) (S.1 0).2 hn10 ((hR9.2.2.1 3 (by decide)).trans hR9.2.1) 1 (by omega) _ hR9) ⟨rfl, rfl, Nat.le_of_ble_eq_true rfl, Nat.le_of_ble_eq_true rfl⟩ (Nat.le_of_ble_eq_true rfl) dX5_book_101 rfl (fun τ_101 h_101 => ?_)
          skip
          refine hg_iinc3p (pc' := 107) cx rfl dX5_book_104 rfl ?_
          refine hg_goto cx 64 dX5_book_107 (by decide) ?_
          rw [nI_1]
          refine hg_nm (fun μ hμ => ?_)
          refine ih_64 (μ, k + 1) ?_ ?_
          · subst hμ
            try dsimp only
            subst h_93
            refine ⟨hk, fun i h1 h2 => (h_101.2.2 i h1 (by omega)).trans (hI.2.1 i h1 h2), h_101.1, fun i hi => ?_, fun i hi => ?_⟩
            · rw [h_101.2.1, show 12 + a + 4 = 16 + a by omega, hg_sL_eq, hg_sM_ne _ _ hi]; exact hI.2.2.2.1 i hi
            · rw [h_101.2.1, show 12 + a + 4 = 16 + a by omega, hg_sL_eq, hg_sM_at, hI.2.1 (12 + a) (by omega) (by omega), s1a]
              by_cases q : i = k
              · rw [q, va_upE, sp_book, if_pos (Nat.lt_succ_self k)]
              · rw [va_upN _ _ q, hI.2.2.2.2 i hi, sp_book, sp_book]
                by_cases z : i < k
                · rw [if_pos z, if_pos (by omega)]
                · rw [if_neg z, if_neg (by omega)]
          · show len - (k + 1) < len - k
            omega
      ·
        refine hg_aload0 (pc' := 45) cx dX5_book_44 rfl ?_
        refine hg_ldc (pc' := 47) cx kc_X5_44 dX5_book_45 rfl ?_
        refine cv_X5_45 (pc' := 50) cx (K_X5_finding l E _ (-1000000001) 0 (by decide) (by decide)) ⟨rfl, rfl, Nat.le_of_ble_eq_true rfl, Nat.le_of_ble_eq_true rfl⟩ (Nat.le_of_ble_eq_true rfl) dX5_book_47 rfl (fun r_47 τ_47 h_47 => ?_)
        obtain ⟨rfl, rfl⟩ := h_47
        refine hg_iret cx dX5_book_50 ⟨_, rfl, ?_⟩
        simp only [op_book, sp_hz, c_4, hca, ← s1a, if_neg (hg_b0 c_23), c_41, not_true_eq_false, if_false, if_true]
        exact hc.find (by decide) (by decide)
    ·
      refine hg_aload0 (pc' := 27) cx dX5_book_26 rfl ?_
      refine hg_ldc (pc' := 29) cx kc_X5_205 dX5_book_27 rfl ?_
      refine cv_X5_45 (pc' := 32) cx (K_X5_finding l E _ (-1000000006) 5 (by decide) (by decide)) ⟨rfl, rfl, Nat.le_of_ble_eq_true rfl, Nat.le_of_ble_eq_true rfl⟩ (Nat.le_of_ble_eq_true rfl) dX5_book_29 rfl (fun r_29 τ_29 h_29 => ?_)
      obtain ⟨rfl, rfl⟩ := h_29
      refine hg_iret cx dX5_book_32 ⟨_, rfl, ?_⟩
      simp only [op_book, c_4, hca, ← s1a, if_pos (hg_b1 c_23), not_true_eq_false, if_false]
      exact hc.find (by decide) (by decide)
  ·
    refine hg_aload0 (pc' := 8) cx dX5_book_7 rfl ?_
    refine hg_ldc (pc' := 10) cx kc_X5_44 dX5_book_8 rfl ?_
    refine cv_X5_45 (pc' := 13) cx (K_X5_finding l E _ (-1000000001) 0 (by decide) (by decide)) ⟨rfl, rfl, Nat.le_of_ble_eq_true rfl, Nat.le_of_ble_eq_true rfl⟩ (Nat.le_of_ble_eq_true rfl) dX5_book_10 rfl (fun r_10 τ_10 h_10 => ?_)
    obtain ⟨rfl, rfl⟩ := h_10
    refine hg_iret cx dX5_book_13 ⟨_, rfl, ?_⟩
    simp only [op_book, c_4, not_true_eq_false, not_false_eq_true, true_or, or_true, false_or, or_false, or_self, if_true, if_false, and_self]
    exact hc.find (by decide) (by decide)
set_option maxHeartbeats 4000000 in
set_option maxRecDepth 100000 in
theorem K_X5_saysJustSo (l : Launch) (E : hg_Wd) (σ : hg_Mem) (i : Nat) (hi1 : 12 ≤ i) (hi2 : i < 16) (len : Nat) (hlen : len ≤ 40) (hl : σ.1 i 2 = nI len) (C : sp_C) (n : Nat) (hR : sp_Rep σ 2 C n) (x : Nat) (hx : x < n) : hg_C l E yX5_saysJustSo cX5_saysJustSo 4 (some .boolean) { frames := 5, cells := 0, slots := 0, locals := 112 } [.ref (hg_ad E 0), .ref (hg_ad E i), .int (nI x)] σ (hg_pi (fun r τ => r = (if sp_just (σ.2 (i + 4)) C n x len 0 = true then 1 else 0) ∧ sp_Fr σ τ 2)) := by
  refine hg_intro (by decide) [some (.ref (hg_ad E 0)), some (.ref (hg_ad E i)), some (.int (nI x)), none] rfl (Nat.le_of_ble_eq_true rfl) ?_
  intro p e s m args below meth c cx
  have cx : hg_Cx E p s m args meth c cX5_saysJustSo 4 RX5 (some .boolean) := cx
  refine hg_iconst (pc' := 1) cx (nI 0) dX5_saysJustSo_0 (by decide) rfl ?_
  refine hg_istore3 (pc' := 2) cx rfl dX5_saysJustSo_1 rfl ?_
  refine hg_nm (fun μ hμ => ?_)
  refine hg_loop (α := hg_Mem × Nat) (I := fun z => z.2 ≤ len ∧ sp_Fr σ z.1 2 ∧ sp_Rep z.1 2 (sp_go C n z.2) n ∧ sp_just (σ.2 (i + 4)) C n x len 0 = sp_just (σ.2 (i + 4)) C n x (len - z.2) z.2) (P := fun z => hg_G E p l e { frames := 5, cells := 0, slots := 0, locals := 112 } s m args below meth c 4 (MQ below (hg_Qc E (hg_pi (fun r τ => r = (if sp_just (σ.2 (i + 4)) C n x len 0 = true then 1 else 0) ∧ sp_Fr σ τ 2))) args s 0 0 (hg_AW E)) z.1 2 [some (.ref (hg_ad E 0)), some (.ref (hg_ad E i)), some (.int (nI x)), some (.int (nI z.2))] []) (fun z => len - z.2) ?_ (μ, 0) ?_
  rotate_left
  · subst hμ
    try dsimp only
    exact ⟨Nat.zero_le _, sp_Fr.rf _ _, hR, rfl⟩
  clear hμ μ
  rintro ⟨τ, k⟩ hI ih_2
  try dsimp only at hI ih_2 ⊢
  have hkl := hI.1
  refine hg_iload3 (pc' := 3) cx dX5_saysJustSo_2 rfl ?_
  refine hg_aload1 (pc' := 4) cx dX5_saysJustSo_3 rfl ?_
  refine gf_X5_201 (pc' := 7) cx (by first | assumption | omega | decide) (by first | assumption | omega | decide) dX5_saysJustSo_4 rfl ?_
  refine hg_icmp_ge (pc' := 10) cx 45 dX5_saysJustSo_7 (by decide) rfl (fun c_7 => ?_) (fun c_7 => ?_)
  ·
    have hk := hg_ge (n := len) (j := k) ((congrArg (fun z => z 2) (hI.2.1.2 i (by omega) (by omega))).trans hl) (by omega) (by omega) c_7
    refine hg_iconst (pc' := 46) cx 1 dX5_saysJustSo_45 (by decide) rfl ?_
    refine hg_zret cx rfl dX5_saysJustSo_46 ⟨_, rfl, ?_⟩
    refine ⟨?_, hI.2.1⟩
    rw [hI.2.2.2, show len - k = 0 by omega]
    rfl
  ·
    have hk := hg_nge (n := len) (j := k) ((congrArg (fun z => z 2) (hI.2.1.2 i (by omega) (by omega))).trans hl) (by omega) (by omega) c_7
    refine hg_aload0 (pc' := 11) cx dX5_saysJustSo_10 rfl ?_
    refine gf_X5_16 (pc' := 14) cx dX5_saysJustSo_11 rfl ?_
    refine hg_iload2 (pc' := 15) cx dX5_saysJustSo_14 rfl ?_
    refine cv_X5_228 (pc' := 18) cx (by first | assumption | omega | decide) (by first | assumption | omega | decide) (K_X3_word l E _ 2 (by decide) (by decide) n hR.1 ((hI.2.2.1.2.2.1 3 (by decide)).trans hI.2.2.1.2.1) x hx) ⟨rfl, rfl, Nat.le_of_ble_eq_true rfl, Nat.le_of_ble_eq_true rfl⟩ (Nat.le_of_ble_eq_true rfl) dX5_saysJustSo_15 rfl (fun r_15 τ_15 h_15 => ?_)
    obtain ⟨rfl, rfl⟩ := h_15
    rw [hI.2.2.1.word hx]
    refine hg_i2l (pc' := 19) cx dX5_saysJustSo_18 rfl ?_
    refine hg_aload1 (pc' := 20) cx dX5_saysJustSo_19 rfl ?_
    refine gf_X5_206 (pc' := 23) cx (by first | assumption | omega | decide) (by first | assumption | omega | decide) dX5_saysJustSo_20 rfl ?_
    refine hg_iload3 (pc' := 24) cx dX5_saysJustSo_23 rfl ?_
    refine hg_lald2 (i := i + 4) cx (by omega) (fun f g => hg_ceNum E f g (by omega) (by omega)) (by omega) (by decide) dX5_saysJustSo_24 rfl ?_
    refine hg_lcmp (pc' := 26) cx dX5_saysJustSo_25 rfl ?_
    refine hg_if_eq (pc' := 29) cx 31 dX5_saysJustSo_26 (by decide) rfl (fun c_26 => ?_) (fun c_26 => ?_)
    ·
      refine hg_aload0 (pc' := 32) cx dX5_saysJustSo_31 rfl ?_
      refine gf_X5_16 (pc' := 35) cx dX5_saysJustSo_32 rfl ?_
      refine hg_iconst (pc' := 36) cx (nI 1) dX5_saysJustSo_35 (by decide) rfl ?_
      refine cv_X5_134 (pc' := 39) cx (by first | assumption | omega | decide) (by first | assumption | omega | decide) (K_X3_go l E _ 2 (by decide) (by decide) n hR.1 ((hI.2.2.1.2.2.1 3 (by decide)).trans hI.2.2.1.2.1) 1 (by omega) _ hI.2.2.1) ⟨rfl, rfl, Nat.le_of_ble_eq_true rfl, Nat.le_of_ble_eq_true rfl⟩ (Nat.le_of_ble_eq_true rfl) dX5_saysJustSo_36 rfl (fun τ_36 h_36 => ?_)
      skip
      refine hg_iinc3p (pc' := 42) cx rfl dX5_saysJustSo_39 rfl ?_
      refine hg_goto cx 2 dX5_saysJustSo_42 (by decide) ?_
      rw [nI_1]
      refine hg_nm (fun μ hμ => ?_)
      refine ih_2 (μ, k + 1) ?_ ?_
      · subst hμ
        try dsimp only
        have q := (lg_cmp_eq _ _).mp c_26
        rw [hI.2.1.1] at q
        refine ⟨hk, hI.2.1.tr h_36.2, h_36.1, ?_⟩
        rw [hI.2.2.2, show len - k = (len - (k + 1)) + 1 by omega, sp_just, if_pos q]
      · show len - (k + 1) < len - k
        omega
    ·
      refine hg_iconst (pc' := 30) cx 0 dX5_saysJustSo_29 (by decide) rfl ?_
      refine hg_zret cx rfl dX5_saysJustSo_30 ⟨_, rfl, ?_⟩
      have q : ¬ _ := fun z => c_26 ((lg_cmp_eq _ _).mpr z)
      rw [hI.2.1.1] at q
      refine ⟨?_, hI.2.1⟩
      rw [hI.2.2.2, show len - k = (len - (k + 1)) + 1 by omega, sp_just, if_neg q]
      rfl
set_option maxHeartbeats 4000000 in
set_option maxRecDepth 100000 in
theorem K_X5_read (l : Launch) (E : hg_Wd) (σ : hg_Mem) (S : sp_S) (hc : cw_C σ S) (hv : vs_S S) (s : Int32) (x : Int32) : hg_C l E yX5_read cX5_read 6 (some .int) { frames := 6, cells := 0, slots := 0, locals := 135 } [.ref (hg_ad E 0), .int s, .int x] σ (hg_pi (fun r τ => cw_P σ (op_read S s x) r τ)) := by
  refine hg_intro (by decide) [some (.ref (hg_ad E 0)), some (.int s), some (.int x), none, none, none] rfl (Nat.le_of_ble_eq_true rfl) ?_
  intro p e s m args below meth c cx
  have cx : hg_Cx E p s m args meth c cX5_read 6 RX5 (some .int) := cx
  obtain ⟨hn10, hn, g0, g1, g2, hag⟩ := hc.get
  refine hg_iload1 (pc' := 1) cx dX5_read_0 rfl ?_
  refine cs_X5_191 (pc' := 4) cx (K_X5_noSheet l E _ _) ⟨rfl, rfl, Nat.le_of_ble_eq_true rfl, Nat.le_of_ble_eq_true rfl⟩ (Nat.le_of_ble_eq_true rfl) dX5_read_1 rfl (fun r_1 τ_1 h_1 => ?_)
  obtain ⟨rfl, rfl⟩ := h_1
  refine hg_if_eq (pc' := 7) cx 14 dX5_read_4 (by decide) rfl (fun c_4 => ?_) (fun c_4 => ?_)
  ·
    obtain ⟨a, -, ha3, rfl⟩ := sp_out_of 0 3 (by decide) (by decide) (by decide) (by decide) c_4
    have hca : (nI a).toNatClampNeg = a := nI_clamp (by omega)
    obtain ⟨s1a, s2a, s3a⟩ := hc.2.2.2.2.2.2 a (by omega)
    refine hg_aload0 (pc' := 15) cx dX5_read_14 rfl ?_
    refine gf_X5_31 (pc' := 18) cx dX5_read_15 rfl ?_
    refine hg_iload1 (pc' := 19) cx dX5_read_18 rfl ?_
    refine hg_shat (j := a) cx (by omega) dX5_read_19 rfl ?_
    refine cv_X5_202 (pc' := 23) cx (by first | assumption | omega | decide) (by first | assumption | omega | decide) (K_X2_isMissing l E _ _ (by first | assumption | omega | decide) (by first | assumption | omega | decide)) ⟨rfl, rfl, Nat.le_of_ble_eq_true rfl, Nat.le_of_ble_eq_true rfl⟩ (Nat.le_of_ble_eq_true rfl) dX5_read_20 rfl (fun r_20 τ_20 h_20 => ?_)
    obtain ⟨rfl, rfl⟩ := h_20
    refine hg_if_eq (pc' := 26) cx 33 dX5_read_23 (by decide) rfl (fun c_23 => ?_) (fun c_23 => ?_)
    ·
      refine hg_aload0 (pc' := 34) cx dX5_read_33 rfl ?_
      refine gf_X5_10 (pc' := 37) cx dX5_read_34 rfl ?_
      refine hg_iload2 (pc' := 38) cx dX5_read_37 rfl ?_
      refine cv_X5_90 (pc' := 41) cx (by first | assumption | omega | decide) (by first | assumption | omega | decide) (K_X3_has l E _ 1 (by decide) (by decide) (S.1 0).2 hn10 hn _) ⟨rfl, rfl, Nat.le_of_ble_eq_true rfl, Nat.le_of_ble_eq_true rfl⟩ (Nat.le_of_ble_eq_true rfl) dX5_read_38 rfl (fun r_38 τ_38 h_38 => ?_)
      obtain ⟨rfl, rfl⟩ := h_38
      refine hg_if_ne (pc' := 44) cx 51 dX5_read_41 (by decide) rfl (fun c_41 => ?_) (fun c_41 => ?_)
      ·
        obtain ⟨j, hjn, rfl⟩ := sp_hz_of hn10 c_41
        have hcj : (nI j).toNatClampNeg = j := nI_clamp (by omega)
        obtain ⟨len, hlen, elen⟩ := (hv.2.2.2.2 a (by omega)).2
        have hcl : (nI len).toNatClampNeg = len := nI_clamp (by omega)
        refine hg_iconst (pc' := 52) cx 0 dX5_read_51 (by decide) rfl ?_
        refine hg_istore3 (pc' := 53) cx rfl dX5_read_52 rfl ?_
        refine hg_iconst (pc' := 54) cx (nI 0) dX5_read_53 (by decide) rfl ?_
        refine hg_istore4 (pc' := 56) cx rfl dX5_read_54 rfl ?_
        refine hg_drop5 ?_
        refine hg_nm (fun μ hμ => ?_)
        refine hg_loop (α := hg_Mem × Int32 × Nat) (I := fun z => z.2.2 ≤ 6 ∧ sp_Fr σ z.1 2 ∧ z.2.1 = sp_cnt (sp_pair (S.2.2 a) (S.1 0).1 (S.1 0).2 j len) (256 * z.2.2)) (P := fun z => hg_G E p l e { frames := 6, cells := 0, slots := 0, locals := 135 } s m args below meth c 6 (MQ below (hg_Qc E (hg_pi (fun r τ => cw_P σ (op_read S (nI a) (nI j)) r τ))) args s 0 0 (hg_AW E)) z.1 56 [some (.ref (hg_ad E 0)), some (.int (nI a)), some (.int (nI j)), some (.int z.2.1), some (.int (nI z.2.2)), none] []) (fun z => 6 - z.2.2) ?_ (μ, 0, 0) ?_
        rotate_left
        · subst hμ
          try dsimp only
          exact ⟨Nat.zero_le _, sp_Fr.rf _ _, rfl⟩
        clear hμ μ
        rintro ⟨τ, x, k⟩ hI ih_56
        try dsimp only at hI ih_56 ⊢
        have hk6 := hI.1
        refine hg_iload4 (pc' := 58) cx dX5_read_56 rfl ?_
        refine hg_bipush (pc' := 60) cx (nI 6) dX5_read_58 (by decide) rfl ?_
        refine hg_icmp_ge (pc' := 63) cx 142 dX5_read_60 (by decide) rfl (fun c_60 => ?_) (fun c_60 => ?_)
        ·
          have hk := hg_ge (n := 6) (j := k) rfl (by omega) (by omega) c_60
          refine hg_iload3 (pc' := 143) cx dX5_read_142 rfl ?_
          refine hg_iret cx dX5_read_143 ⟨_, rfl, ?_⟩
          obtain rfl : k = 6 := by omega
          obtain ⟨q1, q2⟩ := hc.fr2 hI.2.1
          simp only [op_read, sp_hz, c_4, hca, hcj, ← s1a, if_neg (hg_b0 c_23), c_41, elen, hcl, not_true_eq_false, if_false]
          exact ⟨hI.2.2, q1, q2⟩
        ·
          have hk := hg_nge (n := 6) (j := k) rfl (by omega) (by omega) c_60
          refine hg_iconst (pc' := 64) cx (nI 0) dX5_read_63 (by decide) rfl ?_
          refine hg_istore5 (pc' := 66) cx rfl dX5_read_64 rfl ?_
          refine hg_nm (fun μ hμ => ?_)
          refine hg_loop (α := hg_Mem × Int32 × Nat) (I := fun z => z.2.2 ≤ 256 ∧ sp_Fr σ z.1 2 ∧ z.2.1 = sp_cnt (sp_pair (S.2.2 a) (S.1 0).1 (S.1 0).2 j len) (256 * k + z.2.2)) (P := fun z => hg_G E p l e { frames := 6, cells := 0, slots := 0, locals := 135 } s m args below meth c 6 (MQ below (hg_Qc E (hg_pi (fun r τ => cw_P σ (op_read S (nI a) (nI j)) r τ))) args s 0 0 (hg_AW E)) z.1 66 [some (.ref (hg_ad E 0)), some (.int (nI a)), some (.int (nI j)), some (.int z.2.1), some (.int (nI k)), some (.int (nI z.2.2))] []) (fun z => 256 - z.2.2) ?_ (μ, x, 0) ?_
          rotate_left
          · subst hμ
            try dsimp only
            exact ⟨Nat.zero_le _, hI.2.1, hI.2.2⟩
          clear hμ μ
          rintro ⟨ρ, y, w⟩ hI ih_66
          try dsimp only at hI ih_66 ⊢
          have hJ := hI
          clear hI
          rename_i hI
          have hw6 := hJ.1
          obtain ⟨hcρ, hfρ⟩ := hc.fr2 hJ.2.1
          obtain ⟨-, hnρ, k0, k1, k2, hagρ⟩ := hcρ.get
          refine hg_iload5 (pc' := 68) cx dX5_read_66 rfl ?_
          refine hg_sipush (pc' := 71) cx (nI 255) dX5_read_68 (by decide) rfl ?_
          refine hg_icmp_gt (pc' := 74) cx 136 dX5_read_71 (by decide) rfl (fun c_71 => ?_) (fun c_71 => ?_)
          ·
            have hw := hg_gt (a := 255) (b := w) (by omega) (by omega) c_71
            refine hg_iinc4p (pc' := 139) cx rfl dX5_read_136 rfl ?_
            refine hg_goto cx 56 dX5_read_139 (by decide) ?_
            refine hg_drop5 ?_
            rw [nI_1]
            refine hg_nm (fun μ hμ => ?_)
            refine ih_56 (μ, _, k + 1) ?_ ?_
            · subst hμ
              try dsimp only
              refine ⟨by omega, hJ.2.1, ?_⟩
              rw [hJ.2.2, show 256 * k + w = 256 * (k + 1) by omega]
            · show 6 - (k + 1) < 6 - k
              omega
          ·
            have hw := hg_ngt (a := 255) (b := w) (by omega) (by omega) c_71
            refine hg_aload0 (pc' := 75) cx dX5_read_74 rfl ?_
            refine gf_X5_16 (pc' := 78) cx dX5_read_75 rfl ?_
            refine hg_aload0 (pc' := 79) cx dX5_read_78 rfl ?_
            refine gf_X5_10 (pc' := 82) cx dX5_read_79 rfl ?_
            refine cv_X5_141 (pc' := 85) cx (by first | assumption | omega | decide) (by first | assumption | omega | decide) (K_X3_become l E _ 2 (by decide) (by decide) 1 (by decide) (by decide) (by decide) (S.1 0).2 hn10 hnρ) ⟨rfl, rfl, Nat.le_of_ble_eq_true rfl, Nat.le_of_ble_eq_true rfl⟩ (Nat.le_of_ble_eq_true rfl) dX5_read_82 rfl (fun τ_82 h_82 => ?_)
            obtain ⟨hF1, h4, hA⟩ := h_82
            have hR2 := hcρ.1.bec h4 hA
            have hS := hR2.setH hjn (sp_Ag.up (fun y hy => hR2.2.2.2 j hjn y hy) 0 (rfl : nI k = nI k))
            have hS2 := hS.1.setH hjn (sp_Ag.up (fun y hy => hS.1.2.2.2 j hjn y hy) 1 (rfl : nI w = nI w))
            have hFa := (hJ.2.1.tr hF1).tr (hS.2.tr hS2.2)
            have el2 := (congrArg (fun z => z 2) (hFa.2 (12 + a) (by omega) (by omega))).trans (s2a.trans elen)
            refine hg_aload0 (pc' := 86) cx dX5_read_85 rfl ?_
            refine gf_X5_16 (pc' := 89) cx dX5_read_86 rfl ?_
            refine gf_X5_94 (pc' := 92) cx (by first | assumption | omega | decide) (by first | assumption | omega | decide) dX5_read_89 rfl ?_
            refine hg_iload2 (pc' := 93) cx dX5_read_92 rfl ?_
            refine hg_seat (t := 2) cx (by decide) (by decide) (by omega) dX5_read_93 rfl ?_
            refine hg_iload4 (pc' := 96) cx dX5_read_94 rfl ?_
            refine pf_X5_122 (pc' := 99) cx (by first | assumption | omega | decide) (by first | assumption | omega | decide) dX5_read_96 rfl ?_
            refine hg_aload0 (pc' := 100) cx dX5_read_99 rfl ?_
            refine gf_X5_16 (pc' := 103) cx dX5_read_100 rfl ?_
            refine gf_X5_94 (pc' := 106) cx (by first | assumption | omega | decide) (by first | assumption | omega | decide) dX5_read_103 rfl ?_
            refine hg_iload2 (pc' := 107) cx dX5_read_106 rfl ?_
            refine hg_seat (t := 2) cx (by decide) (by decide) (by omega) dX5_read_107 rfl ?_
            refine hg_iload5 (pc' := 110) cx dX5_read_108 rfl ?_
            refine pf_X5_128 (pc' := 113) cx (by first | assumption | omega | decide) (by first | assumption | omega | decide) dX5_read_110 rfl ?_
            refine hg_aload0 (pc' := 114) cx dX5_read_113 rfl ?_
            refine hg_aload0 (pc' := 115) cx dX5_read_114 rfl ?_
            refine gf_X5_31 (pc' := 118) cx dX5_read_115 rfl ?_
            refine hg_iload1 (pc' := 119) cx dX5_read_118 rfl ?_
            refine hg_shat (j := a) cx (by omega) dX5_read_119 rfl ?_
            refine hg_iload2 (pc' := 121) cx dX5_read_120 rfl ?_
            refine cv_X5_231 (pc' := 124) cx (K_X5_saysJustSo l E _ (12 + a) (by omega) (by omega) len hlen el2 _ (S.1 0).2 hS2.1 j hjn) ⟨rfl, rfl, Nat.le_of_ble_eq_true rfl, Nat.le_of_ble_eq_true rfl⟩ (Nat.le_of_ble_eq_true rfl) dX5_read_121 rfl (fun r_121 τ_121 h_121 => ?_)
            obtain ⟨rfl, hFb⟩ := h_121
            have hF9 := hFa.tr hFb
            have ecs : ∀ y, y < 40 → (hg_sH (hg_sH τ_82 (10 + 10 * 2 + j) (va_up (τ_82.1 (10 + 10 * 2 + j)) 0 (nI k))) (10 + 10 * 2 + j) (va_up ((hg_sH τ_82 (10 + 10 * 2 + j) (va_up (τ_82.1 (10 + 10 * 2 + j)) 0 (nI k))).1 (10 + 10 * 2 + j)) 1 (nI w))).2 (12 + a + 4) y = S.2.2 a y := fun y hy => by rw [show 12 + a + 4 = 16 + a by omega, hFa.1]; exact s3a y hy
            have epr : sp_pair (S.2.2 a) (S.1 0).1 (S.1 0).2 j len (256 * k + w) = sp_just (S.2.2 a) (sp_hatF (sp_hatF (S.1 0).1 j 0 (nI k)) j 1 (nI w)) (S.1 0).2 j len 0 := by unfold sp_pair; rw [show (256 * k + w) / 256 = k by omega, show (256 * k + w) % 256 = w by omega]
            have ej := sp_just_ag (C := sp_hatF (sp_hatF (S.1 0).1 j 0 (nI k)) j 1 (nI w)) (n := (S.1 0).2) (x := j) ecs len 0 (by omega)
            rw [← epr] at ej
            refine hg_if_eq (pc' := 127) cx 130 dX5_read_124 (by decide) rfl (fun c_124 => ?_) (fun c_124 => ?_)
            ·
              refine hg_iinc5p (pc' := 133) cx rfl dX5_read_130 rfl ?_
              refine hg_goto cx 66 dX5_read_133 (by decide) ?_
              rw [nI_1]
              refine hg_nm (fun μ hμ => ?_)
              refine ih_66 (μ, _, w + 1) ?_ ?_
              · subst hμ
                try dsimp only
                refine ⟨by omega, hF9, ?_⟩
                rw [show 256 * k + (w + 1) = (256 * k + w) + 1 by omega, sp_cnt]
                first
                  | (rw [if_neg (fun z => hg_b0 c_124 (ej.trans z))]; exact hJ.2.2)
                  | (rw [if_pos (ej.symm.trans (hg_b1 c_124)), hJ.2.2])
              · show 256 - (w + 1) < 256 - w
                omega
            ·
              refine hg_iinc3p (pc' := 130) cx rfl dX5_read_127 rfl ?_
              refine hg_iinc5p (pc' := 133) cx rfl dX5_read_130 rfl ?_
              refine hg_goto cx 66 dX5_read_133 (by decide) ?_
              rw [nI_1]
              refine hg_nm (fun μ hμ => ?_)
              refine ih_66 (μ, _, w + 1) ?_ ?_
              · subst hμ
                try dsimp only
                refine ⟨by omega, hF9, ?_⟩
                rw [show 256 * k + (w + 1) = (256 * k + w) + 1 by omega, sp_cnt]
                first
                  | (rw [if_neg (fun z => hg_b0 c_124 (ej.trans z))]; exact hJ.2.2)
                  | (rw [if_pos (ej.symm.trans (hg_b1 c_124)), hJ.2.2])
              · show 256 - (w + 1) < 256 - w
                omega
      ·
        refine hg_aload0 (pc' := 45) cx dX5_read_44 rfl ?_
        refine hg_ldc (pc' := 47) cx kc_X5_44 dX5_read_45 rfl ?_
        refine cv_X5_45 (pc' := 50) cx (K_X5_finding l E _ (-1000000001) 0 (by decide) (by decide)) ⟨rfl, rfl, Nat.le_of_ble_eq_true rfl, Nat.le_of_ble_eq_true rfl⟩ (Nat.le_of_ble_eq_true rfl) dX5_read_47 rfl (fun r_47 τ_47 h_47 => ?_)
        obtain ⟨rfl, rfl⟩ := h_47
        refine hg_iret cx dX5_read_50 ⟨_, rfl, ?_⟩
        simp only [op_read, sp_hz, c_4, hca, ← s1a, if_neg (hg_b0 c_23), c_41, not_true_eq_false, if_false, if_true]
        exact hc.find (by decide) (by decide)
    ·
      refine hg_aload0 (pc' := 27) cx dX5_read_26 rfl ?_
      refine hg_ldc (pc' := 29) cx kc_X5_205 dX5_read_27 rfl ?_
      refine cv_X5_45 (pc' := 32) cx (K_X5_finding l E _ (-1000000006) 5 (by decide) (by decide)) ⟨rfl, rfl, Nat.le_of_ble_eq_true rfl, Nat.le_of_ble_eq_true rfl⟩ (Nat.le_of_ble_eq_true rfl) dX5_read_29 rfl (fun r_29 τ_29 h_29 => ?_)
      obtain ⟨rfl, rfl⟩ := h_29
      refine hg_iret cx dX5_read_32 ⟨_, rfl, ?_⟩
      simp only [op_read, c_4, hca, ← s1a, if_pos (hg_b1 c_23), not_true_eq_false, if_false]
      exact hc.find (by decide) (by decide)
  ·
    refine hg_aload0 (pc' := 8) cx dX5_read_7 rfl ?_
    refine hg_ldc (pc' := 10) cx kc_X5_44 dX5_read_8 rfl ?_
    refine cv_X5_45 (pc' := 13) cx (K_X5_finding l E _ (-1000000001) 0 (by decide) (by decide)) ⟨rfl, rfl, Nat.le_of_ble_eq_true rfl, Nat.le_of_ble_eq_true rfl⟩ (Nat.le_of_ble_eq_true rfl) dX5_read_10 rfl (fun r_10 τ_10 h_10 => ?_)
    obtain ⟨rfl, rfl⟩ := h_10
    refine hg_iret cx dX5_read_13 ⟨_, rfl, ?_⟩
    simp only [op_read, c_4, not_true_eq_false, not_false_eq_true, true_or, or_true, false_or, or_false, or_self, if_true, if_false, and_self]
    exact hc.find (by decide) (by decide)
