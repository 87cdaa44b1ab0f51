set_option maxHeartbeats 4000000 in
set_option maxRecDepth 100000 in
theorem K_X5_kind (l : Launch) (E : hg_Wd) (σ : hg_Mem) (S : sp_S) (hc : cw_C σ S) (x : Int32) (N : Int32) : hg_C l E yX5_kind cX5_kind 6 (some .int) { frames := 5, cells := 0, slots := 0, locals := 112 } [.ref (hg_ad E 0), .int x, .int N] σ (hg_pi (fun r τ => cw_P σ (op_kind S x N) r τ)) := by
  refine hg_intro (by decide) [some (.ref (hg_ad E 0)), some (.int x), some (.int N), none, none, none] rfl (Nat.le_of_ble_eq_true rfl) ?_
  intro p e s m args below meth c cx
  have cx : hg_Cx E p s m args meth c cX5_kind 6 RX5 (some .int) := cx
  obtain ⟨hn10, hn, g0, g1, g2, hag⟩ := hc.get
  refine hg_aload0 (pc' := 1) cx dX5_kind_0 rfl ?_
  refine gf_X5_10 (pc' := 4) cx dX5_kind_1 rfl ?_
  refine hg_iload1 (pc' := 5) cx dX5_kind_4 rfl ?_
  refine cv_X5_90 (pc' := 8) cx (by first | assumption | omega | decide) (by first | assumption | omega | decide) (K_X3_has l E _ 1 (by decide) (by decide) (S.1 0).2 hn10 hn _) ⟨rfl, rfl, Nat.le_of_ble_eq_true rfl, Nat.le_of_ble_eq_true rfl⟩ (Nat.le_of_ble_eq_true rfl) dX5_kind_5 rfl (fun r_5 τ_5 h_5 => ?_)
  obtain ⟨rfl, rfl⟩ := h_5
  refine hg_if_eq (pc' := 11) cx 21 dX5_kind_8 (by decide) rfl (fun c_8 => ?_) (fun c_8 => ?_)
  ·
    refine hg_aload0 (pc' := 22) cx dX5_kind_21 rfl ?_
    refine hg_ldc (pc' := 24) cx kc_X5_44 dX5_kind_22 rfl ?_
    refine cv_X5_45 (pc' := 27) cx (K_X5_finding l E _ (-1000000001) 0 (by decide) (by decide)) ⟨rfl, rfl, Nat.le_of_ble_eq_true rfl, Nat.le_of_ble_eq_true rfl⟩ (Nat.le_of_ble_eq_true rfl) dX5_kind_24 rfl (fun r_24 τ_24 h_24 => ?_)
    obtain ⟨rfl, rfl⟩ := h_24
    refine hg_iret cx dX5_kind_27 ⟨_, rfl, ?_⟩
    simp only [op_kind, sp_hz, c_8, not_true_eq_false, not_false_eq_true, true_or, or_true, false_or, or_false, or_self, if_true, if_false, and_self]
    exact hc.find (by decide) (by decide)
  ·
    refine hg_iload2 (pc' := 12) cx dX5_kind_11 rfl ?_
    refine hg_iconst (pc' := 13) cx 1 dX5_kind_12 (by decide) rfl ?_
    refine hg_bipush (pc' := 15) cx 60 dX5_kind_13 (by decide) rfl ?_
    refine cs_X5_40 (pc' := 18) cx (K_X5_outside l E _ _ _ _) ⟨rfl, rfl, Nat.le_of_ble_eq_true rfl, Nat.le_of_ble_eq_true rfl⟩ (Nat.le_of_ble_eq_true rfl) dX5_kind_15 rfl (fun r_15 τ_15 h_15 => ?_)
    obtain ⟨rfl, rfl⟩ := h_15
    refine hg_if_eq (pc' := 21) cx 28 dX5_kind_18 (by decide) rfl (fun c_18 => ?_) (fun c_18 => ?_)
    ·
      obtain ⟨j, hjn, rfl⟩ := sp_hz_of hn10 c_8
      have hcl : (nI j).toNatClampNeg = j := nI_clamp (by omega)
      have hj := hag j hjn
      obtain ⟨a, ha1, ha2, rfl⟩ := sp_out_of 1 60 (by decide) (by decide) (by decide) (by decide) c_18
      have hca : (nI a).toNatClampNeg = a := nI_clamp (by omega)
      refine hg_iconst (pc' := 29) cx 0 dX5_kind_28 (by decide) rfl ?_
      refine hg_istore3 (pc' := 30) cx rfl dX5_kind_29 rfl ?_
      refine hg_iconst (pc' := 31) cx (-1) dX5_kind_30 (by decide) rfl ?_
      refine hg_istore4 (pc' := 33) cx rfl dX5_kind_31 rfl ?_
      refine hg_iconst (pc' := 34) cx (nI 0) dX5_kind_33 (by decide) rfl ?_
      refine hg_istore5 (pc' := 36) cx rfl dX5_kind_34 rfl ?_
      refine hg_nm (fun μ hμ => ?_)
      refine hg_loop (α := hg_Mem × Int32 × Int32 × Nat) (I := fun z => z.2.2.2 ≤ 6 ∧ sp_Fr σ z.1 2 ∧ sp_scan sp_tt (sp_kindV (S.1 0).1 (S.1 0).2 a j) 0 (-1) z.2.2.2 = (z.2.1, z.2.2.1)) (P := fun z => hg_G E p l e { frames := 5, cells := 0, slots := 0, locals := 112 } s m args below meth c 6 (MQ below (hg_Qc E (hg_pi (fun r τ => cw_P σ (op_kind S (nI j) (nI a)) r τ))) args s 0 0 (hg_AW E)) z.1 36 [some (.ref (hg_ad E 0)), some (.int (nI j)), some (.int (nI a)), some (.int z.2.1), some (.int z.2.2.1), some (.int (nI z.2.2.2))] []) (fun z => 6 - z.2.2.2) ?_ (μ, 0, -1, 0) ?_
      rotate_left
      · subst hμ
        try dsimp only
        exact ⟨by omega, sp_Fr.rf _ _, rfl⟩
      clear hμ μ
      rintro ⟨τ, b, w, i⟩ hI ih_36
      try dsimp only at hI ih_36 ⊢
      obtain ⟨hcτ, hfτ⟩ := hc.fr2 hI.2.1
      obtain ⟨-, hnτ, k0, k1, k2, hagτ⟩ := hcτ.get
      refine hg_iload5 (pc' := 38) cx dX5_kind_36 rfl ?_
      refine hg_bipush (pc' := 40) cx (nI 6) dX5_kind_38 (by decide) rfl ?_
      refine hg_icmp_ge (pc' := 43) cx 116 dX5_kind_40 (by decide) rfl (fun c_40 => ?_) (fun c_40 => ?_)
      ·
        have hi := hg_ge (n := 6) (j := i) rfl (by omega) (by omega) c_40
        refine hg_iload3 (pc' := 117) cx dX5_kind_116 rfl ?_
        refine hg_iret cx dX5_kind_117 ⟨_, rfl, ?_⟩
        obtain rfl : i = 6 := by omega
        simp only [op_kind, sp_hz, c_8, c_18, hcl, hca, not_true_eq_false, or_self, if_false, hI.2.2]
        exact ⟨rfl, hcτ, hfτ⟩
      ·
        have hi := hg_nge (n := 6) (j := i) rfl (by omega) (by omega) c_40
        refine hg_aload0 (pc' := 44) cx dX5_kind_43 rfl ?_
        refine gf_X5_16 (pc' := 47) cx dX5_kind_44 rfl ?_
        refine hg_aload0 (pc' := 48) cx dX5_kind_47 rfl ?_
        refine gf_X5_10 (pc' := 51) cx dX5_kind_48 rfl ?_
        refine cv_X5_141 (pc' := 54) cx (by first | assumption | omega | decide) (by first | assumption | omega | decide) (K_X3_become l E _ 2 (by decide) (by decide) 1 (by decide) (by decide) (by decide) (S.1 0).2 hn10 hnτ) ⟨rfl, rfl, Nat.le_of_ble_eq_true rfl, Nat.le_of_ble_eq_true rfl⟩ (Nat.le_of_ble_eq_true rfl) dX5_kind_51 rfl (fun τ_51 h_51 => ?_)
        obtain ⟨hF1, h4, hA⟩ := h_51
        have hR2 := hcτ.1.bec h4 hA
        have hS := hR2.setH hjn (sp_Ag.up (fun k hk => hR2.2.2.2 j hjn k hk) 0 (rfl : nI i = nI i))
        refine hg_aload0 (pc' := 55) cx dX5_kind_54 rfl ?_
        refine gf_X5_16 (pc' := 58) cx dX5_kind_55 rfl ?_
        refine gf_X5_94 (pc' := 61) cx (by first | assumption | omega | decide) (by first | assumption | omega | decide) dX5_kind_58 rfl ?_
        refine hg_iload1 (pc' := 62) cx dX5_kind_61 rfl ?_
        refine hg_seat (t := 2) cx (by decide) (by decide) (by omega) dX5_kind_62 rfl ?_
        refine hg_iload5 (pc' := 65) cx dX5_kind_63 rfl ?_
        refine pf_X5_122 (pc' := 68) cx (by first | assumption | omega | decide) (by first | assumption | omega | decide) dX5_kind_65 rfl ?_
        refine hg_aload0 (pc' := 69) cx dX5_kind_68 rfl ?_
        refine gf_X5_16 (pc' := 72) cx dX5_kind_69 rfl ?_
        refine hg_iload2 (pc' := 73) cx dX5_kind_72 rfl ?_
        refine cv_X5_134 (pc' := 76) cx (by first | assumption | omega | decide) (by first | assumption | omega | decide) (K_X3_go l E _ 2 (by decide) (by decide) (S.1 0).2 hn10 ((hS.1.2.2.1 3 (by decide)).trans hS.1.2.1) a (by omega) _ hS.1) ⟨rfl, rfl, Nat.le_of_ble_eq_true rfl, Nat.le_of_ble_eq_true rfl⟩ (Nat.le_of_ble_eq_true rfl) dX5_kind_73 rfl (fun τ_73 h_73 => ?_)
        have hF9 : sp_Fr σ τ_73 2 := (hI.2.1.tr hF1).tr (hS.2.tr h_73.2)
        have hv : τ_73.1 (10 + 10 * 2 + j) 2 = sp_kindV (S.1 0).1 (S.1 0).2 a j i := h_73.1.2.2.2 j hjn 2 (by decide)
        refine hg_aload0 (pc' := 77) cx dX5_kind_76 rfl ?_
        refine gf_X5_16 (pc' := 80) cx dX5_kind_77 rfl ?_
        refine gf_X5_94 (pc' := 83) cx (by first | assumption | omega | decide) (by first | assumption | omega | decide) dX5_kind_80 rfl ?_
        refine hg_iload1 (pc' := 84) cx dX5_kind_83 rfl ?_
        refine hg_seat (t := 2) cx (by decide) (by decide) (by omega) dX5_kind_84 rfl ?_
        refine gf_X5_160 (pc' := 88) cx (by first | assumption | omega | decide) (by first | assumption | omega | decide) dX5_kind_85 rfl ?_
        refine hg_iload4 (pc' := 90) cx dX5_kind_88 rfl ?_
        refine hg_icmp_le (pc' := 93) cx 110 dX5_kind_90 (by decide) rfl (fun c_90 => ?_) (fun c_90 => ?_)
        ·
          refine hg_iinc5p (pc' := 113) cx rfl dX5_kind_110 rfl ?_
          refine hg_goto cx 36 dX5_kind_113 (by decide) ?_
          rw [nI_1]
          refine hg_nm (fun μ hμ => ?_)
          refine ih_36 (μ, _, _, _) ?_ ?_
          · subst hμ
            try dsimp only
            refine ⟨by omega, hF9, ?_⟩
            rw [hv] at c_90
            first
              | (rw [sp_scan_ge rfl (by rw [hI.2.2]; exact Int32.not_lt.mpr c_90)]; exact hI.2.2)
              | (rw [sp_scan_lt rfl (by rw [hI.2.2]; exact Int32.not_le.mp c_90)]; exact Prod.ext rfl hv.symm)
          · show 6 - (i + 1) < 6 - i
            omega
        ·
          refine hg_aload0 (pc' := 94) cx dX5_kind_93 rfl ?_
          refine gf_X5_16 (pc' := 97) cx dX5_kind_94 rfl ?_
          refine gf_X5_94 (pc' := 100) cx (by first | assumption | omega | decide) (by first | assumption | omega | decide) dX5_kind_97 rfl ?_
          refine hg_iload1 (pc' := 101) cx dX5_kind_100 rfl ?_
          refine hg_seat (t := 2) cx (by decide) (by decide) (by omega) dX5_kind_101 rfl ?_
          refine gf_X5_160 (pc' := 105) cx (by first | assumption | omega | decide) (by first | assumption | omega | decide) dX5_kind_102 rfl ?_
          refine hg_istore4 (pc' := 107) cx rfl dX5_kind_105 rfl ?_
          refine hg_iload5 (pc' := 109) cx dX5_kind_107 rfl ?_
          refine hg_istore3 (pc' := 110) cx rfl dX5_kind_109 rfl ?_
          refine hg_iinc5p (pc' := 113) cx rfl dX5_kind_110 rfl ?_
          refine hg_goto cx 36 dX5_kind_113 (by decide) ?_
          rw [nI_1]
          refine hg_nm (fun μ hμ => ?_)
          refine ih_36 (μ, _, _, _) ?_ ?_
          · subst hμ
            try dsimp only
            refine ⟨by omega, hF9, ?_⟩
            rw [hv] at c_90
            first
              | (rw [sp_scan_ge rfl (by rw [hI.2.2]; exact Int32.not_lt.mpr c_90)]; exact hI.2.2)
              | (rw [sp_scan_lt rfl (by rw [hI.2.2]; exact Int32.not_le.mp c_90)]; exact Prod.ext rfl hv.symm)
          · show 6 - (i + 1) < 6 - i
            omega
    ·
      refine hg_aload0 (pc' := 22) cx dX5_kind_21 rfl ?_
      refine hg_ldc (pc' := 24) cx kc_X5_44 dX5_kind_22 rfl ?_
      refine cv_X5_45 (pc' := 27) cx (K_X5_finding l E _ (-1000000001) 0 (by decide) (by decide)) ⟨rfl, rfl, Nat.le_of_ble_eq_true rfl, Nat.le_of_ble_eq_true rfl⟩ (Nat.le_of_ble_eq_true rfl) dX5_kind_24 rfl (fun r_24 τ_24 h_24 => ?_)
      obtain ⟨rfl, rfl⟩ := h_24
      refine hg_iret cx dX5_kind_27 ⟨_, rfl, ?_⟩
      simp only [op_kind, sp_hz, c_8, c_18, not_true_eq_false, not_false_eq_true, true_or, or_true, false_or, or_false, or_self, if_true, if_false, and_self]
      exact hc.find (by decide) (by decide)
set_option maxHeartbeats 4000000 in
set_option maxRecDepth 100000 in
theorem K_X5_view (l : Launch) (E : hg_Wd) (σ : hg_Mem) (S : sp_S) (hc : cw_C σ S) (x : Int32) (N : Int32) : hg_C l E yX5_view cX5_view 7 (some .int) { frames := 5, cells := 0, slots := 0, locals := 112 } [.ref (hg_ad E 0), .int x, .int N] σ (hg_pi (fun r τ => cw_P σ (op_view S x N) r τ)) := by
  refine hg_intro (by decide) [some (.ref (hg_ad E 0)), some (.int x), some (.int N), none, none, none, none] rfl (Nat.le_of_ble_eq_true rfl) ?_
  intro p e s m args below meth c cx
  have cx : hg_Cx E p s m args meth c cX5_view 7 RX5 (some .int) := cx
  obtain ⟨hn10, hn, g0, g1, g2, hag⟩ := hc.get
  refine hg_aload0 (pc' := 1) cx dX5_view_0 rfl ?_
  refine gf_X5_10 (pc' := 4) cx dX5_view_1 rfl ?_
  refine hg_iload1 (pc' := 5) cx dX5_view_4 rfl ?_
  refine cv_X5_90 (pc' := 8) cx (by first | assumption | omega | decide) (by first | assumption | omega | decide) (K_X3_has l E _ 1 (by decide) (by decide) (S.1 0).2 hn10 hn _) ⟨rfl, rfl, Nat.le_of_ble_eq_true rfl, Nat.le_of_ble_eq_true rfl⟩ (Nat.le_of_ble_eq_true rfl) dX5_view_5 rfl (fun r_5 τ_5 h_5 => ?_)
  obtain ⟨rfl, rfl⟩ := h_5
  refine hg_if_eq (pc' := 11) cx 21 dX5_view_8 (by decide) rfl (fun c_8 => ?_) (fun c_8 => ?_)
  ·
    refine hg_aload0 (pc' := 22) cx dX5_view_21 rfl ?_
    refine hg_ldc (pc' := 24) cx kc_X5_44 dX5_view_22 rfl ?_
    refine cv_X5_45 (pc' := 27) cx (K_X5_finding l E _ (-1000000001) 0 (by decide) (by decide)) ⟨rfl, rfl, Nat.le_of_ble_eq_true rfl, Nat.le_of_ble_eq_true rfl⟩ (Nat.le_of_ble_eq_true rfl) dX5_view_24 rfl (fun r_24 τ_24 h_24 => ?_)
    obtain ⟨rfl, rfl⟩ := h_24
    refine hg_iret cx dX5_view_27 ⟨_, rfl, ?_⟩
    simp only [op_view, sp_hz, c_8, not_true_eq_false, not_false_eq_true, true_or, or_true, false_or, or_false, or_self, if_true, if_false, and_self]
    exact hc.find (by decide) (by decide)
  ·
    refine hg_iload2 (pc' := 12) cx dX5_view_11 rfl ?_
    refine hg_iconst (pc' := 13) cx 1 dX5_view_12 (by decide) rfl ?_
    refine hg_bipush (pc' := 15) cx 32 dX5_view_13 (by decide) rfl ?_
    refine cs_X5_40 (pc' := 18) cx (K_X5_outside l E _ _ _ _) ⟨rfl, rfl, Nat.le_of_ble_eq_true rfl, Nat.le_of_ble_eq_true rfl⟩ (Nat.le_of_ble_eq_true rfl) dX5_view_15 rfl (fun r_15 τ_15 h_15 => ?_)
    obtain ⟨rfl, rfl⟩ := h_15
    refine hg_if_eq (pc' := 21) cx 28 dX5_view_18 (by decide) rfl (fun c_18 => ?_) (fun c_18 => ?_)
    ·
      obtain ⟨j, hjn, rfl⟩ := sp_hz_of hn10 c_8
      have hcl : (nI j).toNatClampNeg = j := nI_clamp (by omega)
      have hj := hag j hjn
      obtain ⟨a, ha1, ha2, rfl⟩ := sp_out_of 1 32 (by decide) (by decide) (by decide) (by decide) c_18
      have hca : (nI a).toNatClampNeg = a := nI_clamp (by omega)
      refine hg_iconst (pc' := 29) cx 0 dX5_view_28 (by decide) rfl ?_
      refine hg_istore3 (pc' := 30) cx rfl dX5_view_29 rfl ?_
      refine hg_iconst (pc' := 31) cx (-1) dX5_view_30 (by decide) rfl ?_
      refine hg_istore4 (pc' := 33) cx rfl dX5_view_31 rfl ?_
      refine hg_iconst (pc' := 34) cx (nI 0) dX5_view_33 (by decide) rfl ?_
      refine hg_istore5 (pc' := 36) cx rfl dX5_view_34 rfl ?_
      refine hg_drop6 ?_
      refine hg_nm (fun μ hμ => ?_)
      refine hg_loop (α := hg_Mem × Int32 × Int32 × Nat) (I := fun z => z.2.2.2 ≤ 256 ∧ sp_Fr σ z.1 2 ∧ sp_scan sp_tt (sp_viewV (S.1 0).1 (S.1 0).2 a j) 0 (-1) z.2.2.2 = (z.2.1, z.2.2.1)) (P := fun z => hg_G E p l e { frames := 5, cells := 0, slots := 0, locals := 112 } s m args below meth c 7 (MQ below (hg_Qc E (hg_pi (fun r τ => cw_P σ (op_view S (nI j) (nI a)) r τ))) args s 0 0 (hg_AW E)) z.1 36 [some (.ref (hg_ad E 0)), some (.int (nI j)), some (.int (nI a)), some (.int z.2.1), some (.int z.2.2.1), some (.int (nI z.2.2.2)), none] []) (fun z => 256 - z.2.2.2) ?_ (μ, 0, -1, 0) ?_
      rotate_left
      · subst hμ
        try dsimp only
        exact ⟨by omega, sp_Fr.rf _ _, rfl⟩
      clear hμ μ
      rintro ⟨τ, b, w, i⟩ hI ih_36
      try dsimp only at hI ih_36 ⊢
      obtain ⟨hcτ, hfτ⟩ := hc.fr2 hI.2.1
      obtain ⟨-, hnτ, k0, k1, k2, hagτ⟩ := hcτ.get
      refine hg_iload5 (pc' := 38) cx dX5_view_36 rfl ?_
      refine hg_sipush (pc' := 41) cx (nI 255) dX5_view_38 (by decide) rfl ?_
      refine hg_icmp_gt (pc' := 44) cx 109 dX5_view_41 (by decide) rfl (fun c_41 => ?_) (fun c_41 => ?_)
      ·
        have hi := hg_gt (a := 255) (b := i) (by omega) (by omega) c_41
        refine hg_iload3 (pc' := 110) cx dX5_view_109 rfl ?_
        refine hg_iret cx dX5_view_110 ⟨_, rfl, ?_⟩
        obtain rfl : i = 256 := by omega
        simp only [op_view, sp_hz, c_8, c_18, hcl, hca, not_true_eq_false, or_self, if_false, hI.2.2]
        exact ⟨rfl, hcτ, hfτ⟩
      ·
        have hi := hg_ngt (a := 255) (b := i) (by omega) (by omega) c_41
        refine hg_aload0 (pc' := 45) cx dX5_view_44 rfl ?_
        refine gf_X5_16 (pc' := 48) cx dX5_view_45 rfl ?_
        refine hg_aload0 (pc' := 49) cx dX5_view_48 rfl ?_
        refine gf_X5_10 (pc' := 52) cx dX5_view_49 rfl ?_
        refine cv_X5_141 (pc' := 55) cx (by first | assumption | omega | decide) (by first | assumption | omega | decide) (K_X3_become l E _ 2 (by decide) (by decide) 1 (by decide) (by decide) (by decide) (S.1 0).2 hn10 hnτ) ⟨rfl, rfl, Nat.le_of_ble_eq_true rfl, Nat.le_of_ble_eq_true rfl⟩ (Nat.le_of_ble_eq_true rfl) dX5_view_52 rfl (fun τ_52 h_52 => ?_)
        obtain ⟨hF1, h4, hA⟩ := h_52
        have hR2 := hcτ.1.bec h4 hA
        have hS := hR2.setH hjn (sp_Ag.up (fun k hk => hR2.2.2.2 j hjn k hk) 1 (rfl : nI i = nI i))
        refine hg_aload0 (pc' := 56) cx dX5_view_55 rfl ?_
        refine gf_X5_16 (pc' := 59) cx dX5_view_56 rfl ?_
        refine gf_X5_94 (pc' := 62) cx (by first | assumption | omega | decide) (by first | assumption | omega | decide) dX5_view_59 rfl ?_
        refine hg_iload1 (pc' := 63) cx dX5_view_62 rfl ?_
        refine hg_seat (t := 2) cx (by decide) (by decide) (by omega) dX5_view_63 rfl ?_
        refine hg_iload5 (pc' := 66) cx dX5_view_64 rfl ?_
        refine pf_X5_128 (pc' := 69) cx (by first | assumption | omega | decide) (by first | assumption | omega | decide) dX5_view_66 rfl ?_
        refine hg_aload0 (pc' := 70) cx dX5_view_69 rfl ?_
        refine gf_X5_16 (pc' := 73) cx dX5_view_70 rfl ?_
        refine hg_iload2 (pc' := 74) cx dX5_view_73 rfl ?_
        refine cv_X5_134 (pc' := 77) cx (by first | assumption | omega | decide) (by first | assumption | omega | decide) (K_X3_go l E _ 2 (by decide) (by decide) (S.1 0).2 hn10 ((hS.1.2.2.1 3 (by decide)).trans hS.1.2.1) a (by omega) _ hS.1) ⟨rfl, rfl, Nat.le_of_ble_eq_true rfl, Nat.le_of_ble_eq_true rfl⟩ (Nat.le_of_ble_eq_true rfl) dX5_view_74 rfl (fun τ_74 h_74 => ?_)
        have hF9 : sp_Fr σ τ_74 2 := (hI.2.1.tr hF1).tr (hS.2.tr h_74.2)
        refine hg_aload0 (pc' := 78) cx dX5_view_77 rfl ?_
        refine gf_X5_16 (pc' := 81) cx dX5_view_78 rfl ?_
        refine cv_X5_75 (pc' := 84) cx (by first | assumption | omega | decide) (by first | assumption | omega | decide) (K_X3_trueOnes l E _ _ (by first | assumption | omega | decide) (by first | assumption | omega | decide)) ⟨rfl, rfl, Nat.le_of_ble_eq_true rfl, Nat.le_of_ble_eq_true rfl⟩ (Nat.le_of_ble_eq_true rfl) dX5_view_81 rfl (fun r_81 τ_81 h_81 => ?_)
        obtain ⟨rfl, rfl⟩ := h_81
        rw [h_74.1.2.2.1 2 (by decide), h_74.1.2.2.1 1 (by decide)]
        refine cs_X5_155 (pc' := 87) cx (K_J6_bitCount_0f7a4 l E _ _) ⟨rfl, rfl, Nat.le_of_ble_eq_true rfl, Nat.le_of_ble_eq_true rfl⟩ (Nat.le_of_ble_eq_true rfl) dX5_view_84 rfl (fun r_84 τ_84 h_84 => ?_)
        obtain ⟨rfl, rfl⟩ := h_84
        refine hg_istore6 (pc' := 89) cx rfl dX5_view_87 rfl ?_
        refine hg_iload6 (pc' := 91) cx dX5_view_89 rfl ?_
        refine hg_iload4 (pc' := 93) cx dX5_view_91 rfl ?_
        refine hg_icmp_le (pc' := 96) cx 103 dX5_view_93 (by decide) rfl (fun c_93 => ?_) (fun c_93 => ?_)
        ·
          refine hg_iinc5p (pc' := 106) cx rfl dX5_view_103 rfl ?_
          refine hg_goto cx 36 dX5_view_106 (by decide) ?_
          refine hg_drop6 ?_
          rw [nI_1]
          refine hg_nm (fun μ hμ => ?_)
          refine ih_36 (μ, _, _, _) ?_ ?_
          · subst hμ
            try dsimp only
            refine ⟨by omega, hF9, ?_⟩
            first
              | (rw [sp_scan_ge rfl (by rw [hI.2.2]; exact Int32.not_lt.mpr c_93)]; exact hI.2.2)
              | (rw [sp_scan_lt rfl (by rw [hI.2.2]; exact Int32.not_le.mp c_93)]; rfl)
          · show 256 - (i + 1) < 256 - i
            omega
        ·
          refine hg_iload6 (pc' := 98) cx dX5_view_96 rfl ?_
          refine hg_istore4 (pc' := 100) cx rfl dX5_view_98 rfl ?_
          refine hg_iload5 (pc' := 102) cx dX5_view_100 rfl ?_
          refine hg_istore3 (pc' := 103) cx rfl dX5_view_102 rfl ?_
          refine hg_iinc5p (pc' := 106) cx rfl dX5_view_103 rfl ?_
          refine hg_goto cx 36 dX5_view_106 (by decide) ?_
          refine hg_drop6 ?_
          rw [nI_1]
          refine hg_nm (fun μ hμ => ?_)
          refine ih_36 (μ, _, _, _) ?_ ?_
          · subst hμ
            try dsimp only
            refine ⟨by omega, hF9, ?_⟩
            first
              | (rw [sp_scan_ge rfl (by rw [hI.2.2]; exact Int32.not_lt.mpr c_93)]; exact hI.2.2)
              | (rw [sp_scan_lt rfl (by rw [hI.2.2]; exact Int32.not_le.mp c_93)]; rfl)
          · show 256 - (i + 1) < 256 - i
            omega
    ·
      refine hg_aload0 (pc' := 22) cx dX5_view_21 rfl ?_
      refine hg_ldc (pc' := 24) cx kc_X5_44 dX5_view_22 rfl ?_
      refine cv_X5_45 (pc' := 27) cx (K_X5_finding l E _ (-1000000001) 0 (by decide) (by decide)) ⟨rfl, rfl, Nat.le_of_ble_eq_true rfl, Nat.le_of_ble_eq_true rfl⟩ (Nat.le_of_ble_eq_true rfl) dX5_view_24 rfl (fun r_24 τ_24 h_24 => ?_)
      obtain ⟨rfl, rfl⟩ := h_24
      refine hg_iret cx dX5_view_27 ⟨_, rfl, ?_⟩
      simp only [op_view, sp_hz, c_8, c_18, not_true_eq_false, not_false_eq_true, true_or, or_true, false_or, or_false, or_self, if_true, if_false, and_self]
      exact hc.find (by decide) (by decide)
set_option maxHeartbeats 4000000 in
set_option maxRecDepth 100000 in
theorem K_X5_faith (l : Launch) (E : hg_Wd) (σ : hg_Mem) (S : sp_S) (hc : cw_C σ S) (x : Int32) (N : Int32) (v : Int32) : hg_C l E yX5_faith cX5_faith 5 (some .int) { frames := 5, cells := 0, slots := 0, locals := 112 } [.ref (hg_ad E 0), .int x, .int N, .int v] σ (hg_pi (fun r τ => cw_P σ (op_faith S x N v) r τ)) := by
  refine hg_intro (by decide) [some (.ref (hg_ad E 0)), some (.int x), some (.int N), some (.int v), none] rfl (Nat.le_of_ble_eq_true rfl) ?_
  intro p e s m args below meth c cx
  have cx : hg_Cx E p s m args meth c cX5_faith 5 RX5 (some .int) := cx
  obtain ⟨hn10, hn, g0, g1, g2, hag⟩ := hc.get
  refine hg_aload0 (pc' := 1) cx dX5_faith_0 rfl ?_
  refine gf_X5_10 (pc' := 4) cx dX5_faith_1 rfl ?_
  refine hg_iload1 (pc' := 5) cx dX5_faith_4 rfl ?_
  refine cv_X5_90 (pc' := 8) cx (by first | assumption | omega | decide) (by first | assumption | omega | decide) (K_X3_has l E _ 1 (by decide) (by decide) (S.1 0).2 hn10 hn _) ⟨rfl, rfl, Nat.le_of_ble_eq_true rfl, Nat.le_of_ble_eq_true rfl⟩ (Nat.le_of_ble_eq_true rfl) dX5_faith_5 rfl (fun r_5 τ_5 h_5 => ?_)
  obtain ⟨rfl, rfl⟩ := h_5
  refine hg_if_eq (pc' := 11) cx 32 dX5_faith_8 (by decide) rfl (fun c_8 => ?_) (fun c_8 => ?_)
  ·
    refine hg_aload0 (pc' := 33) cx dX5_faith_32 rfl ?_
    refine hg_ldc (pc' := 35) cx kc_X5_44 dX5_faith_33 rfl ?_
    refine cv_X5_45 (pc' := 38) cx (K_X5_finding l E _ (-1000000001) 0 (by decide) (by decide)) ⟨rfl, rfl, Nat.le_of_ble_eq_true rfl, Nat.le_of_ble_eq_true rfl⟩ (Nat.le_of_ble_eq_true rfl) dX5_faith_35 rfl (fun r_35 τ_35 h_35 => ?_)
    obtain ⟨rfl, rfl⟩ := h_35
    refine hg_iret cx dX5_faith_38 ⟨_, rfl, ?_⟩
    simp only [op_faith, sp_hz, c_8, not_true_eq_false, not_false_eq_true, true_or, or_true, false_or, or_false, or_self, if_true, if_false, and_self]
    exact hc.find (by decide) (by decide)
  ·
    refine hg_iload2 (pc' := 12) cx dX5_faith_11 rfl ?_
    refine hg_iconst (pc' := 13) cx 1 dX5_faith_12 (by decide) rfl ?_
    refine hg_bipush (pc' := 15) cx 60 dX5_faith_13 (by decide) rfl ?_
    refine cs_X5_40 (pc' := 18) cx (K_X5_outside l E _ _ _ _) ⟨rfl, rfl, Nat.le_of_ble_eq_true rfl, Nat.le_of_ble_eq_true rfl⟩ (Nat.le_of_ble_eq_true rfl) dX5_faith_15 rfl (fun r_15 τ_15 h_15 => ?_)
    obtain ⟨rfl, rfl⟩ := h_15
    refine hg_if_ne (pc' := 21) cx 32 dX5_faith_18 (by decide) rfl (fun c_18 => ?_) (fun c_18 => ?_)
    ·
      refine hg_aload0 (pc' := 33) cx dX5_faith_32 rfl ?_
      refine hg_ldc (pc' := 35) cx kc_X5_44 dX5_faith_33 rfl ?_
      refine cv_X5_45 (pc' := 38) cx (K_X5_finding l E _ (-1000000001) 0 (by decide) (by decide)) ⟨rfl, rfl, Nat.le_of_ble_eq_true rfl, Nat.le_of_ble_eq_true rfl⟩ (Nat.le_of_ble_eq_true rfl) dX5_faith_35 rfl (fun r_35 τ_35 h_35 => ?_)
      obtain ⟨rfl, rfl⟩ := h_35
      refine hg_iret cx dX5_faith_38 ⟨_, rfl, ?_⟩
      simp only [op_faith, sp_hz, c_8, c_18, not_true_eq_false, not_false_eq_true, true_or, or_true, false_or, or_false, or_self, if_true, if_false, and_self]
      exact hc.find (by decide) (by decide)
    ·
      refine hg_iload3 (pc' := 22) cx dX5_faith_21 rfl ?_
      refine hg_iconst (pc' := 23) cx 0 dX5_faith_22 (by decide) rfl ?_
      refine hg_sipush (pc' := 26) cx 9999 dX5_faith_23 (by decide) rfl ?_
      refine cs_X5_40 (pc' := 29) cx (K_X5_outside l E _ _ _ _) ⟨rfl, rfl, Nat.le_of_ble_eq_true rfl, Nat.le_of_ble_eq_true rfl⟩ (Nat.le_of_ble_eq_true rfl) dX5_faith_26 rfl (fun r_26 τ_26 h_26 => ?_)
      obtain ⟨rfl, rfl⟩ := h_26
      refine hg_if_eq (pc' := 32) cx 39 dX5_faith_29 (by decide) rfl (fun c_29 => ?_) (fun c_29 => ?_)
      ·
        obtain ⟨j, hjn, rfl⟩ := sp_hz_of hn10 c_8
        have hcl : (nI j).toNatClampNeg = j := nI_clamp (by omega)
        have hj := hag j hjn
        obtain ⟨a, ha1, ha2, rfl⟩ := sp_out_of 1 60 (by decide) (by decide) (by decide) (by decide) c_18
        have hca : (nI a).toNatClampNeg = a := nI_clamp (by omega)
        refine hg_iconst (pc' := 40) cx (nI 0) dX5_faith_39 (by decide) rfl ?_
        refine hg_istore4 (pc' := 42) cx rfl dX5_faith_40 rfl ?_
        refine hg_nm (fun μ hμ => ?_)
        refine hg_loop (α := hg_Mem × Nat) (I := fun z => z.2 ≤ 100 ∧ sp_Fr σ z.1 2 ∧ sp_first (fun f => decide (¬ (sp_go (sp_hatF (S.1 0).1 j 4 (nI f)) (S.1 0).2 a).2 j 2 < v)) 100 0 = sp_first (fun f => decide (¬ (sp_go (sp_hatF (S.1 0).1 j 4 (nI f)) (S.1 0).2 a).2 j 2 < v)) (100 - z.2) z.2) (P := fun z => hg_G E p l e { frames := 5, cells := 0, slots := 0, locals := 112 } s m args below meth c 5 (MQ below (hg_Qc E (hg_pi (fun r τ => cw_P σ (op_faith S (nI j) (nI a) v) r τ))) args s 0 0 (hg_AW E)) z.1 42 [some (.ref (hg_ad E 0)), some (.int (nI j)), some (.int (nI a)), some (.int v), some (.int (nI z.2))] []) (fun z => 100 - z.2) ?_ (μ, 0) ?_
        rotate_left
        · subst hμ
          try dsimp only
          exact ⟨by omega, sp_Fr.rf _ _, rfl⟩
        clear hμ μ
        rintro ⟨τ, i⟩ hI ih_42
        try dsimp only at hI ih_42 ⊢
        obtain ⟨hcτ, hfτ⟩ := hc.fr2 hI.2.1
        obtain ⟨-, hnτ, k0, k1, k2, hagτ⟩ := hcτ.get
        refine hg_iload4 (pc' := 44) cx dX5_faith_42 rfl ?_
        refine hg_bipush (pc' := 46) cx (nI 99) dX5_faith_44 (by decide) rfl ?_
        refine hg_icmp_gt (pc' := 49) cx 107 dX5_faith_46 (by decide) rfl (fun c_46 => ?_) (fun c_46 => ?_)
        ·
          have hj := hg_gt (a := 99) (b := i) (by omega) (by omega) c_46
          refine hg_aload0 (pc' := 108) cx dX5_faith_107 rfl ?_
          refine hg_ldc (pc' := 110) cx kc_X5_148 dX5_faith_108 rfl ?_
          refine cv_X5_45 (pc' := 113) cx (K_X5_finding l E _ (-1000000004) 3 (by decide) (by decide)) ⟨rfl, rfl, Nat.le_of_ble_eq_true rfl, Nat.le_of_ble_eq_true rfl⟩ (Nat.le_of_ble_eq_true rfl) dX5_faith_110 rfl (fun r_110 τ_110 h_110 => ?_)
          obtain ⟨rfl, rfl⟩ := h_110
          refine hg_iret cx dX5_faith_113 ⟨_, rfl, ?_⟩
          simp only [op_faith, sp_hz, c_8, c_18, c_29, hcl, hca, not_true_eq_false, or_self, if_false]
          rw [hI.2.2, show 100 - i = 0 by omega]
          exact ⟨((hcτ.find (f := 3) (by decide) (by decide)).1), (hcτ.find (f := 3) (w := -1000000004) (by decide) (by decide)).2.1, hfτ.tr (hcτ.find (f := 3) (w := -1000000004) (by decide) (by decide)).2.2⟩
        ·
          have hj := hg_ngt (a := 99) (b := i) (by omega) (by omega) c_46
          refine hg_aload0 (pc' := 50) cx dX5_faith_49 rfl ?_
          refine gf_X5_16 (pc' := 53) cx dX5_faith_50 rfl ?_
          refine hg_aload0 (pc' := 54) cx dX5_faith_53 rfl ?_
          refine gf_X5_10 (pc' := 57) cx dX5_faith_54 rfl ?_
          refine cv_X5_141 (pc' := 60) cx (by first | assumption | omega | decide) (by first | assumption | omega | decide) (K_X3_become l E _ 2 (by decide) (by decide) 1 (by decide) (by decide) (by decide) (S.1 0).2 hn10 hnτ) ⟨rfl, rfl, Nat.le_of_ble_eq_true rfl, Nat.le_of_ble_eq_true rfl⟩ (Nat.le_of_ble_eq_true rfl) dX5_faith_57 rfl (fun τ_57 h_57 => ?_)
          obtain ⟨hF1, h4, hA⟩ := h_57
          have hR2 := hcτ.1.bec h4 hA
          have hS := hR2.setH hjn (sp_Ag.up (fun k hk => hR2.2.2.2 j hjn k hk) 4 (rfl : nI i = nI i))
          refine hg_aload0 (pc' := 61) cx dX5_faith_60 rfl ?_
          refine gf_X5_16 (pc' := 64) cx dX5_faith_61 rfl ?_
          refine gf_X5_94 (pc' := 67) cx (by first | assumption | omega | decide) (by first | assumption | omega | decide) dX5_faith_64 rfl ?_
          refine hg_iload1 (pc' := 68) cx dX5_faith_67 rfl ?_
          refine hg_seat (t := 2) cx (by decide) (by decide) (by omega) dX5_faith_68 rfl ?_
          refine hg_iload4 (pc' := 71) cx dX5_faith_69 rfl ?_
          refine pf_X5_163 (pc' := 74) cx (by first | assumption | omega | decide) (by first | assumption | omega | decide) dX5_faith_71 rfl ?_
          refine hg_aload0 (pc' := 75) cx dX5_faith_74 rfl ?_
          refine gf_X5_16 (pc' := 78) cx dX5_faith_75 rfl ?_
          refine hg_iload2 (pc' := 79) cx dX5_faith_78 rfl ?_
          refine cv_X5_134 (pc' := 82) cx (by first | assumption | omega | decide) (by first | assumption | omega | decide) (K_X3_go l E _ 2 (by decide) (by decide) (S.1 0).2 hn10 ((hS.1.2.2.1 3 (by decide)).trans hS.1.2.1) a (by omega) _ hS.1) ⟨rfl, rfl, Nat.le_of_ble_eq_true rfl, Nat.le_of_ble_eq_true rfl⟩ (Nat.le_of_ble_eq_true rfl) dX5_faith_79 rfl (fun τ_79 h_79 => ?_)
          have hF9 : sp_Fr σ τ_79 2 := (hI.2.1.tr hF1).tr (hS.2.tr h_79.2)
          have hv : τ_79.1 (10 + 10 * 2 + j) 2 = (sp_go (sp_hatF (S.1 0).1 j 4 (nI i)) (S.1 0).2 a).2 j 2 := h_79.1.2.2.2 j hjn 2 (by decide)
          refine hg_aload0 (pc' := 83) cx dX5_faith_82 rfl ?_
          refine gf_X5_16 (pc' := 86) cx dX5_faith_83 rfl ?_
          refine gf_X5_94 (pc' := 89) cx (by first | assumption | omega | decide) (by first | assumption | omega | decide) dX5_faith_86 rfl ?_
          refine hg_iload1 (pc' := 90) cx dX5_faith_89 rfl ?_
          refine hg_seat (t := 2) cx (by decide) (by decide) (by omega) dX5_faith_90 rfl ?_
          refine gf_X5_160 (pc' := 94) cx (by first | assumption | omega | decide) (by first | assumption | omega | decide) dX5_faith_91 rfl ?_
          refine hg_iload3 (pc' := 95) cx dX5_faith_94 rfl ?_
          refine hg_icmp_lt (pc' := 98) cx 101 dX5_faith_95 (by decide) rfl (fun c_95 => ?_) (fun c_95 => ?_)
          ·
            refine hg_iinc4p (pc' := 104) cx rfl dX5_faith_101 rfl ?_
            refine hg_goto cx 42 dX5_faith_104 (by decide) ?_
            rw [nI_1]
            refine hg_nm (fun μ hμ => ?_)
            refine ih_42 (μ, _) ?_ ?_
            · subst hμ
              try dsimp only
              rw [hv] at c_95
              refine ⟨by omega, hF9, ?_⟩
              rw [hI.2.2, show 100 - i = (100 - (i + 1)) + 1 by omega, sp_first_no (decide_eq_false (fun z => z c_95))]
            · show 100 - (i + 1) < 100 - i
              omega
          ·
            refine hg_iload4 (pc' := 100) cx dX5_faith_98 rfl ?_
            refine hg_iret cx dX5_faith_100 ⟨_, rfl, ?_⟩
            rw [hv] at c_95
            obtain ⟨q1, q2⟩ := hc.fr2 hF9
            simp only [op_faith, sp_hz, c_8, c_18, c_29, hcl, hca, not_true_eq_false, or_self, if_false]
            rw [hI.2.2, show 100 - i = (99 - i) + 1 by omega, sp_first_yes (decide_eq_true c_95)]
            exact ⟨rfl, q1, q2⟩
      ·
        refine hg_aload0 (pc' := 33) cx dX5_faith_32 rfl ?_
        refine hg_ldc (pc' := 35) cx kc_X5_44 dX5_faith_33 rfl ?_
        refine cv_X5_45 (pc' := 38) cx (K_X5_finding l E _ (-1000000001) 0 (by decide) (by decide)) ⟨rfl, rfl, Nat.le_of_ble_eq_true rfl, Nat.le_of_ble_eq_true rfl⟩ (Nat.le_of_ble_eq_true rfl) dX5_faith_35 rfl (fun r_35 τ_35 h_35 => ?_)
        obtain ⟨rfl, rfl⟩ := h_35
        refine hg_iret cx dX5_faith_38 ⟨_, rfl, ?_⟩
        simp only [op_faith, sp_hz, c_8, c_18, c_29, not_true_eq_false, not_false_eq_true, true_or, or_true, false_or, or_false, or_self, if_true, if_false, and_self]
        exact hc.find (by decide) (by decide)
set_option maxHeartbeats 4000000 in
set_option maxRecDepth 100000 in
theorem K_X5_revise (l : Launch) (E : hg_Wd) (σ : hg_Mem) (S : sp_S) (hc : cw_C σ S) (N : Int32) : hg_C l E yX5_revise cX5_revise 6 (some .int) { frames := 5, cells := 0, slots := 0, locals := 112 } [.ref (hg_ad E 0), .int N] σ (hg_pi (fun r τ => cw_P σ (op_revise S N) r τ)) := by
  refine hg_intro (by decide) [some (.ref (hg_ad E 0)), some (.int N), none, none, none, none] rfl (Nat.le_of_ble_eq_true rfl) ?_
  intro p e s m args below meth c cx
  have cx : hg_Cx E p s m args meth c cX5_revise 6 RX5 (some .int) := cx
  obtain ⟨hn10, hn, g0, g1, g2, hag⟩ := hc.get
  refine hg_iload1 (pc' := 1) cx dX5_revise_0 rfl ?_
  refine hg_iconst (pc' := 2) cx 1 dX5_revise_1 (by decide) rfl ?_
  refine hg_bipush (pc' := 4) cx 60 dX5_revise_2 (by decide) rfl ?_
  refine cs_X5_40 (pc' := 7) cx (K_X5_outside l E _ _ _ _) ⟨rfl, rfl, Nat.le_of_ble_eq_true rfl, Nat.le_of_ble_eq_true rfl⟩ (Nat.le_of_ble_eq_true rfl) dX5_revise_4 rfl (fun r_4 τ_4 h_4 => ?_)
  obtain ⟨rfl, rfl⟩ := h_4
  refine hg_if_eq (pc' := 10) cx 17 dX5_revise_7 (by decide) rfl (fun c_7 => ?_) (fun c_7 => ?_)
  ·
    obtain ⟨a, ha1, ha2, rfl⟩ := sp_out_of 1 60 (by decide) (by decide) (by decide) (by decide) c_7
    have hca : (nI a).toNatClampNeg = a := nI_clamp (by omega)
    refine hg_iconst (pc' := 18) cx 0 dX5_revise_17 (by decide) rfl ?_
    refine hg_istore2 (pc' := 19) cx rfl dX5_revise_18 rfl ?_
    refine hg_ldc (pc' := 21) cx kc_X5_169 dX5_revise_19 rfl ?_
    refine hg_istore3 (pc' := 22) cx rfl dX5_revise_21 rfl ?_
    refine hg_iconst (pc' := 23) cx (nI 0) dX5_revise_22 (by decide) rfl ?_
    refine hg_istore4 (pc' := 25) cx rfl dX5_revise_23 rfl ?_
    refine hg_drop5 ?_
    refine hg_nm (fun μ hμ => ?_)
    refine hg_loop (α := hg_Mem × Int32 × Int32 × Nat) (I := fun z => z.2.2.2 ≤ 8 ∧ sp_Fr σ z.1 2 ∧ sp_scanL (sp_revV (S.1 0).1 (S.1 0).2 a) 0 99991 z.2.2.2 = (z.2.1, z.2.2.1)) (P := fun z => hg_G E p l e { frames := 5, cells := 0, slots := 0, locals := 112 } s m args below meth c 6 (MQ below (hg_Qc E (hg_pi (fun r τ => cw_P σ (op_revise S (nI a)) r τ))) args s 0 0 (hg_AW E)) z.1 25 [some (.ref (hg_ad E 0)), some (.int (nI a)), some (.int z.2.1), some (.int z.2.2.1), some (.int (nI z.2.2.2)), none] []) (fun z => 8 - z.2.2.2) ?_ (μ, 0, 99991, 0) ?_
    rotate_left
    · subst hμ
      try dsimp only
      exact ⟨by omega, sp_Fr.rf _ _, rfl⟩
    clear hμ μ
    rintro ⟨τ, b, w, i⟩ hI ih_25
    try dsimp only at hI ih_25 ⊢
    obtain ⟨hcτ, hfτ⟩ := hc.fr2 hI.2.1
    obtain ⟨-, hnτ, k0, k1, k2, hagτ⟩ := hcτ.get
    refine hg_iload4 (pc' := 27) cx dX5_revise_25 rfl ?_
    refine hg_bipush (pc' := 29) cx (nI 8) dX5_revise_27 (by decide) rfl ?_
    refine hg_icmp_ge (pc' := 32) cx 95 dX5_revise_29 (by decide) rfl (fun c_29 => ?_) (fun c_29 => ?_)
    ·
      have hi := hg_ge (n := 8) (j := i) rfl (by omega) (by omega) c_29
      refine hg_iload2 (pc' := 96) cx dX5_revise_95 rfl ?_
      refine hg_iret cx dX5_revise_96 ⟨_, rfl, ?_⟩
      obtain rfl : i = 8 := by omega
      simp only [op_revise, c_7, hca, not_true_eq_false, if_false, hI.2.2]
      exact ⟨rfl, hcτ, hfτ⟩
    ·
      have hi := hg_nge (n := 8) (j := i) rfl (by omega) (by omega) c_29
      refine hg_aload0 (pc' := 33) cx dX5_revise_32 rfl ?_
      refine gf_X5_16 (pc' := 36) cx dX5_revise_33 rfl ?_
      refine hg_aload0 (pc' := 37) cx dX5_revise_36 rfl ?_
      refine gf_X5_10 (pc' := 40) cx dX5_revise_37 rfl ?_
      refine cv_X5_141 (pc' := 43) cx (by first | assumption | omega | decide) (by first | assumption | omega | decide) (K_X3_become l E _ 2 (by decide) (by decide) 1 (by decide) (by decide) (by decide) (S.1 0).2 hn10 hnτ) ⟨rfl, rfl, Nat.le_of_ble_eq_true rfl, Nat.le_of_ble_eq_true rfl⟩ (Nat.le_of_ble_eq_true rfl) dX5_revise_40 rfl (fun τ_40 h_40 => ?_)
      obtain ⟨hF1, h4, hA⟩ := h_40
      have hR2 := hcτ.1.bec h4 hA
      have hS := hR2.set (k := 1) (by decide) (τ_40.1 2 1 ^^^ ((1 : Int32) <<< (nI i &&& 31)))
      rw [hR2.2.2.1 1 (by decide)] at hS
      refine hg_aload0 (pc' := 44) cx dX5_revise_43 rfl ?_
      refine gf_X5_16 (pc' := 47) cx dX5_revise_44 rfl ?_
      refine hg_dup (pc' := 48) cx rfl dX5_revise_47 rfl ?_
      refine gf_X5_49 (pc' := 51) cx (by first | assumption | omega | decide) (by first | assumption | omega | decide) dX5_revise_48 rfl ?_
      refine hg_iconst (pc' := 52) cx 1 dX5_revise_51 (by decide) rfl ?_
      refine hg_iload4 (pc' := 54) cx dX5_revise_52 rfl ?_
      refine hg_ishl (pc' := 55) cx dX5_revise_54 rfl ?_
      refine hg_ixor (pc' := 56) cx dX5_revise_55 rfl ?_
      rw [hR2.2.2.1 1 (by decide)]
      refine pf_X5_49 (pc' := 59) cx (by first | assumption | omega | decide) (by first | assumption | omega | decide) dX5_revise_56 rfl ?_
      refine hg_aload0 (pc' := 60) cx dX5_revise_59 rfl ?_
      refine gf_X5_16 (pc' := 63) cx dX5_revise_60 rfl ?_
      refine hg_iload1 (pc' := 64) cx dX5_revise_63 rfl ?_
      refine cv_X5_134 (pc' := 67) cx (by first | assumption | omega | decide) (by first | assumption | omega | decide) (K_X3_go l E _ 2 (by decide) (by decide) (S.1 0).2 hn10 ((hS.1.2.2.1 3 (by decide)).trans hS.1.2.1) a (by omega) _ hS.1) ⟨rfl, rfl, Nat.le_of_ble_eq_true rfl, Nat.le_of_ble_eq_true rfl⟩ (Nat.le_of_ble_eq_true rfl) dX5_revise_64 rfl (fun τ_64 h_64 => ?_)
      have hF9 : sp_Fr σ τ_64 2 := (hI.2.1.tr hF1).tr (hS.2.tr h_64.2)
      have hv : sp_sum (fun h => τ_64.1 (10 + 10 * 2 + h)) 3 (S.1 0).2 = sp_revV (S.1 0).1 (S.1 0).2 a i := sp_sum_ag 3 _ (fun h hh k hk => h_64.1.2.2.2 h hh k hk)
      refine hg_aload0 (pc' := 68) cx dX5_revise_67 rfl ?_
      refine gf_X5_16 (pc' := 71) cx dX5_revise_68 rfl ?_
      refine hg_iconst (pc' := 72) cx 3 dX5_revise_71 (by decide) rfl ?_
      refine cv_X5_170 (pc' := 75) cx (by first | assumption | omega | decide) (by first | assumption | omega | decide) (K_X3_sum l E _ 2 (by decide) (by decide) (S.1 0).2 hn10 ((h_64.1.2.2.1 3 (by decide)).trans h_64.1.2.1) _) ⟨rfl, rfl, Nat.le_of_ble_eq_true rfl, Nat.le_of_ble_eq_true rfl⟩ (Nat.le_of_ble_eq_true rfl) dX5_revise_72 rfl (fun r_72 τ_72 h_72 => ?_)
      obtain ⟨rfl, rfl⟩ := h_72
      refine hg_istore5 (pc' := 77) cx rfl dX5_revise_75 rfl ?_
      refine hg_iload5 (pc' := 79) cx dX5_revise_77 rfl ?_
      refine hg_iload3 (pc' := 80) cx dX5_revise_79 rfl ?_
      refine hg_icmp_ge (pc' := 83) cx 89 dX5_revise_80 (by decide) rfl (fun c_80 => ?_) (fun c_80 => ?_)
      ·
        refine hg_iinc4p (pc' := 92) cx rfl dX5_revise_89 rfl ?_
        refine hg_goto cx 25 dX5_revise_92 (by decide) ?_
        refine hg_drop5 ?_
        rw [nI_1]
        refine hg_nm (fun μ hμ => ?_)
        refine ih_25 (μ, _, _, _) ?_ ?_
        · subst hμ
          try dsimp only
          rw [hv] at c_80
          refine ⟨by omega, hF9, ?_⟩
          rw [sp_scanL, hI.2.2]
          first
            | rw [if_neg (Int32.not_lt.mpr c_80)]
            | (rw [if_pos (Int32.not_le.mp c_80)]; exact Prod.ext rfl hv.symm)
        · show 8 - (i + 1) < 8 - i
          omega
      ·
        refine hg_iload5 (pc' := 85) cx dX5_revise_83 rfl ?_
        refine hg_istore3 (pc' := 86) cx rfl dX5_revise_85 rfl ?_
        refine hg_iload4 (pc' := 88) cx dX5_revise_86 rfl ?_
        refine hg_istore2 (pc' := 89) cx rfl dX5_revise_88 rfl ?_
        refine hg_iinc4p (pc' := 92) cx rfl dX5_revise_89 rfl ?_
        refine hg_goto cx 25 dX5_revise_92 (by decide) ?_
        refine hg_drop5 ?_
        rw [nI_1]
        refine hg_nm (fun μ hμ => ?_)
        refine ih_25 (μ, _, _, _) ?_ ?_
        · subst hμ
          try dsimp only
          rw [hv] at c_80
          refine ⟨by omega, hF9, ?_⟩
          rw [sp_scanL, hI.2.2]
          first
            | rw [if_neg (Int32.not_lt.mpr c_80)]
            | (rw [if_pos (Int32.not_le.mp c_80)]; exact Prod.ext rfl hv.symm)
        · show 8 - (i + 1) < 8 - i
          omega
  ·
    refine hg_aload0 (pc' := 11) cx dX5_revise_10 rfl ?_
    refine hg_ldc (pc' := 13) cx kc_X5_44 dX5_revise_11 rfl ?_
    refine cv_X5_45 (pc' := 16) cx (K_X5_finding l E _ (-1000000001) 0 (by decide) (by decide)) ⟨rfl, rfl, Nat.le_of_ble_eq_true rfl, Nat.le_of_ble_eq_true rfl⟩ (Nat.le_of_ble_eq_true rfl) dX5_revise_13 rfl (fun r_13 τ_13 h_13 => ?_)
    obtain ⟨rfl, rfl⟩ := h_13
    refine hg_iret cx dX5_revise_16 ⟨_, rfl, ?_⟩
    simp only [op_revise, c_7, not_true_eq_false, not_false_eq_true, true_or, or_true, false_or, or_false, or_self, if_true, if_false, and_self]
    exact hc.find (by decide) (by decide)
set_option maxHeartbeats 4000000 in
set_option maxRecDepth 100000 in
theorem K_X5_best (l : Launch) (E : hg_Wd) (σ : hg_Mem) (S : sp_S) (hc : cw_C σ S) (N : Int32) : hg_C l E yX5_best cX5_best 4 (some .int) { frames := 6, cells := 0, slots := 0, locals := 133 } [.ref (hg_ad E 0), .int N] σ (hg_pi (fun r τ => cw_P σ (op_best S N) r τ)) := by
  refine hg_intro (by decide) [some (.ref (hg_ad E 0)), some (.int N), none, none] rfl (Nat.le_of_ble_eq_true rfl) ?_
  intro p e s m args below meth c cx
  have cx : hg_Cx E p s m args meth c cX5_best 4 RX5 (some .int) := cx
  obtain ⟨hn10, hn, g0, g1, g2, hag⟩ := hc.get
  refine hg_iload1 (pc' := 1) cx dX5_best_0 rfl ?_
  refine hg_iconst (pc' := 2) cx 0 dX5_best_1 (by decide) rfl ?_
  refine hg_sipush (pc' := 5) cx 200 dX5_best_2 (by decide) rfl ?_
  refine cs_X5_40 (pc' := 8) cx (K_X5_outside l E _ _ _ _) ⟨rfl, rfl, Nat.le_of_ble_eq_true rfl, Nat.le_of_ble_eq_true rfl⟩ (Nat.le_of_ble_eq_true rfl) dX5_best_5 rfl (fun r_5 τ_5 h_5 => ?_)
  obtain ⟨rfl, rfl⟩ := h_5
  refine hg_if_eq (pc' := 11) cx 18 dX5_best_8 (by decide) rfl (fun c_8 => ?_) (fun c_8 => ?_)
  ·
    obtain ⟨a, ha1, ha2, rfl⟩ := sp_out_of 0 200 (by decide) (by decide) (by decide) (by decide) c_8
    have hca : (nI a).toNatClampNeg = a := nI_clamp (by omega)
    refine hg_aload0 (pc' := 19) cx dX5_best_18 rfl ?_
    refine gf_X5_10 (pc' := 22) cx dX5_best_19 rfl ?_
    refine gf_X5_87 (pc' := 25) cx (by first | assumption | omega | decide) (by first | assumption | omega | decide) dX5_best_22 rfl ?_
    refine hg_if_ne (pc' := 28) cx 35 dX5_best_25 (by decide) rfl (fun c_25 => ?_) (fun c_25 => ?_)
    ·
      have hpos : 0 < (S.1 0).2 := by
        rcases Nat.eq_zero_or_pos (S.1 0).2 with q | q
        · rw [hn, q] at c_25; exact absurd rfl c_25
        · exact q
      refine hg_aload0 (pc' := 36) cx dX5_best_35 rfl ?_
      refine hg_iload1 (pc' := 37) cx dX5_best_36 rfl ?_
      refine cv_X5_138 (pc' := 40) cx (K_X5_lookAhead l E _ (S.1 0).1 (S.1 0).2 hc.1 a (by omega)) ⟨rfl, rfl, Nat.le_of_ble_eq_true rfl, Nat.le_of_ble_eq_true rfl⟩ (Nat.le_of_ble_eq_true rfl) dX5_best_37 rfl (fun τ_37 h_37 => ?_)
      obtain ⟨hcτ, hfτ⟩ := hc.fr2 h_37.2
      have hn2 : τ_37.1 2 3 = nI (S.1 0).2 := (h_37.1.2.2.1 3 (by decide)).trans h_37.1.2.1
      refine hg_iconst (pc' := 41) cx (nI 0) dX5_best_40 (by decide) rfl ?_
      refine hg_istore2 (pc' := 42) cx rfl dX5_best_41 rfl ?_
      refine hg_iconst (pc' := 43) cx (nI 1) dX5_best_42 (by decide) rfl ?_
      refine hg_istore3 (pc' := 44) cx rfl dX5_best_43 rfl ?_
      refine hg_loop (α := Nat) (I := fun z => z < (S.1 0).2) (P := fun z => hg_G E p l e { frames := 6, cells := 0, slots := 0, locals := 133 } s m args below meth c 4 (MQ below (hg_Qc E (hg_pi (fun r τ => cw_P σ (op_best S (nI a)) r τ))) args s 0 0 (hg_AW E)) τ_37 44 [some (.ref (hg_ad E 0)), some (.int (nI a)), some (.int (nI (sp_bestI (sp_cred (sp_go (S.1 0).1 (S.1 0).2 a)) (z + 1)))), some (.int (nI (z + 1)))] []) (fun z => (S.1 0).2 - z) ?_ (0) ?_
      rotate_left
      · try dsimp only
        exact hpos
      rintro i hI ih_44
      try dsimp only at hI ih_44 ⊢
      refine hg_iload3 (pc' := 45) cx dX5_best_44 rfl ?_
      refine hg_aload0 (pc' := 46) cx dX5_best_45 rfl ?_
      refine gf_X5_16 (pc' := 49) cx dX5_best_46 rfl ?_
      refine gf_X5_87 (pc' := 52) cx (by first | assumption | omega | decide) (by first | assumption | omega | decide) dX5_best_49 rfl ?_
      refine hg_icmp_ge (pc' := 55) cx 90 dX5_best_52 (by decide) rfl (fun c_52 => ?_) (fun c_52 => ?_)
      ·
        have hj := hg_ge hn2 (by omega) (by omega) c_52
        refine hg_iload2 (pc' := 91) cx dX5_best_90 rfl ?_
        refine hg_iret cx dX5_best_91 ⟨_, rfl, ?_⟩
        simp only [op_best, c_8, hca, not_true_eq_false, if_false, if_neg (Nat.pos_iff_ne_zero.mp hpos)]
        exact ⟨by rw [show i + 1 = (S.1 0).2 by omega], hcτ, hfτ⟩
      ·
        have hj := hg_nge hn2 (by omega) (by omega) c_52
        have hb := sp_bestI_lt (sp_cred (sp_go (S.1 0).1 (S.1 0).2 a)) (i + 1) (by omega)
        refine hg_aload0 (pc' := 56) cx dX5_best_55 rfl ?_
        refine gf_X5_16 (pc' := 59) cx dX5_best_56 rfl ?_
        refine gf_X5_94 (pc' := 62) cx (by first | assumption | omega | decide) (by first | assumption | omega | decide) dX5_best_59 rfl ?_
        refine hg_iload3 (pc' := 63) cx dX5_best_62 rfl ?_
        refine hg_seat (t := 2) cx (by decide) (by decide) (by omega) dX5_best_63 rfl ?_
        refine cv_X5_173 (pc' := 67) cx (by first | assumption | omega | decide) (by first | assumption | omega | decide) (K_X1_credit l E _ _ (by first | assumption | omega | decide) (by first | assumption | omega | decide)) ⟨rfl, rfl, Nat.le_of_ble_eq_true rfl, Nat.le_of_ble_eq_true rfl⟩ (Nat.le_of_ble_eq_true rfl) dX5_best_64 rfl (fun r_64 τ_64 h_64 => ?_)
        obtain ⟨rfl, rfl⟩ := h_64
        refine hg_aload0 (pc' := 68) cx dX5_best_67 rfl ?_
        refine gf_X5_16 (pc' := 71) cx dX5_best_68 rfl ?_
        refine gf_X5_94 (pc' := 74) cx (by first | assumption | omega | decide) (by first | assumption | omega | decide) dX5_best_71 rfl ?_
        refine hg_iload2 (pc' := 75) cx dX5_best_74 rfl ?_
        refine hg_seat (t := 2) cx (by decide) (by decide) (by omega) dX5_best_75 rfl ?_
        refine cv_X5_173 (pc' := 79) cx (by first | assumption | omega | decide) (by first | assumption | omega | decide) (K_X1_credit l E _ _ (by first | assumption | omega | decide) (by first | assumption | omega | decide)) ⟨rfl, rfl, Nat.le_of_ble_eq_true rfl, Nat.le_of_ble_eq_true rfl⟩ (Nat.le_of_ble_eq_true rfl) dX5_best_76 rfl (fun r_76 τ_76 h_76 => ?_)
        obtain ⟨rfl, rfl⟩ := h_76
        refine hg_icmp_le (pc' := 82) cx 84 dX5_best_79 (by decide) rfl (fun c_79 => ?_) (fun c_79 => ?_)
        ·
          refine hg_iinc3p (pc' := 87) cx rfl dX5_best_84 rfl ?_
          refine hg_goto cx 44 dX5_best_87 (by decide) ?_
          have e1 : τ_37.1 (10 + 10 * 2 + (i + 1)) 2 - τ_37.1 (10 + 10 * 2 + (i + 1)) 3 = sp_cred (sp_go (S.1 0).1 (S.1 0).2 a) (i + 1) := by rw [h_37.1.2.2.2 _ hj 2 (by decide), h_37.1.2.2.2 _ hj 3 (by decide)]; rfl
          have e2 : τ_37.1 (10 + 10 * 2 + (sp_bestI (sp_cred (sp_go (S.1 0).1 (S.1 0).2 a)) (i + 1))) 2 - τ_37.1 (10 + 10 * 2 + (sp_bestI (sp_cred (sp_go (S.1 0).1 (S.1 0).2 a)) (i + 1))) 3 = sp_cred (sp_go (S.1 0).1 (S.1 0).2 a) (sp_bestI (sp_cred (sp_go (S.1 0).1 (S.1 0).2 a)) (i + 1)) := by rw [h_37.1.2.2.2 _ (Nat.lt_of_lt_of_le hb (by omega)) 2 (by decide), h_37.1.2.2.2 _ (Nat.lt_of_lt_of_le hb (by omega)) 3 (by decide)]; rfl
          rw [e1, e2] at c_79
          rw [nI_1]
          first
            | rw [show nI (sp_bestI (sp_cred (sp_go (S.1 0).1 (S.1 0).2 a)) (i + 1)) = nI (sp_bestI (sp_cred (sp_go (S.1 0).1 (S.1 0).2 a)) (i + 1 + 1)) from by rw [sp_bestI.eq_2 _ (i + 1), if_neg (by omega), if_neg (Int32.not_lt.mpr c_79)]]
            | rw [show some (Value.int (nI (i + 1))) = some (Value.int (nI (sp_bestI (sp_cred (sp_go (S.1 0).1 (S.1 0).2 a)) (i + 1 + 1)))) from by rw [sp_bestI.eq_2 _ (i + 1), if_neg (by omega), if_pos (Int32.not_le.mp c_79)]]
          refine ih_44 (i + 1) ?_ ?_
          · try dsimp only
            exact hj
          · show (S.1 0).2 - (i + 1) < (S.1 0).2 - i
            omega
        ·
          refine hg_iload3 (pc' := 83) cx dX5_best_82 rfl ?_
          refine hg_istore2 (pc' := 84) cx rfl dX5_best_83 rfl ?_
          refine hg_iinc3p (pc' := 87) cx rfl dX5_best_84 rfl ?_
          refine hg_goto cx 44 dX5_best_87 (by decide) ?_
          have e1 : τ_37.1 (10 + 10 * 2 + (i + 1)) 2 - τ_37.1 (10 + 10 * 2 + (i + 1)) 3 = sp_cred (sp_go (S.1 0).1 (S.1 0).2 a) (i + 1) := by rw [h_37.1.2.2.2 _ hj 2 (by decide), h_37.1.2.2.2 _ hj 3 (by decide)]; rfl
          have e2 : τ_37.1 (10 + 10 * 2 + (sp_bestI (sp_cred (sp_go (S.1 0).1 (S.1 0).2 a)) (i + 1))) 2 - τ_37.1 (10 + 10 * 2 + (sp_bestI (sp_cred (sp_go (S.1 0).1 (S.1 0).2 a)) (i + 1))) 3 = sp_cred (sp_go (S.1 0).1 (S.1 0).2 a) (sp_bestI (sp_cred (sp_go (S.1 0).1 (S.1 0).2 a)) (i + 1)) := by rw [h_37.1.2.2.2 _ (Nat.lt_of_lt_of_le hb (by omega)) 2 (by decide), h_37.1.2.2.2 _ (Nat.lt_of_lt_of_le hb (by omega)) 3 (by decide)]; rfl
          rw [e1, e2] at c_79
          rw [nI_1]
          first
            | rw [show nI (sp_bestI (sp_cred (sp_go (S.1 0).1 (S.1 0).2 a)) (i + 1)) = nI (sp_bestI (sp_cred (sp_go (S.1 0).1 (S.1 0).2 a)) (i + 1 + 1)) from by rw [sp_bestI.eq_2 _ (i + 1), if_neg (by omega), if_neg (Int32.not_lt.mpr c_79)]]
            | rw [show some (Value.int (nI (i + 1))) = some (Value.int (nI (sp_bestI (sp_cred (sp_go (S.1 0).1 (S.1 0).2 a)) (i + 1 + 1)))) from by rw [sp_bestI.eq_2 _ (i + 1), if_neg (by omega), if_pos (Int32.not_le.mp c_79)]]
          refine ih_44 (i + 1) ?_ ?_
          · try dsimp only
            exact hj
          · show (S.1 0).2 - (i + 1) < (S.1 0).2 - i
            omega
    ·
      refine hg_aload0 (pc' := 29) cx dX5_best_28 rfl ?_
      refine hg_ldc (pc' := 31) cx kc_X5_148 dX5_best_29 rfl ?_
      refine cv_X5_45 (pc' := 34) cx (K_X5_finding l E _ (-1000000004) 3 (by decide) (by decide)) ⟨rfl, rfl, Nat.le_of_ble_eq_true rfl, Nat.le_of_ble_eq_true rfl⟩ (Nat.le_of_ble_eq_true rfl) dX5_best_31 rfl (fun r_31 τ_31 h_31 => ?_)
      obtain ⟨rfl, rfl⟩ := h_31
      refine hg_iret cx dX5_best_34 ⟨_, rfl, ?_⟩
      have hz0 : (S.1 0).2 = 0 := by
        rcases Nat.eq_zero_or_pos (S.1 0).2 with q | q
        · exact q
        · exact absurd (hn ▸ c_25) (nI_ne0 q (by omega))
      simp only [op_best, c_8, not_true_eq_false, if_false, hz0, if_true]
      exact hc.find (by decide) (by decide)
  ·
    refine hg_aload0 (pc' := 12) cx dX5_best_11 rfl ?_
    refine hg_ldc (pc' := 14) cx kc_X5_44 dX5_best_12 rfl ?_
    refine cv_X5_45 (pc' := 17) cx (K_X5_finding l E _ (-1000000001) 0 (by decide) (by decide)) ⟨rfl, rfl, Nat.le_of_ble_eq_true rfl, Nat.le_of_ble_eq_true rfl⟩ (Nat.le_of_ble_eq_true rfl) dX5_best_14 rfl (fun r_14 τ_14 h_14 => ?_)
    obtain ⟨rfl, rfl⟩ := h_14
    refine hg_iret cx dX5_best_17 ⟨_, rfl, ?_⟩
    simp only [op_best, c_8, not_true_eq_false, not_false_eq_true, true_or, or_true, false_or, or_false, or_self, if_true, if_false, and_self]
    exact hc.find (by decide) (by decide)
