set_option maxHeartbeats 4000000 in
set_option maxRecDepth 100000 in
theorem K_X5_finding (l : Launch) (E : hg_Wd) (σ : hg_Mem) (w : Int32) (f : Nat) (hf : f < 7) (hw : (-1000000001 : Int32) - w = nI f) : hg_C l E yX5_finding cX5_finding 3 (some .int) { frames := 1, cells := 0, slots := 0, locals := 22 } [.ref (hg_ad E 0), .int w] σ (hg_pi (fun r τ => r = w ∧ hg_sI σ 11 f (σ.1 11 f + 1) = τ)) := by
  refine hg_intro (by decide) [some (.ref (hg_ad E 0)), some (.int w), none] rfl (Nat.le_of_ble_eq_true rfl) ?_
  intro p e s m args below meth c cx
  have cx : hg_Cx E p s m args meth c cX5_finding 3 RX5 (some .int) := cx
  refine hg_ldc (pc' := 2) cx kc_X5_44 dX5_finding_0 rfl ?_
  refine hg_iload1 (pc' := 3) cx dX5_finding_2 rfl ?_
  refine hg_isub (pc' := 4) cx dX5_finding_3 rfl ?_
  rw [hw]
  refine hg_istore2 (pc' := 5) cx rfl dX5_finding_4 rfl ?_
  refine hg_iload2 (pc' := 6) cx dX5_finding_5 rfl ?_
  refine hg_iconst (pc' := 7) cx 0 dX5_finding_6 (by decide) rfl ?_
  refine hg_bipush (pc' := 9) cx 6 dX5_finding_7 (by decide) rfl ?_
  refine cs_X5_40 (pc' := 12) cx (K_X5_outside l E _ _ _ _) ⟨rfl, rfl, Nat.le_of_ble_eq_true rfl, Nat.le_of_ble_eq_true rfl⟩ (Nat.le_of_ble_eq_true rfl) dX5_finding_9 rfl (fun r_9 τ_9 h_9 => ?_)
  obtain ⟨rfl, rfl⟩ := h_9
  refine hg_if_ne (pc' := 15) cx 25 dX5_finding_12 (by decide) rfl (fun c_12 => ?_) (fun c_12 => ?_)
  ·
    exact absurd (if_neg (fun z => z.elim (fun z => nI_pos (by omega) z) (fun z => nI_nlt (a := 6) (b := f) (by omega) (by omega) z))) c_12
  ·
    refine hg_aload0 (pc' := 16) cx dX5_finding_15 rfl ?_
    refine gf_X5_35 (pc' := 19) cx dX5_finding_16 rfl ?_
    refine hg_iload2 (pc' := 20) cx dX5_finding_19 rfl ?_
    refine hg_dup2 (pc' := 21) cx rfl rfl dX5_finding_20 rfl ?_
    refine hg_iald2 (pc' := 22) cx (by decide) (hg_ceI11 E) hf (by decide) dX5_finding_21 rfl ?_
    refine hg_iconst (pc' := 23) cx 1 dX5_finding_22 (by decide) rfl ?_
    refine hg_iadd (pc' := 24) cx dX5_finding_23 rfl ?_
    refine hg_iast2 (pc' := 25) cx (by decide) (hg_ceI11 E) hf (by decide) dX5_finding_24 rfl ?_
    refine hg_iload1 (pc' := 26) cx dX5_finding_25 rfl ?_
    refine hg_iret cx dX5_finding_26 ⟨_, rfl, ?_⟩
    exact ⟨rfl, rfl⟩
set_option maxHeartbeats 4000000 in
set_option maxRecDepth 100000 in
theorem K_X5_holds (l : Launch) (E : hg_Wd) (σ : hg_Mem) (S : sp_S) (hc : cw_C σ S) (w : Int32) (v : Int32) : hg_C l E yX5_holds cX5_holds 4 (some .int) { frames := 2, cells := 0, slots := 0, locals := 44 } [.ref (hg_ad E 0), .int w, .int v] σ (hg_pi (fun r τ => cw_P σ (op_holds S w v) r τ)) := by
  refine hg_intro (by decide) [some (.ref (hg_ad E 0)), some (.int w), some (.int v), none] rfl (Nat.le_of_ble_eq_true rfl) ?_
  intro p e s m args below meth c cx
  have cx : hg_Cx E p s m args meth c cX5_holds 4 RX5 (some .int) := cx
  obtain ⟨hn10, hn, g0, g1, g2, hag⟩ := hc.get
  refine hg_iload1 (pc' := 1) cx dX5_holds_0 rfl ?_
  refine hg_iconst (pc' := 2) cx 0 dX5_holds_1 (by decide) rfl ?_
  refine hg_iconst (pc' := 3) cx 1 dX5_holds_2 (by decide) rfl ?_
  refine cs_X5_40 (pc' := 6) cx (K_X5_outside l E _ _ _ _) ⟨rfl, rfl, Nat.le_of_ble_eq_true rfl, Nat.le_of_ble_eq_true rfl⟩ (Nat.le_of_ble_eq_true rfl) dX5_holds_3 rfl (fun r_3 τ_3 h_3 => ?_)
  obtain ⟨rfl, rfl⟩ := h_3
  refine hg_if_ne (pc' := 9) cx 20 dX5_holds_6 (by decide) rfl (fun c_6 => ?_) (fun c_6 => ?_)
  ·
    refine hg_aload0 (pc' := 21) cx dX5_holds_20 rfl ?_
    refine hg_ldc (pc' := 23) cx kc_X5_44 dX5_holds_21 rfl ?_
    refine cv_X5_45 (pc' := 26) cx (K_X5_finding l E _ (-1000000001) 0 (by decide) (by decide)) ⟨rfl, rfl, Nat.le_of_ble_eq_true rfl, Nat.le_of_ble_eq_true rfl⟩ (Nat.le_of_ble_eq_true rfl) dX5_holds_23 rfl (fun r_23 τ_23 h_23 => ?_)
    obtain ⟨rfl, rfl⟩ := h_23
    refine hg_iret cx dX5_holds_26 ⟨_, rfl, ?_⟩
    simp only [op_holds, c_6, not_true_eq_false, not_false_eq_true, true_or, or_true, false_or, or_false, or_self, if_true, if_false, and_self]
    exact hc.find (by decide) (by decide)
  ·
    refine hg_iload2 (pc' := 10) cx dX5_holds_9 rfl ?_
    refine hg_iconst (pc' := 11) cx 0 dX5_holds_10 (by decide) rfl ?_
    refine hg_sipush (pc' := 14) cx 255 dX5_holds_11 (by decide) rfl ?_
    refine cs_X5_40 (pc' := 17) cx (K_X5_outside l E _ _ _ _) ⟨rfl, rfl, Nat.le_of_ble_eq_true rfl, Nat.le_of_ble_eq_true rfl⟩ (Nat.le_of_ble_eq_true rfl) dX5_holds_14 rfl (fun r_14 τ_14 h_14 => ?_)
    obtain ⟨rfl, rfl⟩ := h_14
    refine hg_if_eq (pc' := 20) cx 27 dX5_holds_17 (by decide) rfl (fun c_17 => ?_) (fun c_17 => ?_)
    ·
      refine hg_iload1 (pc' := 28) cx dX5_holds_27 rfl ?_
      refine hg_if_ne (pc' := 31) cx 41 dX5_holds_28 (by decide) rfl (fun c_28 => ?_) (fun c_28 => ?_)
      ·
        refine hg_aload0 (pc' := 42) cx dX5_holds_41 rfl ?_
        refine gf_X5_10 (pc' := 45) cx dX5_holds_42 rfl ?_
        refine gf_X5_53 (pc' := 48) cx (by first | assumption | omega | decide) (by first | assumption | omega | decide) dX5_holds_45 rfl ?_
        refine hg_istore3 (pc' := 49) cx rfl dX5_holds_48 rfl ?_
        refine hg_iload1 (pc' := 50) cx dX5_holds_49 rfl ?_
        refine hg_if_ne (pc' := 53) cx 64 dX5_holds_50 (by decide) rfl (fun c_50 => ?_) (fun c_50 => ?_)
        ·
          refine hg_aload0 (pc' := 65) cx dX5_holds_64 rfl ?_
          refine gf_X5_10 (pc' := 68) cx dX5_holds_65 rfl ?_
          refine hg_iload2 (pc' := 69) cx dX5_holds_68 rfl ?_
          refine pf_X5_53 (pc' := 72) cx (by first | assumption | omega | decide) (by first | assumption | omega | decide) dX5_holds_69 rfl ?_
          refine hg_iload3 (pc' := 73) cx dX5_holds_72 rfl ?_
          refine hg_iret cx dX5_holds_73 ⟨_, rfl, ?_⟩
          simp only [op_holds, c_6, c_17, c_28, c_50, not_true_eq_false, or_self, if_true, if_false]
          first | exact ⟨g1, hc.setC _ _ (hc.1.set (by decide) _).2 (hc.1.set (by decide) _).1⟩ | exact ⟨g2, hc.setC _ _ (hc.1.set (by decide) _).2 (hc.1.set (by decide) _).1⟩ | exact absurd c_28 c_50 | exact absurd c_50 c_28
        ·
          refine hg_aload0 (pc' := 54) cx dX5_holds_53 rfl ?_
          refine gf_X5_10 (pc' := 57) cx dX5_holds_54 rfl ?_
          refine hg_iload2 (pc' := 58) cx dX5_holds_57 rfl ?_
          refine pf_X5_49 (pc' := 61) cx (by first | assumption | omega | decide) (by first | assumption | omega | decide) dX5_holds_58 rfl ?_
          refine hg_goto cx 72 dX5_holds_61 (by decide) ?_
          refine hg_iload3 (pc' := 73) cx dX5_holds_72 rfl ?_
          refine hg_iret cx dX5_holds_73 ⟨_, rfl, ?_⟩
          simp only [op_holds, c_6, c_17, c_28, c_50, not_true_eq_false, or_self, if_true, if_false]
          first | exact ⟨g1, hc.setC _ _ (hc.1.set (by decide) _).2 (hc.1.set (by decide) _).1⟩ | exact ⟨g2, hc.setC _ _ (hc.1.set (by decide) _).2 (hc.1.set (by decide) _).1⟩ | exact absurd c_28 c_50 | exact absurd c_50 c_28
      ·
        refine hg_aload0 (pc' := 32) cx dX5_holds_31 rfl ?_
        refine gf_X5_10 (pc' := 35) cx dX5_holds_32 rfl ?_
        refine gf_X5_49 (pc' := 38) cx (by first | assumption | omega | decide) (by first | assumption | omega | decide) dX5_holds_35 rfl ?_
        refine hg_goto cx 48 dX5_holds_38 (by decide) ?_
        refine hg_istore3 (pc' := 49) cx rfl dX5_holds_48 rfl ?_
        refine hg_iload1 (pc' := 50) cx dX5_holds_49 rfl ?_
        refine hg_if_ne (pc' := 53) cx 64 dX5_holds_50 (by decide) rfl (fun c_50 => ?_) (fun c_50 => ?_)
        ·
          refine hg_aload0 (pc' := 65) cx dX5_holds_64 rfl ?_
          refine gf_X5_10 (pc' := 68) cx dX5_holds_65 rfl ?_
          refine hg_iload2 (pc' := 69) cx dX5_holds_68 rfl ?_
          refine pf_X5_53 (pc' := 72) cx (by first | assumption | omega | decide) (by first | assumption | omega | decide) dX5_holds_69 rfl ?_
          refine hg_iload3 (pc' := 73) cx dX5_holds_72 rfl ?_
          refine hg_iret cx dX5_holds_73 ⟨_, rfl, ?_⟩
          simp only [op_holds, c_6, c_17, c_28, c_50, not_true_eq_false, or_self, if_true, if_false]
          first | exact ⟨g1, hc.setC _ _ (hc.1.set (by decide) _).2 (hc.1.set (by decide) _).1⟩ | exact ⟨g2, hc.setC _ _ (hc.1.set (by decide) _).2 (hc.1.set (by decide) _).1⟩ | exact absurd c_28 c_50 | exact absurd c_50 c_28
        ·
          refine hg_aload0 (pc' := 54) cx dX5_holds_53 rfl ?_
          refine gf_X5_10 (pc' := 57) cx dX5_holds_54 rfl ?_
          refine hg_iload2 (pc' := 58) cx dX5_holds_57 rfl ?_
          refine pf_X5_49 (pc' := 61) cx (by first | assumption | omega | decide) (by first | assumption | omega | decide) dX5_holds_58 rfl ?_
          refine hg_goto cx 72 dX5_holds_61 (by decide) ?_
          refine hg_iload3 (pc' := 73) cx dX5_holds_72 rfl ?_
          refine hg_iret cx dX5_holds_73 ⟨_, rfl, ?_⟩
          simp only [op_holds, c_6, c_17, c_28, c_50, not_true_eq_false, or_self, if_true, if_false]
          first | exact ⟨g1, hc.setC _ _ (hc.1.set (by decide) _).2 (hc.1.set (by decide) _).1⟩ | exact ⟨g2, hc.setC _ _ (hc.1.set (by decide) _).2 (hc.1.set (by decide) _).1⟩ | exact absurd c_28 c_50 | exact absurd c_50 c_28
    ·
      refine hg_aload0 (pc' := 21) cx dX5_holds_20 rfl ?_
      refine hg_ldc (pc' := 23) cx kc_X5_44 dX5_holds_21 rfl ?_
      refine cv_X5_45 (pc' := 26) cx (K_X5_finding l E _ (-1000000001) 0 (by decide) (by decide)) ⟨rfl, rfl, Nat.le_of_ble_eq_true rfl, Nat.le_of_ble_eq_true rfl⟩ (Nat.le_of_ble_eq_true rfl) dX5_holds_23 rfl (fun r_23 τ_23 h_23 => ?_)
      obtain ⟨rfl, rfl⟩ := h_23
      refine hg_iret cx dX5_holds_26 ⟨_, rfl, ?_⟩
      simp only [op_holds, c_6, c_17, not_true_eq_false, not_false_eq_true, true_or, or_true, false_or, or_false, or_self, if_true, if_false, and_self]
      exact hc.find (by decide) (by decide)
set_option maxHeartbeats 4000000 in
set_option maxRecDepth 100000 in
theorem K_X5_now (l : Launch) (E : hg_Wd) (σ : hg_Mem) (S : sp_S) (hc : cw_C σ S) (w : Int32) : hg_C l E yX5_now cX5_now 2 (some .int) { frames := 4, cells := 0, slots := 0, locals := 88 } [.ref (hg_ad E 0), .int w] σ (hg_pi (fun r τ => cw_P σ (op_now S w) r τ)) := by
  refine hg_intro (by decide) [some (.ref (hg_ad E 0)), some (.int w)] rfl (Nat.le_of_ble_eq_true rfl) ?_
  intro p e s m args below meth c cx
  have cx : hg_Cx E p s m args meth c cX5_now 2 RX5 (some .int) := cx
  obtain ⟨hn10, hn, g0, g1, g2, hag⟩ := hc.get
  refine hg_iload1 (pc' := 1) cx dX5_now_0 rfl ?_
  refine hg_tsw cx [0, 1, 2, 3, 4, 5, 6, 7] [48, 56, 64, 72, 80, 95, 110, 118] 126 dX5_now_1 (by decide) (by decide) (fun c_1 => ?_) (fun i v t hk ht c_1 => ?_)
  ·
    simp only [List.mem_cons, List.not_mem_nil, or_false, forall_eq_or_imp, forall_eq] at c_1
    refine hg_aload0 (pc' := 127) cx dX5_now_126 rfl ?_
    refine hg_ldc (pc' := 129) cx kc_X5_44 dX5_now_127 rfl ?_
    refine cv_X5_45 (pc' := 132) cx (K_X5_finding l E _ (-1000000001) 0 (by decide) (by decide)) ⟨rfl, rfl, Nat.le_of_ble_eq_true rfl, Nat.le_of_ble_eq_true rfl⟩ (Nat.le_of_ble_eq_true rfl) dX5_now_129 rfl (fun r_129 τ_129 h_129 => ?_)
    obtain ⟨rfl, rfl⟩ := h_129
    refine hg_iret cx dX5_now_132 ⟨_, rfl, ?_⟩
    simp (decide := true) only [op_now, c_1, if_true, if_false]
    exact hc.find (by decide) (by decide)
  ·
    match i, hk, ht with
    | 0, hk, ht =>
      cases hk; cases ht
      refine hg_aload0 (pc' := 49) cx dX5_now_48 rfl ?_
      refine gf_X5_10 (pc' := 52) cx dX5_now_49 rfl ?_
      refine gf_X5_56 (pc' := 55) cx (by first | assumption | omega | decide) (by first | assumption | omega | decide) dX5_now_52 rfl ?_
      refine hg_iret cx dX5_now_55 ⟨_, rfl, ?_⟩
      simp (decide := true) only [op_now, c_1, if_true, if_false]
      exact ⟨g0, hc, cw_Fr.rf _⟩
    | 1, hk, ht =>
      cases hk; cases ht
      refine hg_aload0 (pc' := 57) cx dX5_now_56 rfl ?_
      refine gf_X5_10 (pc' := 60) cx dX5_now_57 rfl ?_
      refine cv_X5_59 (pc' := 63) cx (by first | assumption | omega | decide) (by first | assumption | omega | decide) (K_X3_question l E _ _ (by first | assumption | omega | decide) (by first | assumption | omega | decide)) ⟨rfl, rfl, Nat.le_of_ble_eq_true rfl, Nat.le_of_ble_eq_true rfl⟩ (Nat.le_of_ble_eq_true rfl) dX5_now_60 rfl (fun r_60 τ_60 h_60 => ?_)
      obtain ⟨rfl, rfl⟩ := h_60
      refine hg_iret cx dX5_now_63 ⟨_, rfl, ?_⟩
      simp (decide := true) only [op_now, c_1, if_true, if_false]
      exact ⟨by rw [g0], hc, cw_Fr.rf _⟩
    | 2, hk, ht =>
      cases hk; cases ht
      refine hg_aload0 (pc' := 65) cx dX5_now_64 rfl ?_
      refine gf_X5_10 (pc' := 68) cx dX5_now_65 rfl ?_
      refine gf_X5_49 (pc' := 71) cx (by first | assumption | omega | decide) (by first | assumption | omega | decide) dX5_now_68 rfl ?_
      refine hg_iret cx dX5_now_71 ⟨_, rfl, ?_⟩
      simp (decide := true) only [op_now, c_1, if_true, if_false]
      exact ⟨g1, hc, cw_Fr.rf _⟩
    | 3, hk, ht =>
      cases hk; cases ht
      refine hg_aload0 (pc' := 73) cx dX5_now_72 rfl ?_
      refine gf_X5_10 (pc' := 76) cx dX5_now_73 rfl ?_
      refine gf_X5_53 (pc' := 79) cx (by first | assumption | omega | decide) (by first | assumption | omega | decide) dX5_now_76 rfl ?_
      refine hg_iret cx dX5_now_79 ⟨_, rfl, ?_⟩
      simp (decide := true) only [op_now, c_1, if_true, if_false]
      exact ⟨g2, hc, cw_Fr.rf _⟩
    | 4, hk, ht =>
      cases hk; cases ht
      refine hg_aload0 (pc' := 81) cx dX5_now_80 rfl ?_
      refine gf_X5_10 (pc' := 84) cx dX5_now_81 rfl ?_
      refine cv_X5_63 (pc' := 87) cx (by first | assumption | omega | decide) (by first | assumption | omega | decide) (K_X3_ask l E _ 1 (by decide) (by decide) (S.1 0).2 hn10 hn) ⟨rfl, rfl, Nat.le_of_ble_eq_true rfl, Nat.le_of_ble_eq_true rfl⟩ (Nat.le_of_ble_eq_true rfl) dX5_now_84 rfl (fun τ_84 h_84 => ?_)
      skip
      refine hg_aload0 (pc' := 88) cx dX5_now_87 rfl ?_
      refine gf_X5_10 (pc' := 91) cx dX5_now_88 rfl ?_
      refine gf_X5_66 (pc' := 94) cx (by first | assumption | omega | decide) (by first | assumption | omega | decide) dX5_now_91 rfl ?_
      refine hg_iret cx dX5_now_94 ⟨_, rfl, ?_⟩
      simp (decide := true) only [op_now, c_1, if_true, if_false]
      have hR := h_84.rep hc.1 (by decide)
      obtain ⟨q1, q2⟩ := hc.fr h_84.1 (fun i a b d => h_84.2.1 i a (by omega)) hR
      exact ⟨by rw [h_84.2.2.2.1, sp_yes_ag _ _ _ _ hag, g0, g2], q1, q2⟩
    | 5, hk, ht =>
      cases hk; cases ht
      refine hg_aload0 (pc' := 96) cx dX5_now_95 rfl ?_
      refine gf_X5_10 (pc' := 99) cx dX5_now_96 rfl ?_
      refine cv_X5_63 (pc' := 102) cx (by first | assumption | omega | decide) (by first | assumption | omega | decide) (K_X3_ask l E _ 1 (by decide) (by decide) (S.1 0).2 hn10 hn) ⟨rfl, rfl, Nat.le_of_ble_eq_true rfl, Nat.le_of_ble_eq_true rfl⟩ (Nat.le_of_ble_eq_true rfl) dX5_now_99 rfl (fun τ_99 h_99 => ?_)
      skip
      refine hg_aload0 (pc' := 103) cx dX5_now_102 rfl ?_
      refine gf_X5_10 (pc' := 106) cx dX5_now_103 rfl ?_
      refine gf_X5_69 (pc' := 109) cx (by first | assumption | omega | decide) (by first | assumption | omega | decide) dX5_now_106 rfl ?_
      refine hg_iret cx dX5_now_109 ⟨_, rfl, ?_⟩
      simp (decide := true) only [op_now, c_1, if_true, if_false]
      have hR := h_99.rep hc.1 (by decide)
      obtain ⟨q1, q2⟩ := hc.fr h_99.1 (fun i a b d => h_99.2.1 i a (by omega)) hR
      exact ⟨by rw [h_99.2.2.2.2.1, sp_no_ag _ _ _ _ hag, g0, g2], q1, q2⟩
    | 6, hk, ht =>
      cases hk; cases ht
      refine hg_aload0 (pc' := 111) cx dX5_now_110 rfl ?_
      refine gf_X5_10 (pc' := 114) cx dX5_now_111 rfl ?_
      refine cv_X5_72 (pc' := 117) cx (by first | assumption | omega | decide) (by first | assumption | omega | decide) (K_X3_hatsOn l E _ 1 (by decide) (by decide) (S.1 0).2 hn10 hn) ⟨rfl, rfl, Nat.le_of_ble_eq_true rfl, Nat.le_of_ble_eq_true rfl⟩ (Nat.le_of_ble_eq_true rfl) dX5_now_114 rfl (fun r_114 τ_114 h_114 => ?_)
      obtain ⟨rfl, rfl⟩ := h_114
      refine hg_iret cx dX5_now_117 ⟨_, rfl, ?_⟩
      simp (decide := true) only [op_now, c_1, if_true, if_false]
      exact ⟨sp_onset_ag _ hag, hc, cw_Fr.rf _⟩
    | 7, hk, ht =>
      cases hk; cases ht
      refine hg_aload0 (pc' := 119) cx dX5_now_118 rfl ?_
      refine gf_X5_10 (pc' := 122) cx dX5_now_119 rfl ?_
      refine cv_X5_75 (pc' := 125) cx (by first | assumption | omega | decide) (by first | assumption | omega | decide) (K_X3_trueOnes l E _ _ (by first | assumption | omega | decide) (by first | assumption | omega | decide)) ⟨rfl, rfl, Nat.le_of_ble_eq_true rfl, Nat.le_of_ble_eq_true rfl⟩ (Nat.le_of_ble_eq_true rfl) dX5_now_122 rfl (fun r_122 τ_122 h_122 => ?_)
      obtain ⟨rfl, rfl⟩ := h_122
      refine hg_iret cx dX5_now_125 ⟨_, rfl, ?_⟩
      simp (decide := true) only [op_now, c_1, if_true, if_false]
      exact ⟨by rw [g1, g2], hc, cw_Fr.rf _⟩
    | j + 8, hk, ht => exact absurd hk (by simp)
set_option maxHeartbeats 4000000 in
set_option maxRecDepth 100000 in
theorem K_X5_hat (l : Launch) (E : hg_Wd) (σ : hg_Mem) (S : sp_S) (hc : cw_C σ S) (k : Int32) (v : Int32) : hg_C l E yX5_hat cX5_hat 3 (some .int) { frames := 2, cells := 0, slots := 0, locals := 44 } [.ref (hg_ad E 0), .int k, .int v] σ (hg_pi (fun r τ => cw_P σ (op_hat S k v) r τ)) := by
  refine hg_intro (by decide) [some (.ref (hg_ad E 0)), some (.int k), some (.int v)] rfl (Nat.le_of_ble_eq_true rfl) ?_
  intro p e s m args below meth c cx
  have cx : hg_Cx E p s m args meth c cX5_hat 3 RX5 (some .int) := cx
  obtain ⟨hn10, hn, g0, g1, g2, hag⟩ := hc.get
  refine hg_iload1 (pc' := 1) cx dX5_hat_0 rfl ?_
  refine hg_iconst (pc' := 2) cx 0 dX5_hat_1 (by decide) rfl ?_
  refine hg_iconst (pc' := 3) cx 5 dX5_hat_2 (by decide) rfl ?_
  refine cs_X5_40 (pc' := 6) cx (K_X5_outside l E _ _ _ _) ⟨rfl, rfl, Nat.le_of_ble_eq_true rfl, Nat.le_of_ble_eq_true rfl⟩ (Nat.le_of_ble_eq_true rfl) dX5_hat_3 rfl (fun r_3 τ_3 h_3 => ?_)
  obtain ⟨rfl, rfl⟩ := h_3
  refine hg_if_ne (pc' := 9) cx 20 dX5_hat_6 (by decide) rfl (fun c_6 => ?_) (fun c_6 => ?_)
  ·
    refine hg_aload0 (pc' := 21) cx dX5_hat_20 rfl ?_
    refine hg_ldc (pc' := 23) cx kc_X5_44 dX5_hat_21 rfl ?_
    refine cv_X5_45 (pc' := 26) cx (K_X5_finding l E _ (-1000000001) 0 (by decide) (by decide)) ⟨rfl, rfl, Nat.le_of_ble_eq_true rfl, Nat.le_of_ble_eq_true rfl⟩ (Nat.le_of_ble_eq_true rfl) dX5_hat_23 rfl (fun r_23 τ_23 h_23 => ?_)
    obtain ⟨rfl, rfl⟩ := h_23
    refine hg_iret cx dX5_hat_26 ⟨_, rfl, ?_⟩
    simp only [op_hat, c_6, not_true_eq_false, not_false_eq_true, true_or, or_true, false_or, or_false, or_self, if_true, if_false, and_self]
    exact hc.find (by decide) (by decide)
  ·
    refine hg_iload2 (pc' := 10) cx dX5_hat_9 rfl ?_
    refine hg_iconst (pc' := 11) cx 0 dX5_hat_10 (by decide) rfl ?_
    refine hg_sipush (pc' := 14) cx 255 dX5_hat_11 (by decide) rfl ?_
    refine cs_X5_40 (pc' := 17) cx (K_X5_outside l E _ _ _ _) ⟨rfl, rfl, Nat.le_of_ble_eq_true rfl, Nat.le_of_ble_eq_true rfl⟩ (Nat.le_of_ble_eq_true rfl) dX5_hat_14 rfl (fun r_14 τ_14 h_14 => ?_)
    obtain ⟨rfl, rfl⟩ := h_14
    refine hg_if_eq (pc' := 20) cx 27 dX5_hat_17 (by decide) rfl (fun c_17 => ?_) (fun c_17 => ?_)
    ·
      refine hg_aload0 (pc' := 28) cx dX5_hat_27 rfl ?_
      refine gf_X5_10 (pc' := 31) cx dX5_hat_28 rfl ?_
      refine cv_X5_78 (pc' := 34) cx (by first | assumption | omega | decide) (by first | assumption | omega | decide) (K_X3_isFull l E _ _ (by first | assumption | omega | decide) (by first | assumption | omega | decide)) ⟨rfl, rfl, Nat.le_of_ble_eq_true rfl, Nat.le_of_ble_eq_true rfl⟩ (Nat.le_of_ble_eq_true rfl) dX5_hat_31 rfl (fun r_31 τ_31 h_31 => ?_)
      obtain ⟨rfl, rfl⟩ := h_31
      refine hg_if_eq (pc' := 37) cx 44 dX5_hat_34 (by decide) rfl (fun c_34 => ?_) (fun c_34 => ?_)
      ·
        have hlt : (S.1 0).2 < 10 := by
          rcases Nat.lt_or_ge (S.1 0).2 10 with q | q
          · exact q
          · exact absurd (by rw [hn]; exact nI_le q (by omega)) (hg_b0 c_34)
        refine hg_aload0 (pc' := 45) cx dX5_hat_44 rfl ?_
        refine gf_X5_10 (pc' := 48) cx dX5_hat_45 rfl ?_
        refine hg_iload1 (pc' := 49) cx dX5_hat_48 rfl ?_
        refine hg_iload2 (pc' := 50) cx dX5_hat_49 rfl ?_
        refine cv_X5_83 (pc' := 53) cx (by first | assumption | omega | decide) (by first | assumption | omega | decide) (K_X3_add l E _ 1 (by decide) (by decide) (S.1 0).2 hlt hn _ _) ⟨rfl, rfl, Nat.le_of_ble_eq_true rfl, Nat.le_of_ble_eq_true rfl⟩ (Nat.le_of_ble_eq_true rfl) dX5_hat_50 rfl (fun τ_50 h_50 => ?_)
        obtain rfl := h_50
        refine hg_aload0 (pc' := 54) cx dX5_hat_53 rfl ?_
        refine gf_X5_10 (pc' := 57) cx dX5_hat_54 rfl ?_
        refine gf_X5_87 (pc' := 60) cx (by first | assumption | omega | decide) (by first | assumption | omega | decide) dX5_hat_57 rfl ?_
        refine hg_iconst (pc' := 61) cx 1 dX5_hat_60 (by decide) rfl ?_
        refine hg_isub (pc' := 62) cx dX5_hat_61 rfl ?_
        refine hg_iret cx dX5_hat_62 ⟨_, rfl, ?_⟩
        simp only [op_hat, c_6, c_17, not_true_eq_false, or_self, if_false, if_neg (show ¬ 10 ≤ (S.1 0).2 by omega)]
        obtain ⟨hA, hB⟩ := hc.1.add hlt k v
        refine ⟨?_, hc.setC _ _ hB hA⟩
        rw [hg_sH_at, va_upE]
        exact nI_pred _
      ·
        refine hg_aload0 (pc' := 38) cx dX5_hat_37 rfl ?_
        refine hg_ldc (pc' := 40) cx kc_X5_82 dX5_hat_38 rfl ?_
        refine cv_X5_45 (pc' := 43) cx (K_X5_finding l E _ (-1000000002) 1 (by decide) (by decide)) ⟨rfl, rfl, Nat.le_of_ble_eq_true rfl, Nat.le_of_ble_eq_true rfl⟩ (Nat.le_of_ble_eq_true rfl) dX5_hat_40 rfl (fun r_40 τ_40 h_40 => ?_)
        obtain ⟨rfl, rfl⟩ := h_40
        refine hg_iret cx dX5_hat_43 ⟨_, rfl, ?_⟩
        have hq := hg_ge (n := 10) (j := (S.1 0).2) rfl (by omega) (by omega) (hn ▸ hg_b1 c_34)
        simp only [op_hat, c_6, c_17, c_34, not_true_eq_false, or_self, if_false, if_pos hq]
        exact hc.find (by decide) (by decide)
    ·
      refine hg_aload0 (pc' := 21) cx dX5_hat_20 rfl ?_
      refine hg_ldc (pc' := 23) cx kc_X5_44 dX5_hat_21 rfl ?_
      refine cv_X5_45 (pc' := 26) cx (K_X5_finding l E _ (-1000000001) 0 (by decide) (by decide)) ⟨rfl, rfl, Nat.le_of_ble_eq_true rfl, Nat.le_of_ble_eq_true rfl⟩ (Nat.le_of_ble_eq_true rfl) dX5_hat_23 rfl (fun r_23 τ_23 h_23 => ?_)
      obtain ⟨rfl, rfl⟩ := h_23
      refine hg_iret cx dX5_hat_26 ⟨_, rfl, ?_⟩
      simp only [op_hat, c_6, c_17, not_true_eq_false, not_false_eq_true, true_or, or_true, false_or, or_false, or_self, if_true, if_false, and_self]
      exact hc.find (by decide) (by decide)
set_option maxHeartbeats 4000000 in
set_option maxRecDepth 100000 in
theorem K_X5_says (l : Launch) (E : hg_Wd) (σ : hg_Mem) (S : sp_S) (hc : cw_C σ S) (x : Int32) (q : Int32) : hg_C l E yX5_says cX5_says 3 (some .int) { frames := 3, cells := 0, slots := 0, locals := 65 } [.ref (hg_ad E 0), .int x, .int q] σ (hg_pi (fun r τ => cw_P σ (op_says S x q) r τ)) := by
  refine hg_intro (by decide) [some (.ref (hg_ad E 0)), some (.int x), some (.int q)] rfl (Nat.le_of_ble_eq_true rfl) ?_
  intro p e s m args below meth c cx
  have cx : hg_Cx E p s m args meth c cX5_says 3 RX5 (some .int) := cx
  obtain ⟨hn10, hn, g0, g1, g2, hag⟩ := hc.get
  refine hg_aload0 (pc' := 1) cx dX5_says_0 rfl ?_
  refine gf_X5_10 (pc' := 4) cx dX5_says_1 rfl ?_
  refine hg_iload1 (pc' := 5) cx dX5_says_4 rfl ?_
  refine cv_X5_90 (pc' := 8) cx (by first | assumption | omega | decide) (by first | assumption | omega | decide) (K_X3_has l E _ 1 (by decide) (by decide) (S.1 0).2 hn10 hn _) ⟨rfl, rfl, Nat.le_of_ble_eq_true rfl, Nat.le_of_ble_eq_true rfl⟩ (Nat.le_of_ble_eq_true rfl) dX5_says_5 rfl (fun r_5 τ_5 h_5 => ?_)
  obtain ⟨rfl, rfl⟩ := h_5
  refine hg_if_eq (pc' := 11) cx 21 dX5_says_8 (by decide) rfl (fun c_8 => ?_) (fun c_8 => ?_)
  ·
    refine hg_aload0 (pc' := 22) cx dX5_says_21 rfl ?_
    refine hg_ldc (pc' := 24) cx kc_X5_44 dX5_says_22 rfl ?_
    refine cv_X5_45 (pc' := 27) cx (K_X5_finding l E _ (-1000000001) 0 (by decide) (by decide)) ⟨rfl, rfl, Nat.le_of_ble_eq_true rfl, Nat.le_of_ble_eq_true rfl⟩ (Nat.le_of_ble_eq_true rfl) dX5_says_24 rfl (fun r_24 τ_24 h_24 => ?_)
    obtain ⟨rfl, rfl⟩ := h_24
    refine hg_iret cx dX5_says_27 ⟨_, rfl, ?_⟩
    simp only [op_says, sp_hz, c_8, not_true_eq_false, not_false_eq_true, true_or, or_true, false_or, or_false, or_self, if_true, if_false, and_self]
    exact hc.find (by decide) (by decide)
  ·
    refine hg_iload2 (pc' := 12) cx dX5_says_11 rfl ?_
    refine hg_iconst (pc' := 13) cx 0 dX5_says_12 (by decide) rfl ?_
    refine hg_bipush (pc' := 15) cx 7 dX5_says_13 (by decide) rfl ?_
    refine cs_X5_40 (pc' := 18) cx (K_X5_outside l E _ _ _ _) ⟨rfl, rfl, Nat.le_of_ble_eq_true rfl, Nat.le_of_ble_eq_true rfl⟩ (Nat.le_of_ble_eq_true rfl) dX5_says_15 rfl (fun r_15 τ_15 h_15 => ?_)
    obtain ⟨rfl, rfl⟩ := h_15
    refine hg_if_eq (pc' := 21) cx 28 dX5_says_18 (by decide) rfl (fun c_18 => ?_) (fun c_18 => ?_)
    ·
      obtain ⟨j, hjn, rfl⟩ := sp_hz_of hn10 c_8
      have hcl : (nI j).toNatClampNeg = j := nI_clamp (by omega)
      have hj := hag j hjn
      refine hg_aload0 (pc' := 29) cx dX5_says_28 rfl ?_
      refine gf_X5_10 (pc' := 32) cx dX5_says_29 rfl ?_
      refine gf_X5_94 (pc' := 35) cx (by first | assumption | omega | decide) (by first | assumption | omega | decide) dX5_says_32 rfl ?_
      refine hg_iload1 (pc' := 36) cx dX5_says_35 rfl ?_
      refine hg_seat (t := 1) cx (by decide) (by decide) (by omega) dX5_says_36 rfl ?_
      refine hg_iload2 (pc' := 38) cx dX5_says_37 rfl ?_
      refine hg_aload0 (pc' := 39) cx dX5_says_38 rfl ?_
      refine gf_X5_10 (pc' := 42) cx dX5_says_39 rfl ?_
      refine gf_X5_53 (pc' := 45) cx (by first | assumption | omega | decide) (by first | assumption | omega | decide) dX5_says_42 rfl ?_
      refine cv_X5_112 (pc' := 48) cx (by first | assumption | omega | decide) (by first | assumption | omega | decide) (K_X1_answer l E _ _ (by first | assumption | omega | decide) (by first | assumption | omega | decide) _ _) ⟨rfl, rfl, Nat.le_of_ble_eq_true rfl, Nat.le_of_ble_eq_true rfl⟩ (Nat.le_of_ble_eq_true rfl) dX5_says_45 rfl (fun r_45 τ_45 h_45 => ?_)
      obtain ⟨rfl, rfl⟩ := h_45
      refine hg_iret cx dX5_says_48 ⟨_, rfl, ?_⟩
      simp only [op_says, sp_hz, c_8, c_18, not_true_eq_false, not_false_eq_true, true_or, or_true, false_or, or_false, or_self, if_true, if_false, and_self, hcl]
      exact ⟨by rw [hj.says, g2], hc, cw_Fr.rf _⟩
    ·
      refine hg_aload0 (pc' := 22) cx dX5_says_21 rfl ?_
      refine hg_ldc (pc' := 24) cx kc_X5_44 dX5_says_22 rfl ?_
      refine cv_X5_45 (pc' := 27) cx (K_X5_finding l E _ (-1000000001) 0 (by decide) (by decide)) ⟨rfl, rfl, Nat.le_of_ble_eq_true rfl, Nat.le_of_ble_eq_true rfl⟩ (Nat.le_of_ble_eq_true rfl) dX5_says_24 rfl (fun r_24 τ_24 h_24 => ?_)
      obtain ⟨rfl, rfl⟩ := h_24
      refine hg_iret cx dX5_says_27 ⟨_, rfl, ?_⟩
      simp only [op_says, sp_hz, c_8, c_18, not_true_eq_false, not_false_eq_true, true_or, or_true, false_or, or_false, or_self, if_true, if_false, and_self]
      exact hc.find (by decide) (by decide)
set_option maxHeartbeats 4000000 in
set_option maxRecDepth 100000 in
theorem K_X5_of (l : Launch) (E : hg_Wd) (σ : hg_Mem) (S : sp_S) (hc : cw_C σ S) (x : Int32) (w : Int32) : hg_C l E yX5_of cX5_of 4 (some .int) { frames := 2, cells := 0, slots := 0, locals := 44 } [.ref (hg_ad E 0), .int x, .int w] σ (hg_pi (fun r τ => cw_P σ (op_of S x w) r τ)) := by
  refine hg_intro (by decide) [some (.ref (hg_ad E 0)), some (.int x), some (.int w), none] rfl (Nat.le_of_ble_eq_true rfl) ?_
  intro p e s m args below meth c cx
  have cx : hg_Cx E p s m args meth c cX5_of 4 RX5 (some .int) := cx
  obtain ⟨hn10, hn, g0, g1, g2, hag⟩ := hc.get
  refine hg_aload0 (pc' := 1) cx dX5_of_0 rfl ?_
  refine gf_X5_10 (pc' := 4) cx dX5_of_1 rfl ?_
  refine hg_iload1 (pc' := 5) cx dX5_of_4 rfl ?_
  refine cv_X5_90 (pc' := 8) cx (by first | assumption | omega | decide) (by first | assumption | omega | decide) (K_X3_has l E _ 1 (by decide) (by decide) (S.1 0).2 hn10 hn _) ⟨rfl, rfl, Nat.le_of_ble_eq_true rfl, Nat.le_of_ble_eq_true rfl⟩ (Nat.le_of_ble_eq_true rfl) dX5_of_5 rfl (fun r_5 τ_5 h_5 => ?_)
  obtain ⟨rfl, rfl⟩ := h_5
  refine hg_if_eq (pc' := 11) cx 21 dX5_of_8 (by decide) rfl (fun c_8 => ?_) (fun c_8 => ?_)
  ·
    refine hg_aload0 (pc' := 22) cx dX5_of_21 rfl ?_
    refine hg_ldc (pc' := 24) cx kc_X5_44 dX5_of_22 rfl ?_
    refine cv_X5_45 (pc' := 27) cx (K_X5_finding l E _ (-1000000001) 0 (by decide) (by decide)) ⟨rfl, rfl, Nat.le_of_ble_eq_true rfl, Nat.le_of_ble_eq_true rfl⟩ (Nat.le_of_ble_eq_true rfl) dX5_of_24 rfl (fun r_24 τ_24 h_24 => ?_)
    obtain ⟨rfl, rfl⟩ := h_24
    refine hg_iret cx dX5_of_27 ⟨_, rfl, ?_⟩
    simp only [op_of, sp_hz, c_8, not_true_eq_false, not_false_eq_true, true_or, or_true, false_or, or_false, or_self, if_true, if_false, and_self]
    exact hc.find (by decide) (by decide)
  ·
    refine hg_iload2 (pc' := 12) cx dX5_of_11 rfl ?_
    refine hg_iconst (pc' := 13) cx 0 dX5_of_12 (by decide) rfl ?_
    refine hg_bipush (pc' := 15) cx 8 dX5_of_13 (by decide) rfl ?_
    refine cs_X5_40 (pc' := 18) cx (K_X5_outside l E _ _ _ _) ⟨rfl, rfl, Nat.le_of_ble_eq_true rfl, Nat.le_of_ble_eq_true rfl⟩ (Nat.le_of_ble_eq_true rfl) dX5_of_15 rfl (fun r_15 τ_15 h_15 => ?_)
    obtain ⟨rfl, rfl⟩ := h_15
    refine hg_if_eq (pc' := 21) cx 28 dX5_of_18 (by decide) rfl (fun c_18 => ?_) (fun c_18 => ?_)
    ·
      obtain ⟨j, hjn, rfl⟩ := sp_hz_of hn10 c_8
      have hcl : (nI j).toNatClampNeg = j := nI_clamp (by omega)
      have hj := hag j hjn
      refine hg_aload0 (pc' := 29) cx dX5_of_28 rfl ?_
      refine gf_X5_10 (pc' := 32) cx dX5_of_29 rfl ?_
      refine gf_X5_94 (pc' := 35) cx (by first | assumption | omega | decide) (by first | assumption | omega | decide) dX5_of_32 rfl ?_
      refine hg_iload1 (pc' := 36) cx dX5_of_35 rfl ?_
      refine hg_seat (t := 1) cx (by decide) (by decide) (by omega) dX5_of_36 rfl ?_
      refine hg_astore3 (pc' := 38) cx rfl dX5_of_37 rfl ?_
      refine hg_iload2 (pc' := 39) cx dX5_of_38 rfl ?_
      refine hg_tsw cx [6, 7, 8] [64, 76, 96] 101 dX5_of_39 (by decide) (by decide) (fun c_39 => ?_) (fun i v t hk ht c_39 => ?_)
      ·
        simp only [List.mem_cons, List.not_mem_nil, or_false, forall_eq_or_imp, forall_eq] at c_39
        refine hg_aload3 (pc' := 102) cx dX5_of_101 rfl ?_
        refine hg_iload2 (pc' := 103) cx dX5_of_102 rfl ?_
        refine cv_X5_109 (pc' := 106) cx (by first | assumption | omega | decide) (by first | assumption | omega | decide) (K_X1_trait l E _ _ (by first | assumption | omega | decide) (by first | assumption | omega | decide) _) ⟨rfl, rfl, Nat.le_of_ble_eq_true rfl, Nat.le_of_ble_eq_true rfl⟩ (Nat.le_of_ble_eq_true rfl) dX5_of_103 rfl (fun r_103 τ_103 h_103 => ?_)
        obtain ⟨rfl, rfl⟩ := h_103
        refine hg_iret cx dX5_of_106 ⟨_, rfl, ?_⟩
        simp (decide := true) only [op_of, sp_hz, c_8, c_18, c_39, hcl, not_true_eq_false, or_self, if_true, if_false]
        exact ⟨by rw [hj.trait], hc, cw_Fr.rf _⟩
      ·
        match i, hk, ht with
        | 0, hk, ht =>
          cases hk; cases ht
          refine hg_aload3 (pc' := 65) cx dX5_of_64 rfl ?_
          refine hg_aload0 (pc' := 66) cx dX5_of_65 rfl ?_
          refine gf_X5_10 (pc' := 69) cx dX5_of_66 rfl ?_
          refine gf_X5_56 (pc' := 72) cx (by first | assumption | omega | decide) (by first | assumption | omega | decide) dX5_of_69 rfl ?_
          refine cv_X5_98 (pc' := 75) cx (by first | assumption | omega | decide) (by first | assumption | omega | decide) (K_X1_weight l E _ _ (by first | assumption | omega | decide) (by first | assumption | omega | decide) _) ⟨rfl, rfl, Nat.le_of_ble_eq_true rfl, Nat.le_of_ble_eq_true rfl⟩ (Nat.le_of_ble_eq_true rfl) dX5_of_72 rfl (fun r_72 τ_72 h_72 => ?_)
          obtain ⟨rfl, rfl⟩ := h_72
          refine hg_iret cx dX5_of_75 ⟨_, rfl, ?_⟩
          simp (decide := true) only [op_of, sp_hz, c_8, c_18, c_39, hcl, not_true_eq_false, or_self, if_true, if_false]
          exact ⟨by rw [hj.weighs, g0], hc, cw_Fr.rf _⟩
        | 1, hk, ht =>
          cases hk; cases ht
          refine hg_aload3 (pc' := 77) cx dX5_of_76 rfl ?_
          refine hg_aload0 (pc' := 78) cx dX5_of_77 rfl ?_
          refine gf_X5_10 (pc' := 81) cx dX5_of_78 rfl ?_
          refine gf_X5_56 (pc' := 84) cx (by first | assumption | omega | decide) (by first | assumption | omega | decide) dX5_of_81 rfl ?_
          refine cv_X5_103 (pc' := 87) cx (by first | assumption | omega | decide) (by first | assumption | omega | decide) (K_X1_isLearning l E _ _ (by first | assumption | omega | decide) (by first | assumption | omega | decide) _) ⟨rfl, rfl, Nat.le_of_ble_eq_true rfl, Nat.le_of_ble_eq_true rfl⟩ (Nat.le_of_ble_eq_true rfl) dX5_of_84 rfl (fun r_84 τ_84 h_84 => ?_)
          obtain ⟨rfl, rfl⟩ := h_84
          refine hg_if_eq (pc' := 90) cx 94 dX5_of_87 (by decide) rfl (fun c_87 => ?_) (fun c_87 => ?_)
          ·
            refine hg_iconst (pc' := 95) cx 0 dX5_of_94 (by decide) rfl ?_
            refine hg_iret cx dX5_of_95 ⟨_, rfl, ?_⟩
            simp (decide := true) only [op_of, sp_hz, c_8, c_18, c_39, hcl, not_true_eq_false, or_self, if_true, if_false]
            exact ⟨by rw [hj.learns, g0] at c_87; first | (rw [c_87]; done) | (exact (sp_learns_1 c_87).symm), hc, cw_Fr.rf _⟩
          ·
            refine hg_iconst (pc' := 91) cx 1 dX5_of_90 (by decide) rfl ?_
            refine hg_goto cx 95 dX5_of_91 (by decide) ?_
            refine hg_iret cx dX5_of_95 ⟨_, rfl, ?_⟩
            simp (decide := true) only [op_of, sp_hz, c_8, c_18, c_39, hcl, not_true_eq_false, or_self, if_true, if_false]
            exact ⟨by rw [hj.learns, g0] at c_87; first | (rw [c_87]; done) | (exact (sp_learns_1 c_87).symm), hc, cw_Fr.rf _⟩
        | 2, hk, ht =>
          cases hk; cases ht
          refine hg_aload3 (pc' := 97) cx dX5_of_96 rfl ?_
          refine cv_X5_106 (pc' := 100) cx (by first | assumption | omega | decide) (by first | assumption | omega | decide) (K_X1_stir l E _ _ (by first | assumption | omega | decide) (by first | assumption | omega | decide)) ⟨rfl, rfl, Nat.le_of_ble_eq_true rfl, Nat.le_of_ble_eq_true rfl⟩ (Nat.le_of_ble_eq_true rfl) dX5_of_97 rfl (fun r_97 τ_97 h_97 => ?_)
          obtain ⟨rfl, rfl⟩ := h_97
          refine hg_iret cx dX5_of_100 ⟨_, rfl, ?_⟩
          simp (decide := true) only [op_of, sp_hz, c_8, c_18, c_39, hcl, not_true_eq_false, or_self, if_true, if_false]
          exact ⟨by rw [hj.stirs], hc, cw_Fr.rf _⟩
        | j + 3, hk, ht => exact absurd hk (by simp)
    ·
      refine hg_aload0 (pc' := 22) cx dX5_of_21 rfl ?_
      refine hg_ldc (pc' := 24) cx kc_X5_44 dX5_of_22 rfl ?_
      refine cv_X5_45 (pc' := 27) cx (K_X5_finding l E _ (-1000000001) 0 (by decide) (by decide)) ⟨rfl, rfl, Nat.le_of_ble_eq_true rfl, Nat.le_of_ble_eq_true rfl⟩ (Nat.le_of_ble_eq_true rfl) dX5_of_24 rfl (fun r_24 τ_24 h_24 => ?_)
      obtain ⟨rfl, rfl⟩ := h_24
      refine hg_iret cx dX5_of_27 ⟨_, rfl, ?_⟩
      simp only [op_of, sp_hz, c_8, c_18, not_true_eq_false, not_false_eq_true, true_or, or_true, false_or, or_false, or_self, if_true, if_false, and_self]
      exact hc.find (by decide) (by decide)
set_option maxHeartbeats 4000000 in
set_option maxRecDepth 100000 in
theorem K_X5_set (l : Launch) (E : hg_Wd) (σ : hg_Mem) (S : sp_S) (hc : cw_C σ S) (x : Int32) (w : Int32) (v : Int32) : hg_C l E yX5_set cX5_set 6 (some .int) { frames := 2, cells := 0, slots := 0, locals := 44 } [.ref (hg_ad E 0), .int x, .int w, .int v] σ (hg_pi (fun r τ => cw_P σ (op_set S x w v) r τ)) := by
  refine hg_intro (by decide) [some (.ref (hg_ad E 0)), some (.int x), some (.int w), some (.int v), none, none] rfl (Nat.le_of_ble_eq_true rfl) ?_
  intro p e s m args below meth c cx
  have cx : hg_Cx E p s m args meth c cX5_set 6 RX5 (some .int) := cx
  obtain ⟨hn10, hn, g0, g1, g2, hag⟩ := hc.get
  refine hg_aload0 (pc' := 1) cx dX5_set_0 rfl ?_
  refine gf_X5_10 (pc' := 4) cx dX5_set_1 rfl ?_
  refine hg_iload1 (pc' := 5) cx dX5_set_4 rfl ?_
  refine cv_X5_90 (pc' := 8) cx (by first | assumption | omega | decide) (by first | assumption | omega | decide) (K_X3_has l E _ 1 (by decide) (by decide) (S.1 0).2 hn10 hn _) ⟨rfl, rfl, Nat.le_of_ble_eq_true rfl, Nat.le_of_ble_eq_true rfl⟩ (Nat.le_of_ble_eq_true rfl) dX5_set_5 rfl (fun r_5 τ_5 h_5 => ?_)
  obtain ⟨rfl, rfl⟩ := h_5
  refine hg_if_eq (pc' := 11) cx 32 dX5_set_8 (by decide) rfl (fun c_8 => ?_) (fun c_8 => ?_)
  ·
    refine hg_aload0 (pc' := 33) cx dX5_set_32 rfl ?_
    refine hg_ldc (pc' := 35) cx kc_X5_44 dX5_set_33 rfl ?_
    refine cv_X5_45 (pc' := 38) cx (K_X5_finding l E _ (-1000000001) 0 (by decide) (by decide)) ⟨rfl, rfl, Nat.le_of_ble_eq_true rfl, Nat.le_of_ble_eq_true rfl⟩ (Nat.le_of_ble_eq_true rfl) dX5_set_35 rfl (fun r_35 τ_35 h_35 => ?_)
    obtain ⟨rfl, rfl⟩ := h_35
    refine hg_iret cx dX5_set_38 ⟨_, rfl, ?_⟩
    simp only [op_set, sp_hz, c_8, not_true_eq_false, not_false_eq_true, true_or, or_true, false_or, or_false, or_self, if_true, if_false, and_self]
    exact hc.find (by decide) (by decide)
  ·
    refine hg_iload2 (pc' := 12) cx dX5_set_11 rfl ?_
    refine hg_iconst (pc' := 13) cx 1 dX5_set_12 (by decide) rfl ?_
    refine hg_iconst (pc' := 14) cx 5 dX5_set_13 (by decide) rfl ?_
    refine cs_X5_40 (pc' := 17) cx (K_X5_outside l E _ _ _ _) ⟨rfl, rfl, Nat.le_of_ble_eq_true rfl, Nat.le_of_ble_eq_true rfl⟩ (Nat.le_of_ble_eq_true rfl) dX5_set_14 rfl (fun r_14 τ_14 h_14 => ?_)
    obtain ⟨rfl, rfl⟩ := h_14
    refine hg_if_ne (pc' := 20) cx 32 dX5_set_17 (by decide) rfl (fun c_17 => ?_) (fun c_17 => ?_)
    ·
      refine hg_aload0 (pc' := 33) cx dX5_set_32 rfl ?_
      refine hg_ldc (pc' := 35) cx kc_X5_44 dX5_set_33 rfl ?_
      refine cv_X5_45 (pc' := 38) cx (K_X5_finding l E _ (-1000000001) 0 (by decide) (by decide)) ⟨rfl, rfl, Nat.le_of_ble_eq_true rfl, Nat.le_of_ble_eq_true rfl⟩ (Nat.le_of_ble_eq_true rfl) dX5_set_35 rfl (fun r_35 τ_35 h_35 => ?_)
      obtain ⟨rfl, rfl⟩ := h_35
      refine hg_iret cx dX5_set_38 ⟨_, rfl, ?_⟩
      simp only [op_set, sp_hz, c_8, c_17, not_true_eq_false, not_false_eq_true, true_or, or_true, false_or, or_false, or_self, if_true, if_false, and_self]
      exact hc.find (by decide) (by decide)
    ·
      refine hg_iload3 (pc' := 21) cx dX5_set_20 rfl ?_
      refine hg_iconst (pc' := 22) cx 0 dX5_set_21 (by decide) rfl ?_
      refine hg_iload2 (pc' := 23) cx dX5_set_22 rfl ?_
      refine cs_X5_116 (pc' := 26) cx (K_X1_mostOf l E _ _) ⟨rfl, rfl, Nat.le_of_ble_eq_true rfl, Nat.le_of_ble_eq_true rfl⟩ (Nat.le_of_ble_eq_true rfl) dX5_set_23 rfl (fun r_23 τ_23 h_23 => ?_)
      obtain ⟨rfl, rfl⟩ := h_23
      refine cs_X5_40 (pc' := 29) cx (K_X5_outside l E _ _ _ _) ⟨rfl, rfl, Nat.le_of_ble_eq_true rfl, Nat.le_of_ble_eq_true rfl⟩ (Nat.le_of_ble_eq_true rfl) dX5_set_26 rfl (fun r_26 τ_26 h_26 => ?_)
      obtain ⟨rfl, rfl⟩ := h_26
      refine hg_if_eq (pc' := 32) cx 39 dX5_set_29 (by decide) rfl (fun c_29 => ?_) (fun c_29 => ?_)
      ·
        obtain ⟨j, hjn, rfl⟩ := sp_hz_of hn10 c_8
        have hcl : (nI j).toNatClampNeg = j := nI_clamp (by omega)
        have hj := hag j hjn
        refine hg_aload0 (pc' := 40) cx dX5_set_39 rfl ?_
        refine gf_X5_10 (pc' := 43) cx dX5_set_40 rfl ?_
        refine gf_X5_94 (pc' := 46) cx (by first | assumption | omega | decide) (by first | assumption | omega | decide) dX5_set_43 rfl ?_
        refine hg_iload1 (pc' := 47) cx dX5_set_46 rfl ?_
        refine hg_seat (t := 1) cx (by decide) (by decide) (by omega) dX5_set_47 rfl ?_
        refine hg_astore4 (pc' := 50) cx rfl dX5_set_48 rfl ?_
        refine hg_aload4 (pc' := 52) cx dX5_set_50 rfl ?_
        refine hg_iload2 (pc' := 53) cx dX5_set_52 rfl ?_
        refine cv_X5_109 (pc' := 56) cx (by first | assumption | omega | decide) (by first | assumption | omega | decide) (K_X1_trait l E _ _ (by first | assumption | omega | decide) (by first | assumption | omega | decide) _) ⟨rfl, rfl, Nat.le_of_ble_eq_true rfl, Nat.le_of_ble_eq_true rfl⟩ (Nat.le_of_ble_eq_true rfl) dX5_set_53 rfl (fun r_53 τ_53 h_53 => ?_)
        obtain ⟨rfl, rfl⟩ := h_53
        refine hg_istore5 (pc' := 58) cx rfl dX5_set_56 rfl ?_
        refine hg_aload4 (pc' := 60) cx dX5_set_58 rfl ?_
        refine hg_iload2 (pc' := 61) cx dX5_set_60 rfl ?_
        refine hg_iload3 (pc' := 62) cx dX5_set_61 rfl ?_
        refine cv_X5_119 (pc' := 65) cx (by first | assumption | omega | decide) (by first | assumption | omega | decide) (K_X1_put l E _ _ (by first | assumption | omega | decide) (by first | assumption | omega | decide) _ _) ⟨rfl, rfl, Nat.le_of_ble_eq_true rfl, Nat.le_of_ble_eq_true rfl⟩ (Nat.le_of_ble_eq_true rfl) dX5_set_62 rfl (fun τ_62 h_62 => ?_)
        obtain rfl := h_62
        refine hg_iload5 (pc' := 67) cx dX5_set_65 rfl ?_
        refine hg_iret cx dX5_set_67 ⟨_, rfl, ?_⟩
        simp only [op_set, sp_hz, c_8, c_17, c_29, not_true_eq_false, not_false_eq_true, true_or, or_true, false_or, or_false, or_self, if_true, if_false, and_self, hcl]
        obtain ⟨hA, hB⟩ := hc.1.setH hjn (hj.put w v)
        exact ⟨by rw [hj.trait], hc.setC _ _ hB hA⟩
      ·
        refine hg_aload0 (pc' := 33) cx dX5_set_32 rfl ?_
        refine hg_ldc (pc' := 35) cx kc_X5_44 dX5_set_33 rfl ?_
        refine cv_X5_45 (pc' := 38) cx (K_X5_finding l E _ (-1000000001) 0 (by decide) (by decide)) ⟨rfl, rfl, Nat.le_of_ble_eq_true rfl, Nat.le_of_ble_eq_true rfl⟩ (Nat.le_of_ble_eq_true rfl) dX5_set_35 rfl (fun r_35 τ_35 h_35 => ?_)
        obtain ⟨rfl, rfl⟩ := h_35
        refine hg_iret cx dX5_set_38 ⟨_, rfl, ?_⟩
        simp only [op_set, sp_hz, c_8, c_17, c_29, not_true_eq_false, not_false_eq_true, true_or, or_true, false_or, or_false, or_self, if_true, if_false, and_self]
        exact hc.find (by decide) (by decide)
set_option maxHeartbeats 4000000 in
set_option maxRecDepth 100000 in
theorem K_X5_turn (l : Launch) (E : hg_Wd) (σ : hg_Mem) (S : sp_S) (hc : cw_C σ S) (x : Int32) (k : Int32) : hg_C l E yX5_turn cX5_turn 4 (some .int) { frames := 2, cells := 0, slots := 0, locals := 44 } [.ref (hg_ad E 0), .int x, .int k] σ (hg_pi (fun r τ => cw_P σ (op_turn S x k) r τ)) := by
  refine hg_intro (by decide) [some (.ref (hg_ad E 0)), some (.int x), some (.int k), none] rfl (Nat.le_of_ble_eq_true rfl) ?_
  intro p e s m args below meth c cx
  have cx : hg_Cx E p s m args meth c cX5_turn 4 RX5 (some .int) := cx
  obtain ⟨hn10, hn, g0, g1, g2, hag⟩ := hc.get
  refine hg_aload0 (pc' := 1) cx dX5_turn_0 rfl ?_
  refine gf_X5_10 (pc' := 4) cx dX5_turn_1 rfl ?_
  refine hg_iload1 (pc' := 5) cx dX5_turn_4 rfl ?_
  refine cv_X5_90 (pc' := 8) cx (by first | assumption | omega | decide) (by first | assumption | omega | decide) (K_X3_has l E _ 1 (by decide) (by decide) (S.1 0).2 hn10 hn _) ⟨rfl, rfl, Nat.le_of_ble_eq_true rfl, Nat.le_of_ble_eq_true rfl⟩ (Nat.le_of_ble_eq_true rfl) dX5_turn_5 rfl (fun r_5 τ_5 h_5 => ?_)
  obtain ⟨rfl, rfl⟩ := h_5
  refine hg_if_eq (pc' := 11) cx 20 dX5_turn_8 (by decide) rfl (fun c_8 => ?_) (fun c_8 => ?_)
  ·
    refine hg_aload0 (pc' := 21) cx dX5_turn_20 rfl ?_
    refine hg_ldc (pc' := 23) cx kc_X5_44 dX5_turn_21 rfl ?_
    refine cv_X5_45 (pc' := 26) cx (K_X5_finding l E _ (-1000000001) 0 (by decide) (by decide)) ⟨rfl, rfl, Nat.le_of_ble_eq_true rfl, Nat.le_of_ble_eq_true rfl⟩ (Nat.le_of_ble_eq_true rfl) dX5_turn_23 rfl (fun r_23 τ_23 h_23 => ?_)
    obtain ⟨rfl, rfl⟩ := h_23
    refine hg_iret cx dX5_turn_26 ⟨_, rfl, ?_⟩
    simp only [op_turn, sp_hz, c_8, not_true_eq_false, not_false_eq_true, true_or, or_true, false_or, or_false, or_self, if_true, if_false, and_self]
    exact hc.find (by decide) (by decide)
  ·
    refine hg_iload2 (pc' := 12) cx dX5_turn_11 rfl ?_
    refine hg_iconst (pc' := 13) cx 0 dX5_turn_12 (by decide) rfl ?_
    refine hg_iconst (pc' := 14) cx 5 dX5_turn_13 (by decide) rfl ?_
    refine cs_X5_40 (pc' := 17) cx (K_X5_outside l E _ _ _ _) ⟨rfl, rfl, Nat.le_of_ble_eq_true rfl, Nat.le_of_ble_eq_true rfl⟩ (Nat.le_of_ble_eq_true rfl) dX5_turn_14 rfl (fun r_14 τ_14 h_14 => ?_)
    obtain ⟨rfl, rfl⟩ := h_14
    refine hg_if_eq (pc' := 20) cx 27 dX5_turn_17 (by decide) rfl (fun c_17 => ?_) (fun c_17 => ?_)
    ·
      obtain ⟨j, hjn, rfl⟩ := sp_hz_of hn10 c_8
      have hcl : (nI j).toNatClampNeg = j := nI_clamp (by omega)
      have hj := hag j hjn
      refine hg_aload0 (pc' := 28) cx dX5_turn_27 rfl ?_
      refine gf_X5_10 (pc' := 31) cx dX5_turn_28 rfl ?_
      refine gf_X5_94 (pc' := 34) cx (by first | assumption | omega | decide) (by first | assumption | omega | decide) dX5_turn_31 rfl ?_
      refine hg_iload1 (pc' := 35) cx dX5_turn_34 rfl ?_
      refine hg_seat (t := 1) cx (by decide) (by decide) (by omega) dX5_turn_35 rfl ?_
      refine gf_X5_122 (pc' := 39) cx (by first | assumption | omega | decide) (by first | assumption | omega | decide) dX5_turn_36 rfl ?_
      refine hg_istore3 (pc' := 40) cx rfl dX5_turn_39 rfl ?_
      refine hg_aload0 (pc' := 41) cx dX5_turn_40 rfl ?_
      refine gf_X5_10 (pc' := 44) cx dX5_turn_41 rfl ?_
      refine gf_X5_94 (pc' := 47) cx (by first | assumption | omega | decide) (by first | assumption | omega | decide) dX5_turn_44 rfl ?_
      refine hg_iload1 (pc' := 48) cx dX5_turn_47 rfl ?_
      refine hg_seat (t := 1) cx (by decide) (by decide) (by omega) dX5_turn_48 rfl ?_
      refine hg_iload2 (pc' := 50) cx dX5_turn_49 rfl ?_
      refine pf_X5_122 (pc' := 53) cx (by first | assumption | omega | decide) (by first | assumption | omega | decide) dX5_turn_50 rfl ?_
      refine hg_iload3 (pc' := 54) cx dX5_turn_53 rfl ?_
      refine hg_iret cx dX5_turn_54 ⟨_, rfl, ?_⟩
      simp only [op_turn, sp_hz, c_8, c_17, not_true_eq_false, not_false_eq_true, true_or, or_true, false_or, or_false, or_self, if_true, if_false, and_self, hcl]
      rw [hg_sI_eq]
      obtain ⟨hA, hB⟩ := hc.1.setH hjn (hj.up 0 (rfl : k = k))
      exact ⟨hj 0 (by decide), hc.setC _ _ hB hA⟩
    ·
      refine hg_aload0 (pc' := 21) cx dX5_turn_20 rfl ?_
      refine hg_ldc (pc' := 23) cx kc_X5_44 dX5_turn_21 rfl ?_
      refine cv_X5_45 (pc' := 26) cx (K_X5_finding l E _ (-1000000001) 0 (by decide) (by decide)) ⟨rfl, rfl, Nat.le_of_ble_eq_true rfl, Nat.le_of_ble_eq_true rfl⟩ (Nat.le_of_ble_eq_true rfl) dX5_turn_23 rfl (fun r_23 τ_23 h_23 => ?_)
      obtain ⟨rfl, rfl⟩ := h_23
      refine hg_iret cx dX5_turn_26 ⟨_, rfl, ?_⟩
      simp only [op_turn, sp_hz, c_8, c_17, not_true_eq_false, not_false_eq_true, true_or, or_true, false_or, or_false, or_self, if_true, if_false, and_self]
      exact hc.find (by decide) (by decide)
set_option maxHeartbeats 4000000 in
set_option maxRecDepth 100000 in
theorem K_X5_as (l : Launch) (E : hg_Wd) (σ : hg_Mem) (S : sp_S) (hc : cw_C σ S) (x : Int32) (k : Int32) : hg_C l E yX5_as cX5_as 4 (some .int) { frames := 2, cells := 0, slots := 0, locals := 44 } [.ref (hg_ad E 0), .int x, .int k] σ (hg_pi (fun r τ => cw_P σ (op_as S x k) r τ)) := by
  refine hg_intro (by decide) [some (.ref (hg_ad E 0)), some (.int x), some (.int k), none] rfl (Nat.le_of_ble_eq_true rfl) ?_
  intro p e s m args below meth c cx
  have cx : hg_Cx E p s m args meth c cX5_as 4 RX5 (some .int) := cx
  obtain ⟨hn10, hn, g0, g1, g2, hag⟩ := hc.get
  refine hg_aload0 (pc' := 1) cx dX5_as_0 rfl ?_
  refine gf_X5_10 (pc' := 4) cx dX5_as_1 rfl ?_
  refine hg_iload1 (pc' := 5) cx dX5_as_4 rfl ?_
  refine cv_X5_90 (pc' := 8) cx (by first | assumption | omega | decide) (by first | assumption | omega | decide) (K_X3_has l E _ 1 (by decide) (by decide) (S.1 0).2 hn10 hn _) ⟨rfl, rfl, Nat.le_of_ble_eq_true rfl, Nat.le_of_ble_eq_true rfl⟩ (Nat.le_of_ble_eq_true rfl) dX5_as_5 rfl (fun r_5 τ_5 h_5 => ?_)
  obtain ⟨rfl, rfl⟩ := h_5
  refine hg_if_eq (pc' := 11) cx 20 dX5_as_8 (by decide) rfl (fun c_8 => ?_) (fun c_8 => ?_)
  ·
    refine hg_aload0 (pc' := 21) cx dX5_as_20 rfl ?_
    refine hg_ldc (pc' := 23) cx kc_X5_44 dX5_as_21 rfl ?_
    refine cv_X5_45 (pc' := 26) cx (K_X5_finding l E _ (-1000000001) 0 (by decide) (by decide)) ⟨rfl, rfl, Nat.le_of_ble_eq_true rfl, Nat.le_of_ble_eq_true rfl⟩ (Nat.le_of_ble_eq_true rfl) dX5_as_23 rfl (fun r_23 τ_23 h_23 => ?_)
    obtain ⟨rfl, rfl⟩ := h_23
    refine hg_iret cx dX5_as_26 ⟨_, rfl, ?_⟩
    simp only [op_as, sp_hz, c_8, not_true_eq_false, not_false_eq_true, true_or, or_true, false_or, or_false, or_self, if_true, if_false, and_self]
    exact hc.find (by decide) (by decide)
  ·
    refine hg_iload2 (pc' := 12) cx dX5_as_11 rfl ?_
    refine hg_iconst (pc' := 13) cx 0 dX5_as_12 (by decide) rfl ?_
    refine hg_iconst (pc' := 14) cx 5 dX5_as_13 (by decide) rfl ?_
    refine cs_X5_40 (pc' := 17) cx (K_X5_outside l E _ _ _ _) ⟨rfl, rfl, Nat.le_of_ble_eq_true rfl, Nat.le_of_ble_eq_true rfl⟩ (Nat.le_of_ble_eq_true rfl) dX5_as_14 rfl (fun r_14 τ_14 h_14 => ?_)
    obtain ⟨rfl, rfl⟩ := h_14
    refine hg_if_eq (pc' := 20) cx 27 dX5_as_17 (by decide) rfl (fun c_17 => ?_) (fun c_17 => ?_)
    ·
      obtain ⟨j, hjn, rfl⟩ := sp_hz_of hn10 c_8
      have hcl : (nI j).toNatClampNeg = j := nI_clamp (by omega)
      have hj := hag j hjn
      refine hg_aload0 (pc' := 28) cx dX5_as_27 rfl ?_
      refine gf_X5_10 (pc' := 31) cx dX5_as_28 rfl ?_
      refine gf_X5_94 (pc' := 34) cx (by first | assumption | omega | decide) (by first | assumption | omega | decide) dX5_as_31 rfl ?_
      refine hg_iload1 (pc' := 35) cx dX5_as_34 rfl ?_
      refine hg_seat (t := 1) cx (by decide) (by decide) (by omega) dX5_as_35 rfl ?_
      refine hg_astore3 (pc' := 37) cx rfl dX5_as_36 rfl ?_
      refine hg_aload3 (pc' := 38) cx dX5_as_37 rfl ?_
      refine hg_iload2 (pc' := 39) cx dX5_as_38 rfl ?_
      refine cv_X5_125 (pc' := 42) cx (by first | assumption | omega | decide) (by first | assumption | omega | decide) (K_X1_isOfKind l E _ _ (by first | assumption | omega | decide) (by first | assumption | omega | decide) _) ⟨rfl, rfl, Nat.le_of_ble_eq_true rfl, Nat.le_of_ble_eq_true rfl⟩ (Nat.le_of_ble_eq_true rfl) dX5_as_39 rfl (fun r_39 τ_39 h_39 => ?_)
      obtain ⟨rfl, rfl⟩ := h_39
      refine hg_if_eq (pc' := 45) cx 52 dX5_as_42 (by decide) rfl (fun c_42 => ?_) (fun c_42 => ?_)
      ·
        refine hg_aload0 (pc' := 53) cx dX5_as_52 rfl ?_
        refine hg_ldc (pc' := 55) cx kc_X5_131 dX5_as_53 rfl ?_
        refine cv_X5_45 (pc' := 58) cx (K_X5_finding l E _ (-1000000003) 2 (by decide) (by decide)) ⟨rfl, rfl, Nat.le_of_ble_eq_true rfl, Nat.le_of_ble_eq_true rfl⟩ (Nat.le_of_ble_eq_true rfl) dX5_as_55 rfl (fun r_55 τ_55 h_55 => ?_)
        obtain ⟨rfl, rfl⟩ := h_55
        refine hg_iret cx dX5_as_58 ⟨_, rfl, ?_⟩
        rw [hj.isKind] at c_42
        first | (have c9 : sp_isKind ((S.1 0).1.2 j) k = 0 := c_42; simp only [op_as, sp_hz, c_8, c_17, c_42, hcl, not_true_eq_false, or_self, if_true, if_false]; exact hc.find (by decide) (by decide)) | (simp only [op_as, sp_hz, c_8, c_17, c_42, hcl, not_true_eq_false, or_self, if_true, if_false]; exact ⟨hj 1 (by decide), hc, cw_Fr.rf _⟩)
      ·
        refine hg_aload3 (pc' := 46) cx dX5_as_45 rfl ?_
        refine gf_X5_128 (pc' := 49) cx (by first | assumption | omega | decide) (by first | assumption | omega | decide) dX5_as_46 rfl ?_
        refine hg_goto cx 58 dX5_as_49 (by decide) ?_
        refine hg_iret cx dX5_as_58 ⟨_, rfl, ?_⟩
        rw [hj.isKind] at c_42
        first | (have c9 : sp_isKind ((S.1 0).1.2 j) k = 0 := c_42; simp only [op_as, sp_hz, c_8, c_17, c_42, hcl, not_true_eq_false, or_self, if_true, if_false]; exact hc.find (by decide) (by decide)) | (simp only [op_as, sp_hz, c_8, c_17, c_42, hcl, not_true_eq_false, or_self, if_true, if_false]; exact ⟨hj 1 (by decide), hc, cw_Fr.rf _⟩)
    ·
      refine hg_aload0 (pc' := 21) cx dX5_as_20 rfl ?_
      refine hg_ldc (pc' := 23) cx kc_X5_44 dX5_as_21 rfl ?_
      refine cv_X5_45 (pc' := 26) cx (K_X5_finding l E _ (-1000000001) 0 (by decide) (by decide)) ⟨rfl, rfl, Nat.le_of_ble_eq_true rfl, Nat.le_of_ble_eq_true rfl⟩ (Nat.le_of_ble_eq_true rfl) dX5_as_23 rfl (fun r_23 τ_23 h_23 => ?_)
      obtain ⟨rfl, rfl⟩ := h_23
      refine hg_iret cx dX5_as_26 ⟨_, rfl, ?_⟩
      simp only [op_as, sp_hz, c_8, c_17, not_true_eq_false, not_false_eq_true, true_or, or_true, false_or, or_false, or_self, if_true, if_false, and_self]
      exact hc.find (by decide) (by decide)
set_option maxHeartbeats 4000000 in
set_option maxRecDepth 100000 in
theorem K_X5_lookAhead (l : Launch) (E : hg_Wd) (σ : hg_Mem) (C : sp_C) (n : Nat) (hR : sp_Rep σ 1 C n) (N : Nat) (hN : N ≤ 1000) : hg_C l E yX5_lookAhead cX5_lookAhead 2 none { frames := 5, cells := 0, slots := 0, locals := 112 } [.ref (hg_ad E 0), .int (nI N)] σ (hg_pv (fun τ => sp_Rep τ 2 (sp_go C n N) n ∧ sp_Fr σ τ 2)) := by
  refine hg_intro (by decide) [some (.ref (hg_ad E 0)), some (.int (nI N))] rfl (Nat.le_of_ble_eq_true rfl) ?_
  intro p e s m args below meth c cx
  have cx : hg_Cx E p s m args meth c cX5_lookAhead 2 RX5 none := cx
  have hn10 := hR.1
  have hn : σ.1 1 3 = nI n := (hR.2.2.1 3 (by decide)).trans hR.2.1
  refine hg_aload0 (pc' := 1) cx dX5_lookAhead_0 rfl ?_
  refine gf_X5_16 (pc' := 4) cx dX5_lookAhead_1 rfl ?_
  refine hg_aload0 (pc' := 5) cx dX5_lookAhead_4 rfl ?_
  refine gf_X5_10 (pc' := 8) cx dX5_lookAhead_5 rfl ?_
  refine cv_X5_141 (pc' := 11) cx (by first | assumption | omega | decide) (by first | assumption | omega | decide) (K_X3_become l E _ 2 (by decide) (by decide) 1 (by decide) (by decide) (by decide) n hn10 hn) ⟨rfl, rfl, Nat.le_of_ble_eq_true rfl, Nat.le_of_ble_eq_true rfl⟩ (Nat.le_of_ble_eq_true rfl) dX5_lookAhead_8 rfl (fun τ_8 h_8 => ?_)
  obtain ⟨hF, h4, hA⟩ := h_8
  have hR2 := hR.bec h4 hA
  have hn2 : τ_8.1 2 3 = nI n := (hR2.2.2.1 3 (by decide)).trans hR2.2.1
  refine hg_aload0 (pc' := 12) cx dX5_lookAhead_11 rfl ?_
  refine gf_X5_16 (pc' := 15) cx dX5_lookAhead_12 rfl ?_
  refine hg_iload1 (pc' := 16) cx dX5_lookAhead_15 rfl ?_
  refine cv_X5_134 (pc' := 19) cx (by first | assumption | omega | decide) (by first | assumption | omega | decide) (K_X3_go l E _ 2 (by decide) (by decide) n hn10 hn2 N hN C hR2) ⟨rfl, rfl, Nat.le_of_ble_eq_true rfl, Nat.le_of_ble_eq_true rfl⟩ (Nat.le_of_ble_eq_true rfl) dX5_lookAhead_16 rfl (fun τ_16 h_16 => ?_)
  skip
  refine hg_vret cx dX5_lookAhead_19 ⟨rfl, ?_⟩
  exact ⟨h_16.1, hF.tr h_16.2⟩
set_option maxHeartbeats 4000000 in
set_option maxRecDepth 100000 in
theorem K_X5_sessions (l : Launch) (E : hg_Wd) (σ : hg_Mem) (S : sp_S) (hc : cw_C σ S) (N : Int32) : hg_C l E yX5_sessions cX5_sessions 2 (some .int) { frames := 5, cells := 0, slots := 0, locals := 112 } [.ref (hg_ad E 0), .int N] σ (hg_pi (fun r τ => cw_P σ (op_sessions S N) r τ)) := by
  refine hg_intro (by decide) [some (.ref (hg_ad E 0)), some (.int N)] rfl (Nat.le_of_ble_eq_true rfl) ?_
  intro p e s m args below meth c cx
  have cx : hg_Cx E p s m args meth c cX5_sessions 2 RX5 (some .int) := cx
  obtain ⟨hn10, hn, g0, g1, g2, hag⟩ := hc.get
  refine hg_iload1 (pc' := 1) cx dX5_sessions_0 rfl ?_
  refine hg_iconst (pc' := 2) cx 1 dX5_sessions_1 (by decide) rfl ?_
  refine hg_bipush (pc' := 4) cx 100 dX5_sessions_2 (by decide) rfl ?_
  refine cs_X5_40 (pc' := 7) cx (K_X5_outside l E _ _ _ _) ⟨rfl, rfl, Nat.le_of_ble_eq_true rfl, Nat.le_of_ble_eq_true rfl⟩ (Nat.le_of_ble_eq_true rfl) dX5_sessions_4 rfl (fun r_4 τ_4 h_4 => ?_)
  obtain ⟨rfl, rfl⟩ := h_4
  refine hg_if_eq (pc' := 10) cx 17 dX5_sessions_7 (by decide) rfl (fun c_7 => ?_) (fun c_7 => ?_)
  ·
    obtain ⟨a, ha1, ha2, rfl⟩ := sp_out_of 1 100 (by decide) (by decide) (by decide) (by decide) c_7
    have hca : (nI a).toNatClampNeg = a := nI_clamp (by omega)
    refine hg_aload0 (pc' := 18) cx dX5_sessions_17 rfl ?_
    refine gf_X5_10 (pc' := 21) cx dX5_sessions_18 rfl ?_
    refine gf_X5_56 (pc' := 24) cx (by first | assumption | omega | decide) (by first | assumption | omega | decide) dX5_sessions_21 rfl ?_
    refine hg_ldc (pc' := 26) cx kc_X5_132 dX5_sessions_24 rfl ?_
    refine hg_iload1 (pc' := 27) cx dX5_sessions_26 rfl ?_
    refine hg_isub (pc' := 28) cx dX5_sessions_27 rfl ?_
    refine hg_icmp_le (pc' := 31) cx 38 dX5_sessions_28 (by decide) rfl (fun c_28 => ?_) (fun c_28 => ?_)
    ·
      refine hg_aload0 (pc' := 39) cx dX5_sessions_38 rfl ?_
      refine gf_X5_10 (pc' := 42) cx dX5_sessions_39 rfl ?_
      refine hg_iload1 (pc' := 43) cx dX5_sessions_42 rfl ?_
      refine cv_X5_134 (pc' := 46) cx (by first | assumption | omega | decide) (by first | assumption | omega | decide) (K_X3_go l E _ 1 (by decide) (by decide) (S.1 0).2 hn10 hn a (by omega) (S.1 0).1 hc.1) ⟨rfl, rfl, Nat.le_of_ble_eq_true rfl, Nat.le_of_ble_eq_true rfl⟩ (Nat.le_of_ble_eq_true rfl) dX5_sessions_43 rfl (fun τ_43 h_43 => ?_)
      skip
      refine hg_aload0 (pc' := 47) cx dX5_sessions_46 rfl ?_
      refine gf_X5_10 (pc' := 50) cx dX5_sessions_47 rfl ?_
      refine gf_X5_53 (pc' := 53) cx (by first | assumption | omega | decide) (by first | assumption | omega | decide) dX5_sessions_50 rfl ?_
      refine hg_iret cx dX5_sessions_53 ⟨_, rfl, ?_⟩
      simp only [op_sessions, c_7, c_28, ← g0, hca, not_true_eq_false, if_true, if_false]
      rw [h_43.1.2.2.1 2 (by decide)]
      exact ⟨rfl, hc.setC _ _ h_43.2 h_43.1⟩
    ·
      refine hg_aload0 (pc' := 32) cx dX5_sessions_31 rfl ?_
      refine hg_ldc (pc' := 34) cx kc_X5_133 dX5_sessions_32 rfl ?_
      refine cv_X5_45 (pc' := 37) cx (K_X5_finding l E _ (-1000000005) 4 (by decide) (by decide)) ⟨rfl, rfl, Nat.le_of_ble_eq_true rfl, Nat.le_of_ble_eq_true rfl⟩ (Nat.le_of_ble_eq_true rfl) dX5_sessions_34 rfl (fun r_34 τ_34 h_34 => ?_)
      obtain ⟨rfl, rfl⟩ := h_34
      refine hg_iret cx dX5_sessions_37 ⟨_, rfl, ?_⟩
      simp only [op_sessions, c_7, c_28, ← g0, not_true_eq_false, not_false_eq_true, true_or, or_true, false_or, or_false, or_self, if_true, if_false, and_self]
      exact hc.find (by decide) (by decide)
  ·
    refine hg_aload0 (pc' := 11) cx dX5_sessions_10 rfl ?_
    refine hg_ldc (pc' := 13) cx kc_X5_44 dX5_sessions_11 rfl ?_
    refine cv_X5_45 (pc' := 16) cx (K_X5_finding l E _ (-1000000001) 0 (by decide) (by decide)) ⟨rfl, rfl, Nat.le_of_ble_eq_true rfl, Nat.le_of_ble_eq_true rfl⟩ (Nat.le_of_ble_eq_true rfl) dX5_sessions_13 rfl (fun r_13 τ_13 h_13 => ?_)
    obtain ⟨rfl, rfl⟩ := h_13
    refine hg_iret cx dX5_sessions_16 ⟨_, rfl, ?_⟩
    simp only [op_sessions, c_7, not_true_eq_false, not_false_eq_true, true_or, or_true, false_or, or_false, or_self, if_true, if_false, and_self]
    exact hc.find (by decide) (by decide)
set_option maxHeartbeats 4000000 in
set_option maxRecDepth 100000 in
theorem K_X5_on (l : Launch) (E : hg_Wd) (σ : hg_Mem) (S : sp_S) (hc : cw_C σ S) (x : Int32) (N : Int32) (w : Int32) : hg_C l E yX5_on cX5_on 4 (some .int) { frames := 6, cells := 0, slots := 0, locals := 133 } [.ref (hg_ad E 0), .int x, .int N, .int w] σ (hg_pi (fun r τ => cw_P σ (op_on S x N w) r τ)) := by
  refine hg_intro (by decide) [some (.ref (hg_ad E 0)), some (.int x), some (.int N), some (.int w)] rfl (Nat.le_of_ble_eq_true rfl) ?_
  intro p e s m args below meth c cx
  have cx : hg_Cx E p s m args meth c cX5_on 4 RX5 (some .int) := cx
  obtain ⟨hn10, hn, g0, g1, g2, hag⟩ := hc.get
  refine hg_aload0 (pc' := 1) cx dX5_on_0 rfl ?_
  refine gf_X5_10 (pc' := 4) cx dX5_on_1 rfl ?_
  refine hg_iload1 (pc' := 5) cx dX5_on_4 rfl ?_
  refine cv_X5_90 (pc' := 8) cx (by first | assumption | omega | decide) (by first | assumption | omega | decide) (K_X3_has l E _ 1 (by decide) (by decide) (S.1 0).2 hn10 hn _) ⟨rfl, rfl, Nat.le_of_ble_eq_true rfl, Nat.le_of_ble_eq_true rfl⟩ (Nat.le_of_ble_eq_true rfl) dX5_on_5 rfl (fun r_5 τ_5 h_5 => ?_)
  obtain ⟨rfl, rfl⟩ := h_5
  refine hg_if_eq (pc' := 11) cx 31 dX5_on_8 (by decide) rfl (fun c_8 => ?_) (fun c_8 => ?_)
  ·
    refine hg_aload0 (pc' := 32) cx dX5_on_31 rfl ?_
    refine hg_ldc (pc' := 34) cx kc_X5_44 dX5_on_32 rfl ?_
    refine cv_X5_45 (pc' := 37) cx (K_X5_finding l E _ (-1000000001) 0 (by decide) (by decide)) ⟨rfl, rfl, Nat.le_of_ble_eq_true rfl, Nat.le_of_ble_eq_true rfl⟩ (Nat.le_of_ble_eq_true rfl) dX5_on_34 rfl (fun r_34 τ_34 h_34 => ?_)
    obtain ⟨rfl, rfl⟩ := h_34
    refine hg_iret cx dX5_on_37 ⟨_, rfl, ?_⟩
    simp only [op_on, sp_hz, c_8, not_true_eq_false, not_false_eq_true, true_or, or_true, false_or, or_false, or_self, if_true, if_false, and_self]
    exact hc.find (by decide) (by decide)
  ·
    refine hg_iload2 (pc' := 12) cx dX5_on_11 rfl ?_
    refine hg_iconst (pc' := 13) cx 0 dX5_on_12 (by decide) rfl ?_
    refine hg_sipush (pc' := 16) cx 200 dX5_on_13 (by decide) rfl ?_
    refine cs_X5_40 (pc' := 19) cx (K_X5_outside l E _ _ _ _) ⟨rfl, rfl, Nat.le_of_ble_eq_true rfl, Nat.le_of_ble_eq_true rfl⟩ (Nat.le_of_ble_eq_true rfl) dX5_on_16 rfl (fun r_16 τ_16 h_16 => ?_)
    obtain ⟨rfl, rfl⟩ := h_16
    refine hg_if_ne (pc' := 22) cx 31 dX5_on_19 (by decide) rfl (fun c_19 => ?_) (fun c_19 => ?_)
    ·
      refine hg_aload0 (pc' := 32) cx dX5_on_31 rfl ?_
      refine hg_ldc (pc' := 34) cx kc_X5_44 dX5_on_32 rfl ?_
      refine cv_X5_45 (pc' := 37) cx (K_X5_finding l E _ (-1000000001) 0 (by decide) (by decide)) ⟨rfl, rfl, Nat.le_of_ble_eq_true rfl, Nat.le_of_ble_eq_true rfl⟩ (Nat.le_of_ble_eq_true rfl) dX5_on_34 rfl (fun r_34 τ_34 h_34 => ?_)
      obtain ⟨rfl, rfl⟩ := h_34
      refine hg_iret cx dX5_on_37 ⟨_, rfl, ?_⟩
      simp only [op_on, sp_hz, c_8, c_19, not_true_eq_false, not_false_eq_true, true_or, or_true, false_or, or_false, or_self, if_true, if_false, and_self]
      exact hc.find (by decide) (by decide)
    ·
      refine hg_iload3 (pc' := 23) cx dX5_on_22 rfl ?_
      refine hg_iconst (pc' := 24) cx 0 dX5_on_23 (by decide) rfl ?_
      refine hg_iconst (pc' := 25) cx 3 dX5_on_24 (by decide) rfl ?_
      refine cs_X5_40 (pc' := 28) cx (K_X5_outside l E _ _ _ _) ⟨rfl, rfl, Nat.le_of_ble_eq_true rfl, Nat.le_of_ble_eq_true rfl⟩ (Nat.le_of_ble_eq_true rfl) dX5_on_25 rfl (fun r_25 τ_25 h_25 => ?_)
      obtain ⟨rfl, rfl⟩ := h_25
      refine hg_if_eq (pc' := 31) cx 38 dX5_on_28 (by decide) rfl (fun c_28 => ?_) (fun c_28 => ?_)
      ·
        obtain ⟨j, hjn, rfl⟩ := sp_hz_of hn10 c_8
        have hcl : (nI j).toNatClampNeg = j := nI_clamp (by omega)
        have hj := hag j hjn
        obtain ⟨a, ha1, ha2, rfl⟩ := sp_out_of 0 200 (by decide) (by decide) (by decide) (by decide) c_19
        have hca : (nI a).toNatClampNeg = a := nI_clamp (by omega)
        refine hg_aload0 (pc' := 39) cx dX5_on_38 rfl ?_
        refine hg_iload2 (pc' := 40) cx dX5_on_39 rfl ?_
        refine cv_X5_138 (pc' := 43) cx (K_X5_lookAhead l E _ (S.1 0).1 (S.1 0).2 hc.1 a (by omega)) ⟨rfl, rfl, Nat.le_of_ble_eq_true rfl, Nat.le_of_ble_eq_true rfl⟩ (Nat.le_of_ble_eq_true rfl) dX5_on_40 rfl (fun τ_40 h_40 => ?_)
        skip
        refine hg_aload0 (pc' := 44) cx dX5_on_43 rfl ?_
        refine gf_X5_16 (pc' := 47) cx dX5_on_44 rfl ?_
        refine gf_X5_94 (pc' := 50) cx (by first | assumption | omega | decide) (by first | assumption | omega | decide) dX5_on_47 rfl ?_
        refine hg_iload1 (pc' := 51) cx dX5_on_50 rfl ?_
        refine hg_seat (t := 2) cx (by decide) (by decide) (by omega) dX5_on_51 rfl ?_
        refine hg_iconst (pc' := 53) cx 1 dX5_on_52 (by decide) rfl ?_
        refine hg_iload3 (pc' := 54) cx dX5_on_53 rfl ?_
        refine hg_iadd (pc' := 55) cx dX5_on_54 rfl ?_
        refine cv_X5_109 (pc' := 58) cx (by first | assumption | omega | decide) (by first | assumption | omega | decide) (K_X1_trait l E _ _ (by first | assumption | omega | decide) (by first | assumption | omega | decide) _) ⟨rfl, rfl, Nat.le_of_ble_eq_true rfl, Nat.le_of_ble_eq_true rfl⟩ (Nat.le_of_ble_eq_true rfl) dX5_on_55 rfl (fun r_55 τ_55 h_55 => ?_)
        obtain ⟨rfl, rfl⟩ := h_55
        refine hg_iret cx dX5_on_58 ⟨_, rfl, ?_⟩
        simp only [op_on, sp_hz, c_8, c_19, c_28, not_true_eq_false, not_false_eq_true, true_or, or_true, false_or, or_false, or_self, if_true, if_false, and_self, hcl, hca]
        obtain ⟨q1, q2⟩ := hc.fr2 h_40.2
        exact ⟨sp_Ag.trait (fun k hk => h_40.1.2.2.2 j hjn k hk) _, q1, q2⟩
      ·
        refine hg_aload0 (pc' := 32) cx dX5_on_31 rfl ?_
        refine hg_ldc (pc' := 34) cx kc_X5_44 dX5_on_32 rfl ?_
        refine cv_X5_45 (pc' := 37) cx (K_X5_finding l E _ (-1000000001) 0 (by decide) (by decide)) ⟨rfl, rfl, Nat.le_of_ble_eq_true rfl, Nat.le_of_ble_eq_true rfl⟩ (Nat.le_of_ble_eq_true rfl) dX5_on_34 rfl (fun r_34 τ_34 h_34 => ?_)
        obtain ⟨rfl, rfl⟩ := h_34
        refine hg_iret cx dX5_on_37 ⟨_, rfl, ?_⟩
        simp only [op_on, sp_hz, c_8, c_19, c_28, not_true_eq_false, not_false_eq_true, true_or, or_true, false_or, or_false, or_self, if_true, if_false, and_self]
        exact hc.find (by decide) (by decide)
set_option maxHeartbeats 4000000 in
set_option maxRecDepth 100000 in
theorem K_X5_then (l : Launch) (E : hg_Wd) (σ : hg_Mem) (S : sp_S) (hc : cw_C σ S) (N : Int32) (w : Int32) : hg_C l E yX5_then cX5_then 3 (some .int) { frames := 6, cells := 0, slots := 0, locals := 133 } [.ref (hg_ad E 0), .int N, .int w] σ (hg_pi (fun r τ => cw_P σ (op_then S N w) r τ)) := by
  refine hg_intro (by decide) [some (.ref (hg_ad E 0)), some (.int N), some (.int w)] rfl (Nat.le_of_ble_eq_true rfl) ?_
  intro p e s m args below meth c cx
  have cx : hg_Cx E p s m args meth c cX5_then 3 RX5 (some .int) := cx
  obtain ⟨hn10, hn, g0, g1, g2, hag⟩ := hc.get
  refine hg_iload1 (pc' := 1) cx dX5_then_0 rfl ?_
  refine hg_iconst (pc' := 2) cx 0 dX5_then_1 (by decide) rfl ?_
  refine hg_sipush (pc' := 5) cx 200 dX5_then_2 (by decide) rfl ?_
  refine cs_X5_40 (pc' := 8) cx (K_X5_outside l E _ _ _ _) ⟨rfl, rfl, Nat.le_of_ble_eq_true rfl, Nat.le_of_ble_eq_true rfl⟩ (Nat.le_of_ble_eq_true rfl) dX5_then_5 rfl (fun r_5 τ_5 h_5 => ?_)
  obtain ⟨rfl, rfl⟩ := h_5
  refine hg_if_ne (pc' := 11) cx 20 dX5_then_8 (by decide) rfl (fun c_8 => ?_) (fun c_8 => ?_)
  ·
    refine hg_aload0 (pc' := 21) cx dX5_then_20 rfl ?_
    refine hg_ldc (pc' := 23) cx kc_X5_44 dX5_then_21 rfl ?_
    refine cv_X5_45 (pc' := 26) cx (K_X5_finding l E _ (-1000000001) 0 (by decide) (by decide)) ⟨rfl, rfl, Nat.le_of_ble_eq_true rfl, Nat.le_of_ble_eq_true rfl⟩ (Nat.le_of_ble_eq_true rfl) dX5_then_23 rfl (fun r_23 τ_23 h_23 => ?_)
    obtain ⟨rfl, rfl⟩ := h_23
    refine hg_iret cx dX5_then_26 ⟨_, rfl, ?_⟩
    simp only [op_then, c_8, not_true_eq_false, not_false_eq_true, true_or, or_true, false_or, or_false, or_self, if_true, if_false, and_self]
    exact hc.find (by decide) (by decide)
  ·
    refine hg_iload2 (pc' := 12) cx dX5_then_11 rfl ?_
    refine hg_iconst (pc' := 13) cx 0 dX5_then_12 (by decide) rfl ?_
    refine hg_iconst (pc' := 14) cx 1 dX5_then_13 (by decide) rfl ?_
    refine cs_X5_40 (pc' := 17) cx (K_X5_outside l E _ _ _ _) ⟨rfl, rfl, Nat.le_of_ble_eq_true rfl, Nat.le_of_ble_eq_true rfl⟩ (Nat.le_of_ble_eq_true rfl) dX5_then_14 rfl (fun r_14 τ_14 h_14 => ?_)
    obtain ⟨rfl, rfl⟩ := h_14
    refine hg_if_eq (pc' := 20) cx 27 dX5_then_17 (by decide) rfl (fun c_17 => ?_) (fun c_17 => ?_)
    ·
      obtain ⟨a, ha1, ha2, rfl⟩ := sp_out_of 0 200 (by decide) (by decide) (by decide) (by decide) c_8
      have hca : (nI a).toNatClampNeg = a := nI_clamp (by omega)
      refine hg_aload0 (pc' := 28) cx dX5_then_27 rfl ?_
      refine hg_iload1 (pc' := 29) cx dX5_then_28 rfl ?_
      refine cv_X5_138 (pc' := 32) cx (K_X5_lookAhead l E _ (S.1 0).1 (S.1 0).2 hc.1 a (by omega)) ⟨rfl, rfl, Nat.le_of_ble_eq_true rfl, Nat.le_of_ble_eq_true rfl⟩ (Nat.le_of_ble_eq_true rfl) dX5_then_29 rfl (fun τ_29 h_29 => ?_)
      skip
      refine hg_iload2 (pc' := 33) cx dX5_then_32 rfl ?_
      refine hg_if_ne (pc' := 36) cx 46 dX5_then_33 (by decide) rfl (fun c_33 => ?_) (fun c_33 => ?_)
      ·
        refine hg_aload0 (pc' := 47) cx dX5_then_46 rfl ?_
        refine gf_X5_16 (pc' := 50) cx dX5_then_47 rfl ?_
        refine cv_X5_75 (pc' := 53) cx (by first | assumption | omega | decide) (by first | assumption | omega | decide) (K_X3_trueOnes l E _ _ (by first | assumption | omega | decide) (by first | assumption | omega | decide)) ⟨rfl, rfl, Nat.le_of_ble_eq_true rfl, Nat.le_of_ble_eq_true rfl⟩ (Nat.le_of_ble_eq_true rfl) dX5_then_50 rfl (fun r_50 τ_50 h_50 => ?_)
        obtain ⟨rfl, rfl⟩ := h_50
        refine hg_iret cx dX5_then_53 ⟨_, rfl, ?_⟩
        obtain ⟨q1, q2⟩ := hc.fr2 h_29.2
        first | (simp only [op_then, c_8, c_17, c_33, hca, not_true_eq_false, or_self, if_true, if_false]; exact ⟨h_29.1.2.2.1 2 (by decide), q1, q2⟩) | (simp only [op_then, c_8, c_17, c_33, hca, not_true_eq_false, or_self, if_true, if_false]; exact ⟨by rw [h_29.1.2.2.1 2 (by decide), h_29.1.2.2.1 1 (by decide)], q1, q2⟩)
      ·
        refine hg_aload0 (pc' := 37) cx dX5_then_36 rfl ?_
        refine gf_X5_16 (pc' := 40) cx dX5_then_37 rfl ?_
        refine gf_X5_53 (pc' := 43) cx (by first | assumption | omega | decide) (by first | assumption | omega | decide) dX5_then_40 rfl ?_
        refine hg_goto cx 53 dX5_then_43 (by decide) ?_
        refine hg_iret cx dX5_then_53 ⟨_, rfl, ?_⟩
        obtain ⟨q1, q2⟩ := hc.fr2 h_29.2
        first | (simp only [op_then, c_8, c_17, c_33, hca, not_true_eq_false, or_self, if_true, if_false]; exact ⟨h_29.1.2.2.1 2 (by decide), q1, q2⟩) | (simp only [op_then, c_8, c_17, c_33, hca, not_true_eq_false, or_self, if_true, if_false]; exact ⟨by rw [h_29.1.2.2.1 2 (by decide), h_29.1.2.2.1 1 (by decide)], q1, q2⟩)
    ·
      refine hg_aload0 (pc' := 21) cx dX5_then_20 rfl ?_
      refine hg_ldc (pc' := 23) cx kc_X5_44 dX5_then_21 rfl ?_
      refine cv_X5_45 (pc' := 26) cx (K_X5_finding l E _ (-1000000001) 0 (by decide) (by decide)) ⟨rfl, rfl, Nat.le_of_ble_eq_true rfl, Nat.le_of_ble_eq_true rfl⟩ (Nat.le_of_ble_eq_true rfl) dX5_then_23 rfl (fun r_23 τ_23 h_23 => ?_)
      obtain ⟨rfl, rfl⟩ := h_23
      refine hg_iret cx dX5_then_26 ⟨_, rfl, ?_⟩
      simp only [op_then, c_8, c_17, not_true_eq_false, not_false_eq_true, true_or, or_true, false_or, or_false, or_self, if_true, if_false, and_self]
      exact hc.find (by decide) (by decide)
