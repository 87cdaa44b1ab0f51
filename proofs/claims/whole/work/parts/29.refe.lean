theorem sp_trait_nI (h : Nat → Int32) {b : Nat} (hb : b < 6) : sp_trait h (nI b) = h b := by
  rcases (show b = 0 ∨ b = 1 ∨ b = 2 ∨ b = 3 ∨ b = 4 ∨ b = 5 by omega) with rfl | rfl | rfl | rfl | rfl | rfl <;> rfl
theorem sp_put_nI (h : Nat → Int32) {b : Nat} {v : Int32} (h1 : 1 ≤ b) (h5 : b ≤ 5) : sp_put h (nI b) v = va_up h b v := by
  rcases (show b = 1 ∨ b = 2 ∨ b = 3 ∨ b = 4 ∨ b = 5 by omega) with rfl | rfl | rfl | rfl | rfl <;> rfl
set_option maxHeartbeats 4000000 in
set_option maxRecDepth 100000 in
theorem K_X6_mostOf (l : Launch) (E : hg_Wd) (σ : hg_Mem) (w : Int32) : hg_C l E yX6_mostOf cX6_mostOf 1 (some .int) { frames := 0, cells := 0, slots := 0, locals := 0 } [.int w] σ (hg_pi (fun r τ => r = sp_mostOf w ∧ σ = τ)) := by
  refine hg_intro (by decide) [some (.int w)] rfl (Nat.le_of_ble_eq_true rfl) ?_
  intro p e s m args below meth c cx
  have cx : hg_Cx E p s m args meth c cX6_mostOf 1 RX6 (some .int) := cx
  refine hg_iload0 (pc' := 1) cx dX6_mostOf_0 rfl ?_
  refine hg_iconst (pc' := 2) cx 1 dX6_mostOf_1 (by decide) rfl ?_
  refine hg_icmp_ne (pc' := 5) cx 11 dX6_mostOf_2 (by decide) rfl (fun c_2 => ?_) (fun c_2 => ?_)
  ·
    refine hg_iload0 (pc' := 12) cx dX6_mostOf_11 rfl ?_
    refine hg_iconst (pc' := 13) cx 4 dX6_mostOf_12 (by decide) rfl ?_
    refine hg_icmp_ne (pc' := 16) cx 21 dX6_mostOf_13 (by decide) rfl (fun c_13 => ?_) (fun c_13 => ?_)
    ·
      refine hg_iload0 (pc' := 22) cx dX6_mostOf_21 rfl ?_
      refine hg_iconst (pc' := 23) cx 5 dX6_mostOf_22 (by decide) rfl ?_
      refine hg_icmp_ne (pc' := 26) cx 30 dX6_mostOf_23 (by decide) rfl (fun c_23 => ?_) (fun c_23 => ?_)
      ·
        refine hg_sipush (pc' := 33) cx 9999 dX6_mostOf_30 (by decide) rfl ?_
        refine hg_iret cx dX6_mostOf_33 ⟨_, rfl, ?_⟩
        exact ⟨by first | rfl | (simp [sp_mostOf, c_2, c_13, c_23]; done) | (simp (decide := true) only [sp_mostOf, c_2, c_13, c_23, ↓reduceIte, and_true, true_and, and_false, false_and, or_false, false_or, true_or, or_true]; done) | (simp only [sp_mostOf]; grind) | (simp_all [sp_mostOf]; done), rfl⟩
      ·
        refine hg_iconst (pc' := 27) cx 1 dX6_mostOf_26 (by decide) rfl ?_
        refine hg_goto cx 33 dX6_mostOf_27 (by decide) ?_
        refine hg_iret cx dX6_mostOf_33 ⟨_, rfl, ?_⟩
        exact ⟨by first | rfl | (simp [sp_mostOf, c_2, c_13, c_23]; done) | (simp (decide := true) only [sp_mostOf, c_2, c_13, c_23, ↓reduceIte, and_true, true_and, and_false, false_and, or_false, false_or, true_or, or_true]; done) | (simp only [sp_mostOf]; grind) | (simp_all [sp_mostOf]; done), rfl⟩
    ·
      refine hg_bipush (pc' := 18) cx 99 dX6_mostOf_16 (by decide) rfl ?_
      refine hg_goto cx 33 dX6_mostOf_18 (by decide) ?_
      refine hg_iret cx dX6_mostOf_33 ⟨_, rfl, ?_⟩
      exact ⟨by first | rfl | (simp [sp_mostOf, c_2, c_13]; done) | (simp (decide := true) only [sp_mostOf, c_2, c_13, ↓reduceIte, and_true, true_and, and_false, false_and, or_false, false_or, true_or, or_true]; done) | (simp only [sp_mostOf]; grind) | (simp_all [sp_mostOf]; done), rfl⟩
  ·
    refine hg_sipush (pc' := 8) cx 255 dX6_mostOf_5 (by decide) rfl ?_
    refine hg_goto cx 33 dX6_mostOf_8 (by decide) ?_
    refine hg_iret cx dX6_mostOf_33 ⟨_, rfl, ?_⟩
    exact ⟨by first | rfl | (simp [sp_mostOf, c_2]; done) | (simp (decide := true) only [sp_mostOf, c_2, ↓reduceIte, and_true, true_and, and_false, false_and, or_false, false_or, true_or, or_true]; done) | (simp only [sp_mostOf]; grind) | (simp_all [sp_mostOf]; done), rfl⟩
set_option maxHeartbeats 4000000 in
set_option maxRecDepth 100000 in
theorem K_X6_holds (l : Launch) (E : hg_Wd) (σ : hg_Mem) (S : sp_S) (hc : cw_M σ S) (hv : vs_S S) (w : Int32) (v : Int32) : hg_C l E yX6_holds cX6_holds 3 (some .int) { frames := 1, cells := 0, slots := 0, locals := 23 } [.ref (hg_ad E 50), .int w, .int v] σ (hg_pi (fun r τ => mw_P σ (op_holds S w v) r τ)) := by
  refine hg_intro (by decide) [some (.ref (hg_ad E 50)), some (.int w), some (.int v)] rfl (Nat.le_of_ble_eq_true rfl) ?_
  intro p e s m args below meth c cx
  have cx : hg_Cx E p s m args meth c cX6_holds 3 RX6 (some .int) := cx
  obtain ⟨hn10, hn, g0, g1, g2, hag⟩ := hc.get
  refine hg_iload1 (pc' := 1) cx dX6_holds_0 rfl ?_
  refine hg_i2l (pc' := 2) cx dX6_holds_1 rfl ?_
  refine hg_iconst (pc' := 3) cx 0 dX6_holds_2 (by decide) rfl ?_
  refine hg_iconst (pc' := 4) cx 1 dX6_holds_3 (by decide) rfl ?_
  refine cs_X6_44 (pc' := 7) cx (K_X6_in l E _ _ _ _) ⟨rfl, rfl, Nat.le_of_ble_eq_true rfl, Nat.le_of_ble_eq_true rfl⟩ (Nat.le_of_ble_eq_true rfl) dX6_holds_4 rfl (fun r_4 τ_4 h_4 => ?_)
  obtain ⟨rfl, rfl⟩ := h_4
  rw [sp_inL_out]
  refine hg_if_eq (pc' := 10) cx 33 dX6_holds_7 (by decide) rfl (fun c_7 => ?_) (fun c_7 => ?_)
  ·
    replace c_7 := hg_b0 c_7
    refine hg_aload0 (pc' := 34) cx dX6_holds_33 rfl ?_
    refine hg_ldc (pc' := 36) cx kc_X6_38 dX6_holds_34 rfl ?_
    refine cv_X6_40 (pc' := 39) cx (K_X6_finds l E _ (-1000000001) 0 (by decide) (by decide)) ⟨rfl, rfl, Nat.le_of_ble_eq_true rfl, Nat.le_of_ble_eq_true rfl⟩ (Nat.le_of_ble_eq_true rfl) dX6_holds_36 rfl (fun r_36 τ_36 h_36 => ?_)
    obtain ⟨rfl, rfl⟩ := h_36
    refine hg_iret cx dX6_holds_39 ⟨_, rfl, ?_⟩
    simp only [op_holds, sp_hz, c_7, not_true_eq_false, not_false_eq_true, true_or, or_true, false_or, or_false, or_self, if_true, if_false, and_self]
    exact hc.find (by decide) (by decide)
  ·
    replace c_7 := hg_b1 c_7
    refine hg_iload2 (pc' := 11) cx dX6_holds_10 rfl ?_
    refine hg_i2l (pc' := 12) cx dX6_holds_11 rfl ?_
    refine hg_iconst (pc' := 13) cx 0 dX6_holds_12 (by decide) rfl ?_
    refine hg_sipush (pc' := 16) cx 255 dX6_holds_13 (by decide) rfl ?_
    refine cs_X6_44 (pc' := 19) cx (K_X6_in l E _ _ _ _) ⟨rfl, rfl, Nat.le_of_ble_eq_true rfl, Nat.le_of_ble_eq_true rfl⟩ (Nat.le_of_ble_eq_true rfl) dX6_holds_16 rfl (fun r_16 τ_16 h_16 => ?_)
    obtain ⟨rfl, rfl⟩ := h_16
    rw [sp_inL_out]
    refine hg_if_eq (pc' := 22) cx 33 dX6_holds_19 (by decide) rfl (fun c_19 => ?_) (fun c_19 => ?_)
    ·
      replace c_19 := hg_b0 c_19
      refine hg_aload0 (pc' := 34) cx dX6_holds_33 rfl ?_
      refine hg_ldc (pc' := 36) cx kc_X6_38 dX6_holds_34 rfl ?_
      refine cv_X6_40 (pc' := 39) cx (K_X6_finds l E _ (-1000000001) 0 (by decide) (by decide)) ⟨rfl, rfl, Nat.le_of_ble_eq_true rfl, Nat.le_of_ble_eq_true rfl⟩ (Nat.le_of_ble_eq_true rfl) dX6_holds_36 rfl (fun r_36 τ_36 h_36 => ?_)
      obtain ⟨rfl, rfl⟩ := h_36
      refine hg_iret cx dX6_holds_39 ⟨_, rfl, ?_⟩
      simp only [op_holds, sp_hz, c_7, c_19, not_true_eq_false, not_false_eq_true, true_or, or_true, false_or, or_false, or_self, if_true, if_false, and_self]
      exact hc.find (by decide) (by decide)
    ·
      replace c_19 := hg_b1 c_19
      obtain ⟨a, -, ha, rfl⟩ := sp_out_of 0 1 (by decide) (by decide) (by decide) (by decide) c_7
      refine hg_aload0 (pc' := 23) cx dX6_holds_22 rfl ?_
      refine hg_iconst (pc' := 24) cx (nI 1) dX6_holds_23 (by decide) rfl ?_
      refine hg_iload1 (pc' := 25) cx dX6_holds_24 rfl ?_
      refine hg_iadd (pc' := 26) cx dX6_holds_25 rfl ?_
      rw [nI_add]
      refine hg_iload2 (pc' := 27) cx dX6_holds_26 rfl ?_
      refine cv_X6_52 (pc' := 30) cx (K_X6_becomes l E _ (1 + a) (by omega) _) ⟨rfl, rfl, Nat.le_of_ble_eq_true rfl, Nat.le_of_ble_eq_true rfl⟩ (Nat.le_of_ble_eq_true rfl) dX6_holds_27 rfl (fun r_27 τ_27 h_27 => ?_)
      obtain ⟨rfl, rfl⟩ := h_27
      refine hg_goto cx 39 dX6_holds_30 (by decide) ?_
      refine hg_iret cx dX6_holds_39 ⟨_, rfl, ?_⟩
      simp only [op_holds, c_7, c_19, not_true_eq_false, or_self, if_false]
      rcases (show a = 0 ∨ a = 1 by omega) with rfl | rfl
      · rw [if_pos (show nI 0 = 0 from rfl)]
        exact ⟨g1, hc.setC _ _ rfl (fun i h1 _ _ => by rw [hg_sI_eq, hg_sH_ne _ _ h1]) (hc.1.setG (by decide) _)⟩
      · rw [if_neg (show ¬ nI 1 = 0 by decide)]
        exact ⟨g2, hc.setC _ _ rfl (fun i h1 _ _ => by rw [hg_sI_eq, hg_sH_ne _ _ h1]) (hc.1.setG (by decide) _)⟩
set_option maxHeartbeats 4000000 in
set_option maxRecDepth 100000 in
theorem K_X6_now (l : Launch) (E : hg_Wd) (σ : hg_Mem) (S : sp_S) (hc : cw_M σ S) (hv : vs_S S) (w : Int32) : hg_C l E yX6_now cX6_now 2 (some .int) { frames := 3, cells := 0, slots := 0, locals := 71 } [.ref (hg_ad E 50), .int w] σ (hg_pi (fun r τ => mw_P σ (op_now S w) r τ)) := by
  refine hg_intro (by decide) [some (.ref (hg_ad E 50)), some (.int w)] rfl (Nat.le_of_ble_eq_true rfl) ?_
  intro p e s m args below meth c cx
  have cx : hg_Cx E p s m args meth c cX6_now 2 RX6 (some .int) := cx
  obtain ⟨hn10, hn, g0, g1, g2, hag⟩ := hc.get
  refine hg_iload1 (pc' := 1) cx dX6_now_0 rfl ?_
  refine hg_tsw cx [0, 1, 2, 3, 4, 5, 6, 7] [48, 55, 60, 60, 71, 81, 91, 96] 101 dX6_now_1 (by decide) (by decide) (fun c_1 => ?_) (fun i v t hk ht c_1 => ?_)
  ·
    simp only [List.mem_cons, List.not_mem_nil, or_false, forall_eq_or_imp, forall_eq] at c_1
    refine hg_aload0 (pc' := 102) cx dX6_now_101 rfl ?_
    refine hg_ldc (pc' := 104) cx kc_X6_38 dX6_now_102 rfl ?_
    refine cv_X6_40 (pc' := 107) cx (K_X6_finds l E _ (-1000000001) 0 (by decide) (by decide)) ⟨rfl, rfl, Nat.le_of_ble_eq_true rfl, Nat.le_of_ble_eq_true rfl⟩ (Nat.le_of_ble_eq_true rfl) dX6_now_104 rfl (fun r_104 τ_104 h_104 => ?_)
    obtain ⟨rfl, rfl⟩ := h_104
    refine hg_iret cx dX6_now_107 ⟨_, rfl, ?_⟩
    simp (decide := true) only [op_now, c_1, if_true, if_false]
    exact hc.find (by decide) (by decide)
  ·
    match i, hk, ht with
    | 0, hk, ht =>
      cases hk; cases ht
      refine hg_aload0 (pc' := 49) cx dX6_now_48 rfl ?_
      refine gf_X6_9 (pc' := 52) cx dX6_now_49 rfl ?_
      refine hg_iconst (pc' := 53) cx (nI 0) dX6_now_52 (by decide) rfl ?_
      refine hg_iald2 (pc' := 54) cx (by decide) (hg_ceI51 E) (by first | assumption | omega | decide) (by decide) dX6_now_53 rfl ?_
      refine hg_iret cx dX6_now_54 ⟨_, rfl, ?_⟩
      simp (decide := true) only [op_now, c_1, if_true, if_false]
      exact ⟨g0, hc, mw_Fr.rf _⟩
    | 1, hk, ht =>
      cases hk; cases ht
      refine hg_aload0 (pc' := 56) cx dX6_now_55 rfl ?_
      refine cv_X6_61 (pc' := 59) cx (K_X6_asked l E _ ) ⟨rfl, rfl, Nat.le_of_ble_eq_true rfl, Nat.le_of_ble_eq_true rfl⟩ (Nat.le_of_ble_eq_true rfl) dX6_now_56 rfl (fun r_56 τ_56 h_56 => ?_)
      obtain ⟨rfl, rfl⟩ := h_56
      refine hg_iret cx dX6_now_59 ⟨_, rfl, ?_⟩
      simp (decide := true) only [op_now, c_1, if_true, if_false]
      exact ⟨by rw [g0], hc, mw_Fr.rf _⟩
    | 2, hk, ht =>
      cases hk; cases ht
      refine hg_aload0 (pc' := 61) cx dX6_now_60 rfl ?_
      refine gf_X6_9 (pc' := 64) cx dX6_now_61 rfl ?_
      refine hg_iconst (pc' := 65) cx (nI 1) dX6_now_64 (by decide) rfl ?_
      refine hg_iload1 (pc' := 66) cx dX6_now_65 rfl ?_
      refine hg_iadd (pc' := 67) cx dX6_now_66 rfl ?_
      refine hg_iconst (pc' := 68) cx (nI 2) dX6_now_67 (by decide) rfl ?_
      refine hg_isub (pc' := 69) cx dX6_now_68 rfl ?_
      first
        | rw [c_1, show nI 1 + 2 - nI 2 = nI 1 from by decide]
        | rw [c_1, show nI 1 + 3 - nI 2 = nI 2 from by decide]
      refine hg_iald2 (pc' := 70) cx (by decide) (hg_ceI51 E) (by first | assumption | omega | decide) (by decide) dX6_now_69 rfl ?_
      refine hg_iret cx dX6_now_70 ⟨_, rfl, ?_⟩
      first
        | (simp (decide := true) only [op_now, if_true, if_false]; exact ⟨g1, hc, mw_Fr.rf _⟩)
        | (simp (decide := true) only [op_now, if_true, if_false]; exact ⟨g2, hc, mw_Fr.rf _⟩)
    | 3, hk, ht =>
      cases hk; cases ht
      refine hg_aload0 (pc' := 61) cx dX6_now_60 rfl ?_
      refine gf_X6_9 (pc' := 64) cx dX6_now_61 rfl ?_
      refine hg_iconst (pc' := 65) cx (nI 1) dX6_now_64 (by decide) rfl ?_
      refine hg_iload1 (pc' := 66) cx dX6_now_65 rfl ?_
      refine hg_iadd (pc' := 67) cx dX6_now_66 rfl ?_
      refine hg_iconst (pc' := 68) cx (nI 2) dX6_now_67 (by decide) rfl ?_
      refine hg_isub (pc' := 69) cx dX6_now_68 rfl ?_
      first
        | rw [c_1, show nI 1 + 2 - nI 2 = nI 1 from by decide]
        | rw [c_1, show nI 1 + 3 - nI 2 = nI 2 from by decide]
      refine hg_iald2 (pc' := 70) cx (by decide) (hg_ceI51 E) (by first | assumption | omega | decide) (by decide) dX6_now_69 rfl ?_
      refine hg_iret cx dX6_now_70 ⟨_, rfl, ?_⟩
      first
        | (simp (decide := true) only [op_now, if_true, if_false]; exact ⟨g1, hc, mw_Fr.rf _⟩)
        | (simp (decide := true) only [op_now, if_true, if_false]; exact ⟨g2, hc, mw_Fr.rf _⟩)
    | 4, hk, ht =>
      cases hk; cases ht
      refine hg_aload0 (pc' := 72) cx dX6_now_71 rfl ?_
      refine hg_aload0 (pc' := 73) cx dX6_now_72 rfl ?_
      refine cv_X6_61 (pc' := 76) cx (K_X6_asked l E _ ) ⟨rfl, rfl, Nat.le_of_ble_eq_true rfl, Nat.le_of_ble_eq_true rfl⟩ (Nat.le_of_ble_eq_true rfl) dX6_now_73 rfl (fun r_73 τ_73 h_73 => ?_)
      obtain ⟨rfl, rfl⟩ := h_73
      refine hg_iconst (pc' := 77) cx 1 dX6_now_76 (by decide) rfl ?_
      refine cv_X6_65 (pc' := 80) cx (K_X6_weight l E _ (S.1 0).2 hn10 hn _ _) ⟨rfl, rfl, Nat.le_of_ble_eq_true rfl, Nat.le_of_ble_eq_true rfl⟩ (Nat.le_of_ble_eq_true rfl) dX6_now_77 rfl (fun r_77 τ_77 h_77 => ?_)
      obtain ⟨rfl, rfl⟩ := h_77
      refine hg_iret cx dX6_now_80 ⟨_, rfl, ?_⟩
      have hon : ∀ h, h < (S.1 0).2 → (S.1 0).1.2 h 5 = 0 ∨ (S.1 0).1.2 h 5 = 1 := fun h hh => by
        obtain ⟨k, hk, e⟩ := (hv.1.2.2.2.2.2 h hh).2.2.2.2.2
        rcases (show k = 0 ∨ k = 1 by omega) with rfl | rfl
        · exact Or.inl e
        · exact Or.inr e
      simp (decide := true) only [op_now, c_1, if_true, if_false]
      exact ⟨(sp_wt_ag _ _ _ _ _ hag).trans ((sp_wt1 _ _ _ _ hon).trans (by rw [g0, g2])), hc, mw_Fr.rf _⟩
    | 5, hk, ht =>
      cases hk; cases ht
      refine hg_aload0 (pc' := 82) cx dX6_now_81 rfl ?_
      refine hg_aload0 (pc' := 83) cx dX6_now_82 rfl ?_
      refine cv_X6_61 (pc' := 86) cx (K_X6_asked l E _ ) ⟨rfl, rfl, Nat.le_of_ble_eq_true rfl, Nat.le_of_ble_eq_true rfl⟩ (Nat.le_of_ble_eq_true rfl) dX6_now_83 rfl (fun r_83 τ_83 h_83 => ?_)
      obtain ⟨rfl, rfl⟩ := h_83
      refine hg_iconst (pc' := 87) cx 0 dX6_now_86 (by decide) rfl ?_
      refine cv_X6_65 (pc' := 90) cx (K_X6_weight l E _ (S.1 0).2 hn10 hn _ _) ⟨rfl, rfl, Nat.le_of_ble_eq_true rfl, Nat.le_of_ble_eq_true rfl⟩ (Nat.le_of_ble_eq_true rfl) dX6_now_87 rfl (fun r_87 τ_87 h_87 => ?_)
      obtain ⟨rfl, rfl⟩ := h_87
      refine hg_iret cx dX6_now_90 ⟨_, rfl, ?_⟩
      have hon : ∀ h, h < (S.1 0).2 → (S.1 0).1.2 h 5 = 0 ∨ (S.1 0).1.2 h 5 = 1 := fun h hh => by
        obtain ⟨k, hk, e⟩ := (hv.1.2.2.2.2.2 h hh).2.2.2.2.2
        rcases (show k = 0 ∨ k = 1 by omega) with rfl | rfl
        · exact Or.inl e
        · exact Or.inr e
      simp (decide := true) only [op_now, c_1, if_true, if_false]
      exact ⟨(sp_wt_ag _ _ _ _ _ hag).trans ((sp_wt0 _ _ _ _ hon).trans (by rw [g0, g2])), hc, mw_Fr.rf _⟩
    | 6, hk, ht =>
      cases hk; cases ht
      refine hg_aload0 (pc' := 92) cx dX6_now_91 rfl ?_
      refine cv_X6_68 (pc' := 95) cx (K_X6_onTable l E _ (S.1 0).2 hn10 hn) ⟨rfl, rfl, Nat.le_of_ble_eq_true rfl, Nat.le_of_ble_eq_true rfl⟩ (Nat.le_of_ble_eq_true rfl) dX6_now_92 rfl (fun r_92 τ_92 h_92 => ?_)
      obtain ⟨rfl, rfl⟩ := h_92
      refine hg_iret cx dX6_now_95 ⟨_, rfl, ?_⟩
      simp (decide := true) only [op_now, c_1, if_true, if_false]
      exact ⟨sp_onset_ag _ hag, hc, mw_Fr.rf _⟩
    | 7, hk, ht =>
      cases hk; cases ht
      refine hg_aload0 (pc' := 97) cx dX6_now_96 rfl ?_
      refine cv_X6_71 (pc' := 100) cx (K_X6_trueOnes l E _ ) ⟨rfl, rfl, Nat.le_of_ble_eq_true rfl, Nat.le_of_ble_eq_true rfl⟩ (Nat.le_of_ble_eq_true rfl) dX6_now_97 rfl (fun r_97 τ_97 h_97 => ?_)
      obtain ⟨rfl, rfl⟩ := h_97
      refine hg_iret cx dX6_now_100 ⟨_, rfl, ?_⟩
      simp (decide := true) only [op_now, c_1, if_true, if_false]
      exact ⟨by rw [g1, g2], hc, mw_Fr.rf _⟩
    | j + 8, hk, ht => exact absurd hk (by simp)
set_option maxHeartbeats 4000000 in
set_option maxRecDepth 100000 in
theorem K_X6_hat (l : Launch) (E : hg_Wd) (σ : hg_Mem) (S : sp_S) (hc : cw_M σ S) (hv : vs_S S) (k : Int32) (v : Int32) : hg_C l E yX6_hat cX6_hat 3 (some .int) { frames := 2, cells := 0, slots := 0, locals := 48 } [.ref (hg_ad E 50), .int k, .int v] σ (hg_pi (fun r τ => mw_P σ (op_hat S k v) r τ)) := by
  refine hg_intro (by decide) [some (.ref (hg_ad E 50)), some (.int k), some (.int v)] rfl (Nat.le_of_ble_eq_true rfl) ?_
  intro p e s m args below meth c cx
  have cx : hg_Cx E p s m args meth c cX6_hat 3 RX6 (some .int) := cx
  obtain ⟨hn10, hn, g0, g1, g2, hag⟩ := hc.get
  refine hg_iload1 (pc' := 1) cx dX6_hat_0 rfl ?_
  refine hg_i2l (pc' := 2) cx dX6_hat_1 rfl ?_
  refine hg_iconst (pc' := 3) cx 0 dX6_hat_2 (by decide) rfl ?_
  refine hg_iconst (pc' := 4) cx 5 dX6_hat_3 (by decide) rfl ?_
  refine cs_X6_44 (pc' := 7) cx (K_X6_in l E _ _ _ _) ⟨rfl, rfl, Nat.le_of_ble_eq_true rfl, Nat.le_of_ble_eq_true rfl⟩ (Nat.le_of_ble_eq_true rfl) dX6_hat_4 rfl (fun r_4 τ_4 h_4 => ?_)
  obtain ⟨rfl, rfl⟩ := h_4
  rw [sp_inL_out]
  refine hg_if_eq (pc' := 10) cx 22 dX6_hat_7 (by decide) rfl (fun c_7 => ?_) (fun c_7 => ?_)
  ·
    replace c_7 := hg_b0 c_7
    refine hg_aload0 (pc' := 23) cx dX6_hat_22 rfl ?_
    refine hg_ldc (pc' := 25) cx kc_X6_38 dX6_hat_23 rfl ?_
    refine cv_X6_40 (pc' := 28) cx (K_X6_finds l E _ (-1000000001) 0 (by decide) (by decide)) ⟨rfl, rfl, Nat.le_of_ble_eq_true rfl, Nat.le_of_ble_eq_true rfl⟩ (Nat.le_of_ble_eq_true rfl) dX6_hat_25 rfl (fun r_25 τ_25 h_25 => ?_)
    obtain ⟨rfl, rfl⟩ := h_25
    refine hg_iret cx dX6_hat_28 ⟨_, rfl, ?_⟩
    simp only [op_hat, sp_hz, c_7, not_true_eq_false, not_false_eq_true, true_or, or_true, false_or, or_false, or_self, if_true, if_false, and_self]
    exact hc.find (by decide) (by decide)
  ·
    replace c_7 := hg_b1 c_7
    refine hg_iload2 (pc' := 11) cx dX6_hat_10 rfl ?_
    refine hg_i2l (pc' := 12) cx dX6_hat_11 rfl ?_
    refine hg_iconst (pc' := 13) cx 0 dX6_hat_12 (by decide) rfl ?_
    refine hg_sipush (pc' := 16) cx 255 dX6_hat_13 (by decide) rfl ?_
    refine cs_X6_44 (pc' := 19) cx (K_X6_in l E _ _ _ _) ⟨rfl, rfl, Nat.le_of_ble_eq_true rfl, Nat.le_of_ble_eq_true rfl⟩ (Nat.le_of_ble_eq_true rfl) dX6_hat_16 rfl (fun r_16 τ_16 h_16 => ?_)
    obtain ⟨rfl, rfl⟩ := h_16
    rw [sp_inL_out]
    refine hg_if_ne (pc' := 22) cx 29 dX6_hat_19 (by decide) rfl (fun c_19 => ?_) (fun c_19 => ?_)
    ·
      replace c_19 := hg_b1 c_19
      refine hg_aload0 (pc' := 30) cx dX6_hat_29 rfl ?_
      refine gf_X6_9 (pc' := 33) cx dX6_hat_30 rfl ?_
      refine hg_iconst (pc' := 34) cx (nI 3) dX6_hat_33 (by decide) rfl ?_
      refine hg_iald2 (pc' := 35) cx (by decide) (hg_ceI51 E) (by first | assumption | omega | decide) (by decide) dX6_hat_34 rfl ?_
      refine hg_bipush (pc' := 37) cx 10 dX6_hat_35 (by decide) rfl ?_
      refine hg_icmp_ne (pc' := 40) cx 49 dX6_hat_37 (by decide) rfl (fun c_37 => ?_) (fun c_37 => ?_)
      ·
        have hlt : (S.1 0).2 < 10 := by
          rcases Nat.lt_or_ge (S.1 0).2 10 with q | q
          · exact q
          · exact absurd (by rw [hn, show (S.1 0).2 = 10 by omega]; rfl) c_37
        refine hg_aload0 (pc' := 50) cx dX6_hat_49 rfl ?_
        refine hg_iload1 (pc' := 51) cx dX6_hat_50 rfl ?_
        refine hg_iload2 (pc' := 52) cx dX6_hat_51 rfl ?_
        refine hg_bipush (pc' := 54) cx 50 dX6_hat_52 (by decide) rfl ?_
        refine hg_iconst (pc' := 55) cx 1 dX6_hat_54 (by decide) rfl ?_
        refine cv_X6_79 (pc' := 58) cx (K_X6_comesAs l E _ (S.1 0).2 hlt hn _ _ _ _) ⟨rfl, rfl, Nat.le_of_ble_eq_true rfl, Nat.le_of_ble_eq_true rfl⟩ (Nat.le_of_ble_eq_true rfl) dX6_hat_55 rfl (fun r_55 τ_55 h_55 => ?_)
        obtain ⟨rfl, rfl⟩ := h_55
        refine hg_iret cx dX6_hat_58 ⟨_, rfl, ?_⟩
        simp only [op_hat, c_7, c_19, not_true_eq_false, or_self, if_false, if_neg (show ¬ 10 ≤ (S.1 0).2 by omega)]
        exact ⟨rfl, hc.setC _ _ rfl (fun i h1 _ _ => hg_sH_ne _ _ h1) (hc.1.come hlt k v 50 1)⟩
      ·
        refine hg_aload0 (pc' := 41) cx dX6_hat_40 rfl ?_
        refine hg_ldc (pc' := 43) cx kc_X6_78 dX6_hat_41 rfl ?_
        refine cv_X6_40 (pc' := 46) cx (K_X6_finds l E _ (-1000000002) 1 (by decide) (by decide)) ⟨rfl, rfl, Nat.le_of_ble_eq_true rfl, Nat.le_of_ble_eq_true rfl⟩ (Nat.le_of_ble_eq_true rfl) dX6_hat_43 rfl (fun r_43 τ_43 h_43 => ?_)
        obtain ⟨rfl, rfl⟩ := h_43
        refine hg_goto cx 58 dX6_hat_46 (by decide) ?_
        refine hg_iret cx dX6_hat_58 ⟨_, rfl, ?_⟩
        have h10 : (S.1 0).2 = 10 := by
          have := congrArg Int32.toNatClampNeg (hn.symm.trans c_37)
          rw [nI_clamp (by omega)] at this
          exact this
        simp only [op_hat, c_7, c_19, not_true_eq_false, or_self, if_false, if_pos (show 10 ≤ (S.1 0).2 by omega)]
        exact hc.find (by decide) (by decide)
    ·
      replace c_19 := hg_b0 c_19
      refine hg_aload0 (pc' := 23) cx dX6_hat_22 rfl ?_
      refine hg_ldc (pc' := 25) cx kc_X6_38 dX6_hat_23 rfl ?_
      refine cv_X6_40 (pc' := 28) cx (K_X6_finds l E _ (-1000000001) 0 (by decide) (by decide)) ⟨rfl, rfl, Nat.le_of_ble_eq_true rfl, Nat.le_of_ble_eq_true rfl⟩ (Nat.le_of_ble_eq_true rfl) dX6_hat_25 rfl (fun r_25 τ_25 h_25 => ?_)
      obtain ⟨rfl, rfl⟩ := h_25
      refine hg_iret cx dX6_hat_28 ⟨_, rfl, ?_⟩
      simp only [op_hat, sp_hz, c_7, c_19, not_true_eq_false, not_false_eq_true, true_or, or_true, false_or, or_false, or_self, if_true, if_false, and_self]
      exact hc.find (by decide) (by decide)
set_option maxHeartbeats 4000000 in
set_option maxRecDepth 100000 in
theorem K_X6_of (l : Launch) (E : hg_Wd) (σ : hg_Mem) (S : sp_S) (hc : cw_M σ S) (hv : vs_S S) (x : Int32) (w : Int32) : hg_C l E yX6_of cX6_of 3 (some .int) { frames := 2, cells := 0, slots := 0, locals := 44 } [.ref (hg_ad E 50), .int x, .int w] σ (hg_pi (fun r τ => mw_P σ (op_of S x w) r τ)) := by
  refine hg_intro (by decide) [some (.ref (hg_ad E 50)), some (.int x), some (.int w)] rfl (Nat.le_of_ble_eq_true rfl) ?_
  intro p e s m args below meth c cx
  have cx : hg_Cx E p s m args meth c cX6_of 3 RX6 (some .int) := cx
  obtain ⟨hn10, hn, g0, g1, g2, hag⟩ := hc.get
  refine hg_aload0 (pc' := 1) cx dX6_of_0 rfl ?_
  refine hg_iload1 (pc' := 2) cx dX6_of_1 rfl ?_
  refine cv_X6_83 (pc' := 5) cx (K_X6_isHat l E _ (S.1 0).2 hn10 hn _) ⟨rfl, rfl, Nat.le_of_ble_eq_true rfl, Nat.le_of_ble_eq_true rfl⟩ (Nat.le_of_ble_eq_true rfl) dX6_of_2 rfl (fun r_2 τ_2 h_2 => ?_)
  obtain ⟨rfl, rfl⟩ := h_2
  refine hg_if_eq (pc' := 8) cx 19 dX6_of_5 (by decide) rfl (fun c_5 => ?_) (fun c_5 => ?_)
  ·
    refine hg_aload0 (pc' := 20) cx dX6_of_19 rfl ?_
    refine hg_ldc (pc' := 22) cx kc_X6_38 dX6_of_20 rfl ?_
    refine cv_X6_40 (pc' := 25) cx (K_X6_finds l E _ (-1000000001) 0 (by decide) (by decide)) ⟨rfl, rfl, Nat.le_of_ble_eq_true rfl, Nat.le_of_ble_eq_true rfl⟩ (Nat.le_of_ble_eq_true rfl) dX6_of_22 rfl (fun r_22 τ_22 h_22 => ?_)
    obtain ⟨rfl, rfl⟩ := h_22
    refine hg_iret cx dX6_of_25 ⟨_, rfl, ?_⟩
    simp only [op_of, sp_hz, c_5, not_true_eq_false, not_false_eq_true, true_or, or_true, false_or, or_false, or_self, if_true, if_false, and_self]
    exact hc.find (by decide) (by decide)
  ·
    refine hg_iload2 (pc' := 9) cx dX6_of_8 rfl ?_
    refine hg_i2l (pc' := 10) cx dX6_of_9 rfl ?_
    refine hg_iconst (pc' := 11) cx 0 dX6_of_10 (by decide) rfl ?_
    refine hg_bipush (pc' := 13) cx 8 dX6_of_11 (by decide) rfl ?_
    refine cs_X6_44 (pc' := 16) cx (K_X6_in l E _ _ _ _) ⟨rfl, rfl, Nat.le_of_ble_eq_true rfl, Nat.le_of_ble_eq_true rfl⟩ (Nat.le_of_ble_eq_true rfl) dX6_of_13 rfl (fun r_13 τ_13 h_13 => ?_)
    obtain ⟨rfl, rfl⟩ := h_13
    rw [sp_inL_out]
    refine hg_if_ne (pc' := 19) cx 26 dX6_of_16 (by decide) rfl (fun c_16 => ?_) (fun c_16 => ?_)
    ·
      replace c_16 := hg_b1 c_16
      obtain ⟨j, hjn, rfl⟩ := sp_hz_of hn10 c_5
      have hcl : (nI j).toNatClampNeg = j := nI_clamp (by omega)
      have hj := hag j hjn
      refine hg_iload2 (pc' := 27) cx dX6_of_26 rfl ?_
      refine hg_tsw cx [6, 7, 8] [52, 58, 72] 78 dX6_of_27 (by decide) (by decide) (fun c_27 => ?_) (fun i v t hk ht c_27 => ?_)
      ·
        simp only [List.mem_cons, List.not_mem_nil, or_false, forall_eq_or_imp, forall_eq] at c_27
        obtain ⟨b, -, hb8, rfl⟩ := sp_out_of 0 8 (by decide) (by decide) (by decide) (by decide) c_16
        have hb5 : b < 6 := by
          rcases Nat.lt_or_ge b 6 with q | q
          · exact q
          · rcases (show b = 6 ∨ b = 7 ∨ b = 8 by omega) with rfl | rfl | rfl
            · exact absurd rfl c_27.1
            · exact absurd rfl c_27.2.1
            · exact absurd rfl c_27.2.2
        refine hg_aload0 (pc' := 79) cx dX6_of_78 rfl ?_
        refine hg_iload1 (pc' := 80) cx dX6_of_79 rfl ?_
        refine hg_iload2 (pc' := 81) cx dX6_of_80 rfl ?_
        refine cv_X6_48 (pc' := 84) cx (K_X6_it l E _ j (by omega) b (by omega)) ⟨rfl, rfl, Nat.le_of_ble_eq_true rfl, Nat.le_of_ble_eq_true rfl⟩ (Nat.le_of_ble_eq_true rfl) dX6_of_81 rfl (fun r_81 τ_81 h_81 => ?_)
        obtain ⟨rfl, rfl⟩ := h_81
        refine hg_iret cx dX6_of_84 ⟨_, rfl, ?_⟩
        simp (decide := true) only [op_of, sp_hz, c_5, c_16, c_27, hcl, not_true_eq_false, or_self, if_true, if_false]
        exact ⟨(hj b hb5).trans (sp_trait_nI _ hb5).symm, hc, mw_Fr.rf _⟩
      ·
        match i, hk, ht with
        | 0, hk, ht =>
          cases hk; cases ht
          refine hg_aload0 (pc' := 53) cx dX6_of_52 rfl ?_
          refine hg_iload1 (pc' := 54) cx dX6_of_53 rfl ?_
          refine cv_X6_58 (pc' := 57) cx (K_X6_weighs l E _ j (by omega)) ⟨rfl, rfl, Nat.le_of_ble_eq_true rfl, Nat.le_of_ble_eq_true rfl⟩ (Nat.le_of_ble_eq_true rfl) dX6_of_54 rfl (fun r_54 τ_54 h_54 => ?_)
          obtain ⟨rfl, rfl⟩ := h_54
          refine hg_iret cx dX6_of_57 ⟨_, rfl, ?_⟩
          simp (decide := true) only [op_of, sp_hz, c_5, c_16, c_27, hcl, not_true_eq_false, or_self, if_true, if_false]
          exact ⟨by rw [hj.weighs, g0], hc, mw_Fr.rf _⟩
        | 1, hk, ht =>
          cases hk; cases ht
          refine hg_aload0 (pc' := 59) cx dX6_of_58 rfl ?_
          refine hg_iload1 (pc' := 60) cx dX6_of_59 rfl ?_
          refine cv_X6_87 (pc' := 63) cx (K_X6_doesLearn l E _ j (by omega)) ⟨rfl, rfl, Nat.le_of_ble_eq_true rfl, Nat.le_of_ble_eq_true rfl⟩ (Nat.le_of_ble_eq_true rfl) dX6_of_60 rfl (fun r_60 τ_60 h_60 => ?_)
          obtain ⟨rfl, rfl⟩ := h_60
          refine hg_if_eq (pc' := 66) cx 70 dX6_of_63 (by decide) rfl (fun c_63 => ?_) (fun c_63 => ?_)
          ·
            refine hg_iconst (pc' := 71) cx 0 dX6_of_70 (by decide) rfl ?_
            refine hg_iret cx dX6_of_71 ⟨_, rfl, ?_⟩
            simp (decide := true) only [op_of, sp_hz, c_5, c_16, c_27, hcl, not_true_eq_false, or_self, if_true, if_false]
            exact ⟨by rw [hj.learns, g0] at c_63; first | (rw [c_63]; done) | (exact (sp_learns_1 c_63).symm), hc, mw_Fr.rf _⟩
          ·
            refine hg_iconst (pc' := 67) cx 1 dX6_of_66 (by decide) rfl ?_
            refine hg_goto cx 71 dX6_of_67 (by decide) ?_
            refine hg_iret cx dX6_of_71 ⟨_, rfl, ?_⟩
            simp (decide := true) only [op_of, sp_hz, c_5, c_16, c_27, hcl, not_true_eq_false, or_self, if_true, if_false]
            exact ⟨by rw [hj.learns, g0] at c_63; first | (rw [c_63]; done) | (exact (sp_learns_1 c_63).symm), hc, mw_Fr.rf _⟩
        | 2, hk, ht =>
          cases hk; cases ht
          refine hg_aload0 (pc' := 73) cx dX6_of_72 rfl ?_
          refine hg_iload1 (pc' := 74) cx dX6_of_73 rfl ?_
          refine cv_X6_90 (pc' := 77) cx (K_X6_stirs l E _ j (by omega)) ⟨rfl, rfl, Nat.le_of_ble_eq_true rfl, Nat.le_of_ble_eq_true rfl⟩ (Nat.le_of_ble_eq_true rfl) dX6_of_74 rfl (fun r_74 τ_74 h_74 => ?_)
          obtain ⟨rfl, rfl⟩ := h_74
          refine hg_iret cx dX6_of_77 ⟨_, rfl, ?_⟩
          simp (decide := true) only [op_of, sp_hz, c_5, c_16, c_27, hcl, not_true_eq_false, or_self, if_true, if_false]
          exact ⟨by rw [hj.stirs], hc, mw_Fr.rf _⟩
        | j + 3, hk, ht => exact absurd hk (by simp)
    ·
      replace c_16 := hg_b0 c_16
      refine hg_aload0 (pc' := 20) cx dX6_of_19 rfl ?_
      refine hg_ldc (pc' := 22) cx kc_X6_38 dX6_of_20 rfl ?_
      refine cv_X6_40 (pc' := 25) cx (K_X6_finds l E _ (-1000000001) 0 (by decide) (by decide)) ⟨rfl, rfl, Nat.le_of_ble_eq_true rfl, Nat.le_of_ble_eq_true rfl⟩ (Nat.le_of_ble_eq_true rfl) dX6_of_22 rfl (fun r_22 τ_22 h_22 => ?_)
      obtain ⟨rfl, rfl⟩ := h_22
      refine hg_iret cx dX6_of_25 ⟨_, rfl, ?_⟩
      simp only [op_of, sp_hz, c_5, c_16, not_true_eq_false, not_false_eq_true, true_or, or_true, false_or, or_false, or_self, if_true, if_false, and_self]
      exact hc.find (by decide) (by decide)
set_option maxHeartbeats 4000000 in
set_option maxRecDepth 100000 in
theorem K_X6_says (l : Launch) (E : hg_Wd) (σ : hg_Mem) (S : sp_S) (hc : cw_M σ S) (hv : vs_S S) (x : Int32) (q : Int32) : hg_C l E yX6_says cX6_says 3 (some .int) { frames := 2, cells := 0, slots := 0, locals := 47 } [.ref (hg_ad E 50), .int x, .int q] σ (hg_pi (fun r τ => mw_P σ (op_says S x q) r τ)) := by
  refine hg_intro (by decide) [some (.ref (hg_ad E 50)), some (.int x), some (.int q)] rfl (Nat.le_of_ble_eq_true rfl) ?_
  intro p e s m args below meth c cx
  have cx : hg_Cx E p s m args meth c cX6_says 3 RX6 (some .int) := cx
  obtain ⟨hn10, hn, g0, g1, g2, hag⟩ := hc.get
  refine hg_aload0 (pc' := 1) cx dX6_says_0 rfl ?_
  refine hg_iload1 (pc' := 2) cx dX6_says_1 rfl ?_
  refine cv_X6_83 (pc' := 5) cx (K_X6_isHat l E _ (S.1 0).2 hn10 hn _) ⟨rfl, rfl, Nat.le_of_ble_eq_true rfl, Nat.le_of_ble_eq_true rfl⟩ (Nat.le_of_ble_eq_true rfl) dX6_says_2 rfl (fun r_2 τ_2 h_2 => ?_)
  obtain ⟨rfl, rfl⟩ := h_2
  refine hg_if_eq (pc' := 8) cx 28 dX6_says_5 (by decide) rfl (fun c_5 => ?_) (fun c_5 => ?_)
  ·
    refine hg_aload0 (pc' := 29) cx dX6_says_28 rfl ?_
    refine hg_ldc (pc' := 31) cx kc_X6_38 dX6_says_29 rfl ?_
    refine cv_X6_40 (pc' := 34) cx (K_X6_finds l E _ (-1000000001) 0 (by decide) (by decide)) ⟨rfl, rfl, Nat.le_of_ble_eq_true rfl, Nat.le_of_ble_eq_true rfl⟩ (Nat.le_of_ble_eq_true rfl) dX6_says_31 rfl (fun r_31 τ_31 h_31 => ?_)
    obtain ⟨rfl, rfl⟩ := h_31
    refine hg_iret cx dX6_says_34 ⟨_, rfl, ?_⟩
    simp only [op_says, sp_hz, c_5, not_true_eq_false, not_false_eq_true, true_or, or_true, false_or, or_false, or_self, if_true, if_false, and_self]
    exact hc.find (by decide) (by decide)
  ·
    refine hg_iload2 (pc' := 9) cx dX6_says_8 rfl ?_
    refine hg_i2l (pc' := 10) cx dX6_says_9 rfl ?_
    refine hg_iconst (pc' := 11) cx 0 dX6_says_10 (by decide) rfl ?_
    refine hg_bipush (pc' := 13) cx 7 dX6_says_11 (by decide) rfl ?_
    refine cs_X6_44 (pc' := 16) cx (K_X6_in l E _ _ _ _) ⟨rfl, rfl, Nat.le_of_ble_eq_true rfl, Nat.le_of_ble_eq_true rfl⟩ (Nat.le_of_ble_eq_true rfl) dX6_says_13 rfl (fun r_13 τ_13 h_13 => ?_)
    obtain ⟨rfl, rfl⟩ := h_13
    rw [sp_inL_out]
    refine hg_if_eq (pc' := 19) cx 28 dX6_says_16 (by decide) rfl (fun c_16 => ?_) (fun c_16 => ?_)
    ·
      replace c_16 := hg_b0 c_16
      refine hg_aload0 (pc' := 29) cx dX6_says_28 rfl ?_
      refine hg_ldc (pc' := 31) cx kc_X6_38 dX6_says_29 rfl ?_
      refine cv_X6_40 (pc' := 34) cx (K_X6_finds l E _ (-1000000001) 0 (by decide) (by decide)) ⟨rfl, rfl, Nat.le_of_ble_eq_true rfl, Nat.le_of_ble_eq_true rfl⟩ (Nat.le_of_ble_eq_true rfl) dX6_says_31 rfl (fun r_31 τ_31 h_31 => ?_)
      obtain ⟨rfl, rfl⟩ := h_31
      refine hg_iret cx dX6_says_34 ⟨_, rfl, ?_⟩
      simp only [op_says, sp_hz, c_5, c_16, not_true_eq_false, not_false_eq_true, true_or, or_true, false_or, or_false, or_self, if_true, if_false, and_self]
      exact hc.find (by decide) (by decide)
    ·
      replace c_16 := hg_b1 c_16
      obtain ⟨j, hjn, rfl⟩ := sp_hz_of hn10 c_5
      have hcl : (nI j).toNatClampNeg = j := nI_clamp (by omega)
      have hj := hag j hjn
      refine hg_aload0 (pc' := 20) cx dX6_says_19 rfl ?_
      refine hg_iload1 (pc' := 21) cx dX6_says_20 rfl ?_
      refine hg_iload2 (pc' := 22) cx dX6_says_21 rfl ?_
      refine cv_X6_55 (pc' := 25) cx (K_X6_saysTo l E _ j (by omega) _) ⟨rfl, rfl, Nat.le_of_ble_eq_true rfl, Nat.le_of_ble_eq_true rfl⟩ (Nat.le_of_ble_eq_true rfl) dX6_says_22 rfl (fun r_22 τ_22 h_22 => ?_)
      obtain ⟨rfl, rfl⟩ := h_22
      refine hg_goto cx 34 dX6_says_25 (by decide) ?_
      refine hg_iret cx dX6_says_34 ⟨_, rfl, ?_⟩
      simp only [op_says, sp_hz, c_5, c_16, not_true_eq_false, not_false_eq_true, true_or, or_true, false_or, or_false, or_self, if_true, if_false, and_self, hcl]
      exact ⟨by rw [hj.says, g2], hc, mw_Fr.rf _⟩
set_option maxHeartbeats 4000000 in
set_option maxRecDepth 100000 in
theorem K_X6_set (l : Launch) (E : hg_Wd) (σ : hg_Mem) (S : sp_S) (hc : cw_M σ S) (hv : vs_S S) (x : Int32) (w : Int32) (v : Int32) : hg_C l E yX6_set cX6_set 5 (some .int) { frames := 2, cells := 0, slots := 0, locals := 44 } [.ref (hg_ad E 50), .int x, .int w, .int v] σ (hg_pi (fun r τ => mw_P σ (op_set S x w v) r τ)) := by
  refine hg_intro (by decide) [some (.ref (hg_ad E 50)), some (.int x), some (.int w), some (.int v), none] rfl (Nat.le_of_ble_eq_true rfl) ?_
  intro p e s m args below meth c cx
  have cx : hg_Cx E p s m args meth c cX6_set 5 RX6 (some .int) := cx
  obtain ⟨hn10, hn, g0, g1, g2, hag⟩ := hc.get
  refine hg_aload0 (pc' := 1) cx dX6_set_0 rfl ?_
  refine hg_iload1 (pc' := 2) cx dX6_set_1 rfl ?_
  refine cv_X6_83 (pc' := 5) cx (K_X6_isHat l E _ (S.1 0).2 hn10 hn _) ⟨rfl, rfl, Nat.le_of_ble_eq_true rfl, Nat.le_of_ble_eq_true rfl⟩ (Nat.le_of_ble_eq_true rfl) dX6_set_2 rfl (fun r_2 τ_2 h_2 => ?_)
  obtain ⟨rfl, rfl⟩ := h_2
  refine hg_if_eq (pc' := 8) cx 35 dX6_set_5 (by decide) rfl (fun c_5 => ?_) (fun c_5 => ?_)
  ·
    refine hg_iconst (pc' := 36) cx 0 dX6_set_35 (by decide) rfl ?_
    refine hg_istore4 (pc' := 38) cx rfl dX6_set_36 rfl ?_
    refine hg_iload4 (pc' := 40) cx dX6_set_38 rfl ?_
    refine hg_if_eq (pc' := 43) cx 59 dX6_set_40 (by decide) rfl (fun c_40 => ?_) (fun c_40 => ?_)
    ·
      refine hg_aload0 (pc' := 60) cx dX6_set_59 rfl ?_
      refine hg_ldc (pc' := 62) cx kc_X6_38 dX6_set_60 rfl ?_
      refine cv_X6_40 (pc' := 65) cx (K_X6_finds l E _ (-1000000001) 0 (by decide) (by decide)) ⟨rfl, rfl, Nat.le_of_ble_eq_true rfl, Nat.le_of_ble_eq_true rfl⟩ (Nat.le_of_ble_eq_true rfl) dX6_set_62 rfl (fun r_62 τ_62 h_62 => ?_)
      obtain ⟨rfl, rfl⟩ := h_62
      refine hg_iret cx dX6_set_65 ⟨_, rfl, ?_⟩
      simp only [op_set, sp_hz, c_5, c_40, not_true_eq_false, not_false_eq_true, true_or, or_true, false_or, or_false, or_self, if_true, if_false, and_self]
      exact hc.find (by decide) (by decide)
    ·
      exact absurd c_40 (by decide)
  ·
    refine hg_iload2 (pc' := 9) cx dX6_set_8 rfl ?_
    refine hg_i2l (pc' := 10) cx dX6_set_9 rfl ?_
    refine hg_iconst (pc' := 11) cx 1 dX6_set_10 (by decide) rfl ?_
    refine hg_iconst (pc' := 12) cx 5 dX6_set_11 (by decide) rfl ?_
    refine cs_X6_44 (pc' := 15) cx (K_X6_in l E _ _ _ _) ⟨rfl, rfl, Nat.le_of_ble_eq_true rfl, Nat.le_of_ble_eq_true rfl⟩ (Nat.le_of_ble_eq_true rfl) dX6_set_12 rfl (fun r_12 τ_12 h_12 => ?_)
    obtain ⟨rfl, rfl⟩ := h_12
    rw [sp_inL_out]
    refine hg_if_eq (pc' := 18) cx 35 dX6_set_15 (by decide) rfl (fun c_15 => ?_) (fun c_15 => ?_)
    ·
      replace c_15 := hg_b0 c_15
      refine hg_iconst (pc' := 36) cx 0 dX6_set_35 (by decide) rfl ?_
      refine hg_istore4 (pc' := 38) cx rfl dX6_set_36 rfl ?_
      refine hg_iload4 (pc' := 40) cx dX6_set_38 rfl ?_
      refine hg_if_eq (pc' := 43) cx 59 dX6_set_40 (by decide) rfl (fun c_40 => ?_) (fun c_40 => ?_)
      ·
        refine hg_aload0 (pc' := 60) cx dX6_set_59 rfl ?_
        refine hg_ldc (pc' := 62) cx kc_X6_38 dX6_set_60 rfl ?_
        refine cv_X6_40 (pc' := 65) cx (K_X6_finds l E _ (-1000000001) 0 (by decide) (by decide)) ⟨rfl, rfl, Nat.le_of_ble_eq_true rfl, Nat.le_of_ble_eq_true rfl⟩ (Nat.le_of_ble_eq_true rfl) dX6_set_62 rfl (fun r_62 τ_62 h_62 => ?_)
        obtain ⟨rfl, rfl⟩ := h_62
        refine hg_iret cx dX6_set_65 ⟨_, rfl, ?_⟩
        simp only [op_set, sp_hz, c_5, c_15, c_40, not_true_eq_false, not_false_eq_true, true_or, or_true, false_or, or_false, or_self, if_true, if_false, and_self]
        exact hc.find (by decide) (by decide)
      ·
        exact absurd c_40 (by decide)
    ·
      replace c_15 := hg_b1 c_15
      refine hg_iload3 (pc' := 19) cx dX6_set_18 rfl ?_
      refine hg_i2l (pc' := 20) cx dX6_set_19 rfl ?_
      refine hg_iconst (pc' := 21) cx 0 dX6_set_20 (by decide) rfl ?_
      refine hg_iload2 (pc' := 22) cx dX6_set_21 rfl ?_
      refine cs_X6_93 (pc' := 25) cx (K_X6_mostOf l E _ _) ⟨rfl, rfl, Nat.le_of_ble_eq_true rfl, Nat.le_of_ble_eq_true rfl⟩ (Nat.le_of_ble_eq_true rfl) dX6_set_22 rfl (fun r_22 τ_22 h_22 => ?_)
      obtain ⟨rfl, rfl⟩ := h_22
      refine cs_X6_44 (pc' := 28) cx (K_X6_in l E _ _ _ _) ⟨rfl, rfl, Nat.le_of_ble_eq_true rfl, Nat.le_of_ble_eq_true rfl⟩ (Nat.le_of_ble_eq_true rfl) dX6_set_25 rfl (fun r_25 τ_25 h_25 => ?_)
      obtain ⟨rfl, rfl⟩ := h_25
      rw [sp_inL_out]
      refine hg_if_eq (pc' := 31) cx 35 dX6_set_28 (by decide) rfl (fun c_28 => ?_) (fun c_28 => ?_)
      ·
        replace c_28 := hg_b0 c_28
        refine hg_iconst (pc' := 36) cx 0 dX6_set_35 (by decide) rfl ?_
        refine hg_istore4 (pc' := 38) cx rfl dX6_set_36 rfl ?_
        refine hg_iload4 (pc' := 40) cx dX6_set_38 rfl ?_
        refine hg_if_eq (pc' := 43) cx 59 dX6_set_40 (by decide) rfl (fun c_40 => ?_) (fun c_40 => ?_)
        ·
          refine hg_aload0 (pc' := 60) cx dX6_set_59 rfl ?_
          refine hg_ldc (pc' := 62) cx kc_X6_38 dX6_set_60 rfl ?_
          refine cv_X6_40 (pc' := 65) cx (K_X6_finds l E _ (-1000000001) 0 (by decide) (by decide)) ⟨rfl, rfl, Nat.le_of_ble_eq_true rfl, Nat.le_of_ble_eq_true rfl⟩ (Nat.le_of_ble_eq_true rfl) dX6_set_62 rfl (fun r_62 τ_62 h_62 => ?_)
          obtain ⟨rfl, rfl⟩ := h_62
          refine hg_iret cx dX6_set_65 ⟨_, rfl, ?_⟩
          simp only [op_set, sp_hz, c_5, c_15, c_28, c_40, not_true_eq_false, not_false_eq_true, true_or, or_true, false_or, or_false, or_self, if_true, if_false, and_self]
          exact hc.find (by decide) (by decide)
        ·
          exact absurd c_40 (by decide)
      ·
        replace c_28 := hg_b1 c_28
        refine hg_iconst (pc' := 32) cx 1 dX6_set_31 (by decide) rfl ?_
        refine hg_goto cx 36 dX6_set_32 (by decide) ?_
        refine hg_istore4 (pc' := 38) cx rfl dX6_set_36 rfl ?_
        refine hg_iload4 (pc' := 40) cx dX6_set_38 rfl ?_
        refine hg_if_eq (pc' := 43) cx 59 dX6_set_40 (by decide) rfl (fun c_40 => ?_) (fun c_40 => ?_)
        ·
          exact absurd c_40 (by decide)
        ·
          obtain ⟨j, hjn, rfl⟩ := sp_hz_of hn10 c_5
          have hcl : (nI j).toNatClampNeg = j := nI_clamp (by omega)
          have hj := hag j hjn
          obtain ⟨b, hb1, hb5, rfl⟩ := sp_out_of 1 5 (by decide) (by decide) (by decide) (by decide) c_15
          refine hg_aload0 (pc' := 44) cx dX6_set_43 rfl ?_
          refine hg_iconst (pc' := 45) cx (nI 4) dX6_set_44 (by decide) rfl ?_
          refine hg_bipush (pc' := 47) cx (nI 6) dX6_set_45 (by decide) rfl ?_
          refine hg_iload1 (pc' := 48) cx dX6_set_47 rfl ?_
          refine hg_imul (pc' := 49) cx dX6_set_48 rfl ?_
          refine hg_iadd (pc' := 50) cx dX6_set_49 rfl ?_
          refine hg_iload2 (pc' := 51) cx dX6_set_50 rfl ?_
          refine hg_iadd (pc' := 52) cx dX6_set_51 rfl ?_
          rw [pk_mul, nI_add, nI_add]
          refine hg_iload3 (pc' := 53) cx dX6_set_52 rfl ?_
          refine cv_X6_52 (pc' := 56) cx (K_X6_becomes l E _ (4 + 6 * j + b) (by omega) _) ⟨rfl, rfl, Nat.le_of_ble_eq_true rfl, Nat.le_of_ble_eq_true rfl⟩ (Nat.le_of_ble_eq_true rfl) dX6_set_53 rfl (fun r_53 τ_53 h_53 => ?_)
          obtain ⟨rfl, rfl⟩ := h_53
          refine hg_goto cx 65 dX6_set_56 (by decide) ?_
          refine hg_iret cx dX6_set_65 ⟨_, rfl, ?_⟩
          simp only [op_set, sp_hz, c_5, c_15, c_28, hcl, not_true_eq_false, or_self, if_false]
          refine ⟨(hj b (by omega)).trans (sp_trait_nI _ (by omega)).symm, ?_⟩
          rw [sp_put_nI _ hb1 hb5]
          exact hc.setC _ _ rfl (fun i h1 _ _ => by rw [hg_sI_eq, hg_sH_ne _ _ h1]) (hc.1.putF hjn (by omega) v)
set_option maxHeartbeats 4000000 in
set_option maxRecDepth 100000 in
theorem K_X6_turn (l : Launch) (E : hg_Wd) (σ : hg_Mem) (S : sp_S) (hc : cw_M σ S) (hv : vs_S S) (x : Int32) (k : Int32) : hg_C l E yX6_turn cX6_turn 3 (some .int) { frames := 2, cells := 0, slots := 0, locals := 44 } [.ref (hg_ad E 50), .int x, .int k] σ (hg_pi (fun r τ => mw_P σ (op_turn S x k) r τ)) := by
  refine hg_intro (by decide) [some (.ref (hg_ad E 50)), some (.int x), some (.int k)] rfl (Nat.le_of_ble_eq_true rfl) ?_
  intro p e s m args below meth c cx
  have cx : hg_Cx E p s m args meth c cX6_turn 3 RX6 (some .int) := cx
  obtain ⟨hn10, hn, g0, g1, g2, hag⟩ := hc.get
  refine hg_aload0 (pc' := 1) cx dX6_turn_0 rfl ?_
  refine hg_iload1 (pc' := 2) cx dX6_turn_1 rfl ?_
  refine cv_X6_83 (pc' := 5) cx (K_X6_isHat l E _ (S.1 0).2 hn10 hn _) ⟨rfl, rfl, Nat.le_of_ble_eq_true rfl, Nat.le_of_ble_eq_true rfl⟩ (Nat.le_of_ble_eq_true rfl) dX6_turn_2 rfl (fun r_2 τ_2 h_2 => ?_)
  obtain ⟨rfl, rfl⟩ := h_2
  refine hg_if_eq (pc' := 8) cx 32 dX6_turn_5 (by decide) rfl (fun c_5 => ?_) (fun c_5 => ?_)
  ·
    refine hg_aload0 (pc' := 33) cx dX6_turn_32 rfl ?_
    refine hg_ldc (pc' := 35) cx kc_X6_38 dX6_turn_33 rfl ?_
    refine cv_X6_40 (pc' := 38) cx (K_X6_finds l E _ (-1000000001) 0 (by decide) (by decide)) ⟨rfl, rfl, Nat.le_of_ble_eq_true rfl, Nat.le_of_ble_eq_true rfl⟩ (Nat.le_of_ble_eq_true rfl) dX6_turn_35 rfl (fun r_35 τ_35 h_35 => ?_)
    obtain ⟨rfl, rfl⟩ := h_35
    refine hg_iret cx dX6_turn_38 ⟨_, rfl, ?_⟩
    simp only [op_turn, sp_hz, c_5, not_true_eq_false, not_false_eq_true, true_or, or_true, false_or, or_false, or_self, if_true, if_false, and_self]
    exact hc.find (by decide) (by decide)
  ·
    refine hg_iload2 (pc' := 9) cx dX6_turn_8 rfl ?_
    refine hg_i2l (pc' := 10) cx dX6_turn_9 rfl ?_
    refine hg_iconst (pc' := 11) cx 0 dX6_turn_10 (by decide) rfl ?_
    refine hg_iconst (pc' := 12) cx 5 dX6_turn_11 (by decide) rfl ?_
    refine cs_X6_44 (pc' := 15) cx (K_X6_in l E _ _ _ _) ⟨rfl, rfl, Nat.le_of_ble_eq_true rfl, Nat.le_of_ble_eq_true rfl⟩ (Nat.le_of_ble_eq_true rfl) dX6_turn_12 rfl (fun r_12 τ_12 h_12 => ?_)
    obtain ⟨rfl, rfl⟩ := h_12
    rw [sp_inL_out]
    refine hg_if_eq (pc' := 18) cx 32 dX6_turn_15 (by decide) rfl (fun c_15 => ?_) (fun c_15 => ?_)
    ·
      replace c_15 := hg_b0 c_15
      refine hg_aload0 (pc' := 33) cx dX6_turn_32 rfl ?_
      refine hg_ldc (pc' := 35) cx kc_X6_38 dX6_turn_33 rfl ?_
      refine cv_X6_40 (pc' := 38) cx (K_X6_finds l E _ (-1000000001) 0 (by decide) (by decide)) ⟨rfl, rfl, Nat.le_of_ble_eq_true rfl, Nat.le_of_ble_eq_true rfl⟩ (Nat.le_of_ble_eq_true rfl) dX6_turn_35 rfl (fun r_35 τ_35 h_35 => ?_)
      obtain ⟨rfl, rfl⟩ := h_35
      refine hg_iret cx dX6_turn_38 ⟨_, rfl, ?_⟩
      simp only [op_turn, sp_hz, c_5, c_15, not_true_eq_false, not_false_eq_true, true_or, or_true, false_or, or_false, or_self, if_true, if_false, and_self]
      exact hc.find (by decide) (by decide)
    ·
      replace c_15 := hg_b1 c_15
      obtain ⟨j, hjn, rfl⟩ := sp_hz_of hn10 c_5
      have hcl : (nI j).toNatClampNeg = j := nI_clamp (by omega)
      have hj := hag j hjn
      refine hg_aload0 (pc' := 19) cx dX6_turn_18 rfl ?_
      refine hg_iconst (pc' := 20) cx (nI 4) dX6_turn_19 (by decide) rfl ?_
      refine hg_bipush (pc' := 22) cx (nI 6) dX6_turn_20 (by decide) rfl ?_
      refine hg_iload1 (pc' := 23) cx dX6_turn_22 rfl ?_
      refine hg_imul (pc' := 24) cx dX6_turn_23 rfl ?_
      refine hg_iadd (pc' := 25) cx dX6_turn_24 rfl ?_
      rw [pk_mul, nI_add]
      refine hg_iload2 (pc' := 26) cx dX6_turn_25 rfl ?_
      refine cv_X6_52 (pc' := 29) cx (K_X6_becomes l E _ (4 + 6 * j) (by omega) _) ⟨rfl, rfl, Nat.le_of_ble_eq_true rfl, Nat.le_of_ble_eq_true rfl⟩ (Nat.le_of_ble_eq_true rfl) dX6_turn_26 rfl (fun r_26 τ_26 h_26 => ?_)
      obtain ⟨rfl, rfl⟩ := h_26
      refine hg_goto cx 38 dX6_turn_29 (by decide) ?_
      refine hg_iret cx dX6_turn_38 ⟨_, rfl, ?_⟩
      simp only [op_turn, sp_hz, c_5, c_15, hcl, not_true_eq_false, or_self, if_false]
      exact ⟨hj 0 (by decide), hc.setC _ _ rfl (fun i h1 _ _ => by rw [hg_sI_eq, hg_sH_ne _ _ h1]) (hc.1.putF hjn (k := 0) (by decide) k)⟩
set_option maxHeartbeats 4000000 in
set_option maxRecDepth 100000 in
theorem K_X6_as (l : Launch) (E : hg_Wd) (σ : hg_Mem) (S : sp_S) (hc : cw_M σ S) (hv : vs_S S) (x : Int32) (k : Int32) : hg_C l E yX6_as cX6_as 5 (some .int) { frames := 2, cells := 0, slots := 0, locals := 44 } [.ref (hg_ad E 50), .int x, .int k] σ (hg_pi (fun r τ => mw_P σ (op_as S x k) r τ)) := by
  refine hg_intro (by decide) [some (.ref (hg_ad E 50)), some (.int x), some (.int k), none, none] rfl (Nat.le_of_ble_eq_true rfl) ?_
  intro p e s m args below meth c cx
  have cx : hg_Cx E p s m args meth c cX6_as 5 RX6 (some .int) := cx
  obtain ⟨hn10, hn, g0, g1, g2, hag⟩ := hc.get
  refine hg_aload0 (pc' := 1) cx dX6_as_0 rfl ?_
  refine hg_iload1 (pc' := 2) cx dX6_as_1 rfl ?_
  refine cv_X6_83 (pc' := 5) cx (K_X6_isHat l E _ (S.1 0).2 hn10 hn _) ⟨rfl, rfl, Nat.le_of_ble_eq_true rfl, Nat.le_of_ble_eq_true rfl⟩ (Nat.le_of_ble_eq_true rfl) dX6_as_2 rfl (fun r_2 τ_2 h_2 => ?_)
  obtain ⟨rfl, rfl⟩ := h_2
  refine hg_if_eq (pc' := 8) cx 18 dX6_as_5 (by decide) rfl (fun c_5 => ?_) (fun c_5 => ?_)
  ·
    refine hg_aload0 (pc' := 19) cx dX6_as_18 rfl ?_
    refine hg_ldc (pc' := 21) cx kc_X6_38 dX6_as_19 rfl ?_
    refine cv_X6_40 (pc' := 24) cx (K_X6_finds l E _ (-1000000001) 0 (by decide) (by decide)) ⟨rfl, rfl, Nat.le_of_ble_eq_true rfl, Nat.le_of_ble_eq_true rfl⟩ (Nat.le_of_ble_eq_true rfl) dX6_as_21 rfl (fun r_21 τ_21 h_21 => ?_)
    obtain ⟨rfl, rfl⟩ := h_21
    refine hg_iret cx dX6_as_24 ⟨_, rfl, ?_⟩
    simp only [op_as, sp_hz, c_5, not_true_eq_false, not_false_eq_true, true_or, or_true, false_or, or_false, or_self, if_true, if_false, and_self]
    exact hc.find (by decide) (by decide)
  ·
    refine hg_iload2 (pc' := 9) cx dX6_as_8 rfl ?_
    refine hg_i2l (pc' := 10) cx dX6_as_9 rfl ?_
    refine hg_iconst (pc' := 11) cx 0 dX6_as_10 (by decide) rfl ?_
    refine hg_iconst (pc' := 12) cx 5 dX6_as_11 (by decide) rfl ?_
    refine cs_X6_44 (pc' := 15) cx (K_X6_in l E _ _ _ _) ⟨rfl, rfl, Nat.le_of_ble_eq_true rfl, Nat.le_of_ble_eq_true rfl⟩ (Nat.le_of_ble_eq_true rfl) dX6_as_12 rfl (fun r_12 τ_12 h_12 => ?_)
    obtain ⟨rfl, rfl⟩ := h_12
    rw [sp_inL_out]
    refine hg_if_ne (pc' := 18) cx 25 dX6_as_15 (by decide) rfl (fun c_15 => ?_) (fun c_15 => ?_)
    ·
      replace c_15 := hg_b1 c_15
      obtain ⟨j, hjn, rfl⟩ := sp_hz_of hn10 c_5
      have hcl : (nI j).toNatClampNeg = j := nI_clamp (by omega)
      have hj := hag j hjn
      refine hg_aload0 (pc' := 26) cx dX6_as_25 rfl ?_
      refine hg_iload1 (pc' := 27) cx dX6_as_26 rfl ?_
      refine hg_iconst (pc' := 28) cx (nI 0) dX6_as_27 (by decide) rfl ?_
      refine cv_X6_48 (pc' := 31) cx (K_X6_it l E _ j (by omega) 0 (by omega)) ⟨rfl, rfl, Nat.le_of_ble_eq_true rfl, Nat.le_of_ble_eq_true rfl⟩ (Nat.le_of_ble_eq_true rfl) dX6_as_28 rfl (fun r_28 τ_28 h_28 => ?_)
      obtain ⟨rfl, rfl⟩ := h_28
      refine hg_istore3 (pc' := 32) cx rfl dX6_as_31 rfl ?_
      refine hg_iload2 (pc' := 33) cx dX6_as_32 rfl ?_
      refine hg_if_eq (pc' := 36) cx 61 dX6_as_33 (by decide) rfl (fun c_33 => ?_) (fun c_33 => ?_)
      ·
        refine hg_iconst (pc' := 62) cx 1 dX6_as_61 (by decide) rfl ?_
        refine hg_goto cx 66 dX6_as_62 (by decide) ?_
        refine hg_istore4 (pc' := 68) cx rfl dX6_as_66 rfl ?_
        refine hg_iload4 (pc' := 70) cx dX6_as_68 rfl ?_
        refine hg_if_eq (pc' := 73) cx 82 dX6_as_70 (by decide) rfl (fun c_70 => ?_) (fun c_70 => ?_)
        ·
          exact absurd c_70 (by decide)
        ·
          refine hg_aload0 (pc' := 74) cx dX6_as_73 rfl ?_
          refine hg_iload1 (pc' := 75) cx dX6_as_74 rfl ?_
          refine hg_iconst (pc' := 76) cx (nI 1) dX6_as_75 (by decide) rfl ?_
          refine cv_X6_48 (pc' := 79) cx (K_X6_it l E _ j (by omega) 1 (by omega)) ⟨rfl, rfl, Nat.le_of_ble_eq_true rfl, Nat.le_of_ble_eq_true rfl⟩ (Nat.le_of_ble_eq_true rfl) dX6_as_76 rfl (fun r_76 τ_76 h_76 => ?_)
          obtain ⟨rfl, rfl⟩ := h_76
          refine hg_goto cx 88 dX6_as_79 (by decide) ?_
          refine hg_iret cx dX6_as_88 ⟨_, rfl, ?_⟩
          have e0 : σ.1 51 (4 + 6 * j + 0) = (S.1 0).1.2 j 0 := hj 0 (by decide)
          have hk : sp_isKind ((S.1 0).1.2 j) k = 1 ∨ sp_isKind ((S.1 0).1.2 j) k = 0 := by
            unfold sp_isKind; split
            · exact Or.inl rfl
            · exact Or.inr rfl
          first
            | (have hk1 : sp_isKind ((S.1 0).1.2 j) k = 0 := by
                 unfold sp_isKind
                 rw [if_neg]
                 rw [← e0]
                 rintro (z | z | z | z)
                 · exact c_38 z
                 · exact c_33 z
                 · first | exact c_43 z.1 | exact c_48 z.2
                 · first | exact c_53 z.1 | exact c_58 z.2
               simp only [op_as, sp_hz, c_5, c_15, hcl, hk1, not_true_eq_false, or_self, if_false, if_true]
               exact hc.find (by decide) (by decide))
            | (have hk1 : ¬ sp_isKind ((S.1 0).1.2 j) k = 0 := by
                 unfold sp_isKind
                 rw [if_pos]
                 · decide
                 · rw [← e0]
                   first | exact Or.inr (Or.inl c_33) | exact Or.inl c_38 | exact Or.inr (Or.inr (Or.inl ⟨c_43, c_48⟩)) | exact Or.inr (Or.inr (Or.inr ⟨c_53, c_58⟩))
               simp only [op_as, sp_hz, c_5, c_15, hcl, hk1, not_true_eq_false, or_self, if_false]
               exact ⟨hj 1 (by decide), hc, mw_Fr.rf _⟩)
      ·
        refine hg_iload2 (pc' := 37) cx dX6_as_36 rfl ?_
        refine hg_iload3 (pc' := 38) cx dX6_as_37 rfl ?_
        refine hg_icmp_eq (pc' := 41) cx 61 dX6_as_38 (by decide) rfl (fun c_38 => ?_) (fun c_38 => ?_)
        ·
          refine hg_iconst (pc' := 62) cx 1 dX6_as_61 (by decide) rfl ?_
          refine hg_goto cx 66 dX6_as_62 (by decide) ?_
          refine hg_istore4 (pc' := 68) cx rfl dX6_as_66 rfl ?_
          refine hg_iload4 (pc' := 70) cx dX6_as_68 rfl ?_
          refine hg_if_eq (pc' := 73) cx 82 dX6_as_70 (by decide) rfl (fun c_70 => ?_) (fun c_70 => ?_)
          ·
            exact absurd c_70 (by decide)
          ·
            refine hg_aload0 (pc' := 74) cx dX6_as_73 rfl ?_
            refine hg_iload1 (pc' := 75) cx dX6_as_74 rfl ?_
            refine hg_iconst (pc' := 76) cx (nI 1) dX6_as_75 (by decide) rfl ?_
            refine cv_X6_48 (pc' := 79) cx (K_X6_it l E _ j (by omega) 1 (by omega)) ⟨rfl, rfl, Nat.le_of_ble_eq_true rfl, Nat.le_of_ble_eq_true rfl⟩ (Nat.le_of_ble_eq_true rfl) dX6_as_76 rfl (fun r_76 τ_76 h_76 => ?_)
            obtain ⟨rfl, rfl⟩ := h_76
            refine hg_goto cx 88 dX6_as_79 (by decide) ?_
            refine hg_iret cx dX6_as_88 ⟨_, rfl, ?_⟩
            have e0 : σ.1 51 (4 + 6 * j + 0) = (S.1 0).1.2 j 0 := hj 0 (by decide)
            have hk : sp_isKind ((S.1 0).1.2 j) k = 1 ∨ sp_isKind ((S.1 0).1.2 j) k = 0 := by
              unfold sp_isKind; split
              · exact Or.inl rfl
              · exact Or.inr rfl
            first
              | (have hk1 : sp_isKind ((S.1 0).1.2 j) k = 0 := by
                   unfold sp_isKind
                   rw [if_neg]
                   rw [← e0]
                   rintro (z | z | z | z)
                   · exact c_38 z
                   · exact c_33 z
                   · first | exact c_43 z.1 | exact c_48 z.2
                   · first | exact c_53 z.1 | exact c_58 z.2
                 simp only [op_as, sp_hz, c_5, c_15, hcl, hk1, not_true_eq_false, or_self, if_false, if_true]
                 exact hc.find (by decide) (by decide))
              | (have hk1 : ¬ sp_isKind ((S.1 0).1.2 j) k = 0 := by
                   unfold sp_isKind
                   rw [if_pos]
                   · decide
                   · rw [← e0]
                     first | exact Or.inr (Or.inl c_33) | exact Or.inl c_38 | exact Or.inr (Or.inr (Or.inl ⟨c_43, c_48⟩)) | exact Or.inr (Or.inr (Or.inr ⟨c_53, c_58⟩))
                 simp only [op_as, sp_hz, c_5, c_15, hcl, hk1, not_true_eq_false, or_self, if_false]
                 exact ⟨hj 1 (by decide), hc, mw_Fr.rf _⟩)
        ·
          refine hg_iload2 (pc' := 42) cx dX6_as_41 rfl ?_
          refine hg_iconst (pc' := 43) cx 1 dX6_as_42 (by decide) rfl ?_
          refine hg_icmp_ne (pc' := 46) cx 51 dX6_as_43 (by decide) rfl (fun c_43 => ?_) (fun c_43 => ?_)
          ·
            refine hg_iload2 (pc' := 52) cx dX6_as_51 rfl ?_
            refine hg_iconst (pc' := 53) cx 2 dX6_as_52 (by decide) rfl ?_
            refine hg_icmp_ne (pc' := 56) cx 65 dX6_as_53 (by decide) rfl (fun c_53 => ?_) (fun c_53 => ?_)
            ·
              refine hg_iconst (pc' := 66) cx 0 dX6_as_65 (by decide) rfl ?_
              refine hg_istore4 (pc' := 68) cx rfl dX6_as_66 rfl ?_
              refine hg_iload4 (pc' := 70) cx dX6_as_68 rfl ?_
              refine hg_if_eq (pc' := 73) cx 82 dX6_as_70 (by decide) rfl (fun c_70 => ?_) (fun c_70 => ?_)
              ·
                refine hg_aload0 (pc' := 83) cx dX6_as_82 rfl ?_
                refine hg_ldc (pc' := 85) cx kc_X6_96 dX6_as_83 rfl ?_
                refine cv_X6_40 (pc' := 88) cx (K_X6_finds l E _ (-1000000003) 2 (by decide) (by decide)) ⟨rfl, rfl, Nat.le_of_ble_eq_true rfl, Nat.le_of_ble_eq_true rfl⟩ (Nat.le_of_ble_eq_true rfl) dX6_as_85 rfl (fun r_85 τ_85 h_85 => ?_)
                obtain ⟨rfl, rfl⟩ := h_85
                refine hg_iret cx dX6_as_88 ⟨_, rfl, ?_⟩
                have e0 : σ.1 51 (4 + 6 * j + 0) = (S.1 0).1.2 j 0 := hj 0 (by decide)
                have hk : sp_isKind ((S.1 0).1.2 j) k = 1 ∨ sp_isKind ((S.1 0).1.2 j) k = 0 := by
                  unfold sp_isKind; split
                  · exact Or.inl rfl
                  · exact Or.inr rfl
                first
                  | (have hk1 : sp_isKind ((S.1 0).1.2 j) k = 0 := by
                       unfold sp_isKind
                       rw [if_neg]
                       rw [← e0]
                       rintro (z | z | z | z)
                       · exact c_38 z
                       · exact c_33 z
                       · first | exact c_43 z.1 | exact c_48 z.2
                       · first | exact c_53 z.1 | exact c_58 z.2
                     simp only [op_as, sp_hz, c_5, c_15, hcl, hk1, not_true_eq_false, or_self, if_false, if_true]
                     exact hc.find (by decide) (by decide))
                  | (have hk1 : ¬ sp_isKind ((S.1 0).1.2 j) k = 0 := by
                       unfold sp_isKind
                       rw [if_pos]
                       · decide
                       · rw [← e0]
                         first | exact Or.inr (Or.inl c_33) | exact Or.inl c_38 | exact Or.inr (Or.inr (Or.inl ⟨c_43, c_48⟩)) | exact Or.inr (Or.inr (Or.inr ⟨c_53, c_58⟩))
                     simp only [op_as, sp_hz, c_5, c_15, hcl, hk1, not_true_eq_false, or_self, if_false]
                     exact ⟨hj 1 (by decide), hc, mw_Fr.rf _⟩)
              ·
                exact absurd c_70 (by decide)
            ·
              refine hg_iload3 (pc' := 57) cx dX6_as_56 rfl ?_
              refine hg_iconst (pc' := 58) cx 5 dX6_as_57 (by decide) rfl ?_
              refine hg_icmp_ne (pc' := 61) cx 65 dX6_as_58 (by decide) rfl (fun c_58 => ?_) (fun c_58 => ?_)
              ·
                refine hg_iconst (pc' := 66) cx 0 dX6_as_65 (by decide) rfl ?_
                refine hg_istore4 (pc' := 68) cx rfl dX6_as_66 rfl ?_
                refine hg_iload4 (pc' := 70) cx dX6_as_68 rfl ?_
                refine hg_if_eq (pc' := 73) cx 82 dX6_as_70 (by decide) rfl (fun c_70 => ?_) (fun c_70 => ?_)
                ·
                  refine hg_aload0 (pc' := 83) cx dX6_as_82 rfl ?_
                  refine hg_ldc (pc' := 85) cx kc_X6_96 dX6_as_83 rfl ?_
                  refine cv_X6_40 (pc' := 88) cx (K_X6_finds l E _ (-1000000003) 2 (by decide) (by decide)) ⟨rfl, rfl, Nat.le_of_ble_eq_true rfl, Nat.le_of_ble_eq_true rfl⟩ (Nat.le_of_ble_eq_true rfl) dX6_as_85 rfl (fun r_85 τ_85 h_85 => ?_)
                  obtain ⟨rfl, rfl⟩ := h_85
                  refine hg_iret cx dX6_as_88 ⟨_, rfl, ?_⟩
                  have e0 : σ.1 51 (4 + 6 * j + 0) = (S.1 0).1.2 j 0 := hj 0 (by decide)
                  have hk : sp_isKind ((S.1 0).1.2 j) k = 1 ∨ sp_isKind ((S.1 0).1.2 j) k = 0 := by
                    unfold sp_isKind; split
                    · exact Or.inl rfl
                    · exact Or.inr rfl
                  first
                    | (have hk1 : sp_isKind ((S.1 0).1.2 j) k = 0 := by
                         unfold sp_isKind
                         rw [if_neg]
                         rw [← e0]
                         rintro (z | z | z | z)
                         · exact c_38 z
                         · exact c_33 z
                         · first | exact c_43 z.1 | exact c_48 z.2
                         · first | exact c_53 z.1 | exact c_58 z.2
                       simp only [op_as, sp_hz, c_5, c_15, hcl, hk1, not_true_eq_false, or_self, if_false, if_true]
                       exact hc.find (by decide) (by decide))
                    | (have hk1 : ¬ sp_isKind ((S.1 0).1.2 j) k = 0 := by
                         unfold sp_isKind
                         rw [if_pos]
                         · decide
                         · rw [← e0]
                           first | exact Or.inr (Or.inl c_33) | exact Or.inl c_38 | exact Or.inr (Or.inr (Or.inl ⟨c_43, c_48⟩)) | exact Or.inr (Or.inr (Or.inr ⟨c_53, c_58⟩))
                       simp only [op_as, sp_hz, c_5, c_15, hcl, hk1, not_true_eq_false, or_self, if_false]
                       exact ⟨hj 1 (by decide), hc, mw_Fr.rf _⟩)
                ·
                  exact absurd c_70 (by decide)
              ·
                refine hg_iconst (pc' := 62) cx 1 dX6_as_61 (by decide) rfl ?_
                refine hg_goto cx 66 dX6_as_62 (by decide) ?_
                refine hg_istore4 (pc' := 68) cx rfl dX6_as_66 rfl ?_
                refine hg_iload4 (pc' := 70) cx dX6_as_68 rfl ?_
                refine hg_if_eq (pc' := 73) cx 82 dX6_as_70 (by decide) rfl (fun c_70 => ?_) (fun c_70 => ?_)
                ·
                  exact absurd c_70 (by decide)
                ·
                  refine hg_aload0 (pc' := 74) cx dX6_as_73 rfl ?_
                  refine hg_iload1 (pc' := 75) cx dX6_as_74 rfl ?_
                  refine hg_iconst (pc' := 76) cx (nI 1) dX6_as_75 (by decide) rfl ?_
                  refine cv_X6_48 (pc' := 79) cx (K_X6_it l E _ j (by omega) 1 (by omega)) ⟨rfl, rfl, Nat.le_of_ble_eq_true rfl, Nat.le_of_ble_eq_true rfl⟩ (Nat.le_of_ble_eq_true rfl) dX6_as_76 rfl (fun r_76 τ_76 h_76 => ?_)
                  obtain ⟨rfl, rfl⟩ := h_76
                  refine hg_goto cx 88 dX6_as_79 (by decide) ?_
                  refine hg_iret cx dX6_as_88 ⟨_, rfl, ?_⟩
                  have e0 : σ.1 51 (4 + 6 * j + 0) = (S.1 0).1.2 j 0 := hj 0 (by decide)
                  have hk : sp_isKind ((S.1 0).1.2 j) k = 1 ∨ sp_isKind ((S.1 0).1.2 j) k = 0 := by
                    unfold sp_isKind; split
                    · exact Or.inl rfl
                    · exact Or.inr rfl
                  first
                    | (have hk1 : sp_isKind ((S.1 0).1.2 j) k = 0 := by
                         unfold sp_isKind
                         rw [if_neg]
                         rw [← e0]
                         rintro (z | z | z | z)
                         · exact c_38 z
                         · exact c_33 z
                         · first | exact c_43 z.1 | exact c_48 z.2
                         · first | exact c_53 z.1 | exact c_58 z.2
                       simp only [op_as, sp_hz, c_5, c_15, hcl, hk1, not_true_eq_false, or_self, if_false, if_true]
                       exact hc.find (by decide) (by decide))
                    | (have hk1 : ¬ sp_isKind ((S.1 0).1.2 j) k = 0 := by
                         unfold sp_isKind
                         rw [if_pos]
                         · decide
                         · rw [← e0]
                           first | exact Or.inr (Or.inl c_33) | exact Or.inl c_38 | exact Or.inr (Or.inr (Or.inl ⟨c_43, c_48⟩)) | exact Or.inr (Or.inr (Or.inr ⟨c_53, c_58⟩))
                       simp only [op_as, sp_hz, c_5, c_15, hcl, hk1, not_true_eq_false, or_self, if_false]
                       exact ⟨hj 1 (by decide), hc, mw_Fr.rf _⟩)
          ·
            refine hg_iload3 (pc' := 47) cx dX6_as_46 rfl ?_
            refine hg_iconst (pc' := 48) cx 4 dX6_as_47 (by decide) rfl ?_
            refine hg_icmp_eq (pc' := 51) cx 61 dX6_as_48 (by decide) rfl (fun c_48 => ?_) (fun c_48 => ?_)
            ·
              refine hg_iconst (pc' := 62) cx 1 dX6_as_61 (by decide) rfl ?_
              refine hg_goto cx 66 dX6_as_62 (by decide) ?_
              refine hg_istore4 (pc' := 68) cx rfl dX6_as_66 rfl ?_
              refine hg_iload4 (pc' := 70) cx dX6_as_68 rfl ?_
              refine hg_if_eq (pc' := 73) cx 82 dX6_as_70 (by decide) rfl (fun c_70 => ?_) (fun c_70 => ?_)
              ·
                exact absurd c_70 (by decide)
              ·
                refine hg_aload0 (pc' := 74) cx dX6_as_73 rfl ?_
                refine hg_iload1 (pc' := 75) cx dX6_as_74 rfl ?_
                refine hg_iconst (pc' := 76) cx (nI 1) dX6_as_75 (by decide) rfl ?_
                refine cv_X6_48 (pc' := 79) cx (K_X6_it l E _ j (by omega) 1 (by omega)) ⟨rfl, rfl, Nat.le_of_ble_eq_true rfl, Nat.le_of_ble_eq_true rfl⟩ (Nat.le_of_ble_eq_true rfl) dX6_as_76 rfl (fun r_76 τ_76 h_76 => ?_)
                obtain ⟨rfl, rfl⟩ := h_76
                refine hg_goto cx 88 dX6_as_79 (by decide) ?_
                refine hg_iret cx dX6_as_88 ⟨_, rfl, ?_⟩
                have e0 : σ.1 51 (4 + 6 * j + 0) = (S.1 0).1.2 j 0 := hj 0 (by decide)
                have hk : sp_isKind ((S.1 0).1.2 j) k = 1 ∨ sp_isKind ((S.1 0).1.2 j) k = 0 := by
                  unfold sp_isKind; split
                  · exact Or.inl rfl
                  · exact Or.inr rfl
                first
                  | (have hk1 : sp_isKind ((S.1 0).1.2 j) k = 0 := by
                       unfold sp_isKind
                       rw [if_neg]
                       rw [← e0]
                       rintro (z | z | z | z)
                       · exact c_38 z
                       · exact c_33 z
                       · first | exact c_43 z.1 | exact c_48 z.2
                       · first | exact c_53 z.1 | exact c_58 z.2
                     simp only [op_as, sp_hz, c_5, c_15, hcl, hk1, not_true_eq_false, or_self, if_false, if_true]
                     exact hc.find (by decide) (by decide))
                  | (have hk1 : ¬ sp_isKind ((S.1 0).1.2 j) k = 0 := by
                       unfold sp_isKind
                       rw [if_pos]
                       · decide
                       · rw [← e0]
                         first | exact Or.inr (Or.inl c_33) | exact Or.inl c_38 | exact Or.inr (Or.inr (Or.inl ⟨c_43, c_48⟩)) | exact Or.inr (Or.inr (Or.inr ⟨c_53, c_58⟩))
                     simp only [op_as, sp_hz, c_5, c_15, hcl, hk1, not_true_eq_false, or_self, if_false]
                     exact ⟨hj 1 (by decide), hc, mw_Fr.rf _⟩)
            ·
              refine hg_iload2 (pc' := 52) cx dX6_as_51 rfl ?_
              refine hg_iconst (pc' := 53) cx 2 dX6_as_52 (by decide) rfl ?_
              refine hg_icmp_ne (pc' := 56) cx 65 dX6_as_53 (by decide) rfl (fun c_53 => ?_) (fun c_53 => ?_)
              ·
                refine hg_iconst (pc' := 66) cx 0 dX6_as_65 (by decide) rfl ?_
                refine hg_istore4 (pc' := 68) cx rfl dX6_as_66 rfl ?_
                refine hg_iload4 (pc' := 70) cx dX6_as_68 rfl ?_
                refine hg_if_eq (pc' := 73) cx 82 dX6_as_70 (by decide) rfl (fun c_70 => ?_) (fun c_70 => ?_)
                ·
                  refine hg_aload0 (pc' := 83) cx dX6_as_82 rfl ?_
                  refine hg_ldc (pc' := 85) cx kc_X6_96 dX6_as_83 rfl ?_
                  refine cv_X6_40 (pc' := 88) cx (K_X6_finds l E _ (-1000000003) 2 (by decide) (by decide)) ⟨rfl, rfl, Nat.le_of_ble_eq_true rfl, Nat.le_of_ble_eq_true rfl⟩ (Nat.le_of_ble_eq_true rfl) dX6_as_85 rfl (fun r_85 τ_85 h_85 => ?_)
                  obtain ⟨rfl, rfl⟩ := h_85
                  refine hg_iret cx dX6_as_88 ⟨_, rfl, ?_⟩
                  have e0 : σ.1 51 (4 + 6 * j + 0) = (S.1 0).1.2 j 0 := hj 0 (by decide)
                  have hk : sp_isKind ((S.1 0).1.2 j) k = 1 ∨ sp_isKind ((S.1 0).1.2 j) k = 0 := by
                    unfold sp_isKind; split
                    · exact Or.inl rfl
                    · exact Or.inr rfl
                  first
                    | (have hk1 : sp_isKind ((S.1 0).1.2 j) k = 0 := by
                         unfold sp_isKind
                         rw [if_neg]
                         rw [← e0]
                         rintro (z | z | z | z)
                         · exact c_38 z
                         · exact c_33 z
                         · first | exact c_43 z.1 | exact c_48 z.2
                         · first | exact c_53 z.1 | exact c_58 z.2
                       simp only [op_as, sp_hz, c_5, c_15, hcl, hk1, not_true_eq_false, or_self, if_false, if_true]
                       exact hc.find (by decide) (by decide))
                    | (have hk1 : ¬ sp_isKind ((S.1 0).1.2 j) k = 0 := by
                         unfold sp_isKind
                         rw [if_pos]
                         · decide
                         · rw [← e0]
                           first | exact Or.inr (Or.inl c_33) | exact Or.inl c_38 | exact Or.inr (Or.inr (Or.inl ⟨c_43, c_48⟩)) | exact Or.inr (Or.inr (Or.inr ⟨c_53, c_58⟩))
                       simp only [op_as, sp_hz, c_5, c_15, hcl, hk1, not_true_eq_false, or_self, if_false]
                       exact ⟨hj 1 (by decide), hc, mw_Fr.rf _⟩)
                ·
                  exact absurd c_70 (by decide)
              ·
                refine hg_iload3 (pc' := 57) cx dX6_as_56 rfl ?_
                refine hg_iconst (pc' := 58) cx 5 dX6_as_57 (by decide) rfl ?_
                refine hg_icmp_ne (pc' := 61) cx 65 dX6_as_58 (by decide) rfl (fun c_58 => ?_) (fun c_58 => ?_)
                ·
                  refine hg_iconst (pc' := 66) cx 0 dX6_as_65 (by decide) rfl ?_
                  refine hg_istore4 (pc' := 68) cx rfl dX6_as_66 rfl ?_
                  refine hg_iload4 (pc' := 70) cx dX6_as_68 rfl ?_
                  refine hg_if_eq (pc' := 73) cx 82 dX6_as_70 (by decide) rfl (fun c_70 => ?_) (fun c_70 => ?_)
                  ·
                    refine hg_aload0 (pc' := 83) cx dX6_as_82 rfl ?_
                    refine hg_ldc (pc' := 85) cx kc_X6_96 dX6_as_83 rfl ?_
                    refine cv_X6_40 (pc' := 88) cx (K_X6_finds l E _ (-1000000003) 2 (by decide) (by decide)) ⟨rfl, rfl, Nat.le_of_ble_eq_true rfl, Nat.le_of_ble_eq_true rfl⟩ (Nat.le_of_ble_eq_true rfl) dX6_as_85 rfl (fun r_85 τ_85 h_85 => ?_)
                    obtain ⟨rfl, rfl⟩ := h_85
                    refine hg_iret cx dX6_as_88 ⟨_, rfl, ?_⟩
                    have e0 : σ.1 51 (4 + 6 * j + 0) = (S.1 0).1.2 j 0 := hj 0 (by decide)
                    have hk : sp_isKind ((S.1 0).1.2 j) k = 1 ∨ sp_isKind ((S.1 0).1.2 j) k = 0 := by
                      unfold sp_isKind; split
                      · exact Or.inl rfl
                      · exact Or.inr rfl
                    first
                      | (have hk1 : sp_isKind ((S.1 0).1.2 j) k = 0 := by
                           unfold sp_isKind
                           rw [if_neg]
                           rw [← e0]
                           rintro (z | z | z | z)
                           · exact c_38 z
                           · exact c_33 z
                           · first | exact c_43 z.1 | exact c_48 z.2
                           · first | exact c_53 z.1 | exact c_58 z.2
                         simp only [op_as, sp_hz, c_5, c_15, hcl, hk1, not_true_eq_false, or_self, if_false, if_true]
                         exact hc.find (by decide) (by decide))
                      | (have hk1 : ¬ sp_isKind ((S.1 0).1.2 j) k = 0 := by
                           unfold sp_isKind
                           rw [if_pos]
                           · decide
                           · rw [← e0]
                             first | exact Or.inr (Or.inl c_33) | exact Or.inl c_38 | exact Or.inr (Or.inr (Or.inl ⟨c_43, c_48⟩)) | exact Or.inr (Or.inr (Or.inr ⟨c_53, c_58⟩))
                         simp only [op_as, sp_hz, c_5, c_15, hcl, hk1, not_true_eq_false, or_self, if_false]
                         exact ⟨hj 1 (by decide), hc, mw_Fr.rf _⟩)
                  ·
                    exact absurd c_70 (by decide)
                ·
                  refine hg_iconst (pc' := 62) cx 1 dX6_as_61 (by decide) rfl ?_
                  refine hg_goto cx 66 dX6_as_62 (by decide) ?_
                  refine hg_istore4 (pc' := 68) cx rfl dX6_as_66 rfl ?_
                  refine hg_iload4 (pc' := 70) cx dX6_as_68 rfl ?_
                  refine hg_if_eq (pc' := 73) cx 82 dX6_as_70 (by decide) rfl (fun c_70 => ?_) (fun c_70 => ?_)
                  ·
                    exact absurd c_70 (by decide)
                  ·
                    refine hg_aload0 (pc' := 74) cx dX6_as_73 rfl ?_
                    refine hg_iload1 (pc' := 75) cx dX6_as_74 rfl ?_
                    refine hg_iconst (pc' := 76) cx (nI 1) dX6_as_75 (by decide) rfl ?_
                    refine cv_X6_48 (pc' := 79) cx (K_X6_it l E _ j (by omega) 1 (by omega)) ⟨rfl, rfl, Nat.le_of_ble_eq_true rfl, Nat.le_of_ble_eq_true rfl⟩ (Nat.le_of_ble_eq_true rfl) dX6_as_76 rfl (fun r_76 τ_76 h_76 => ?_)
                    obtain ⟨rfl, rfl⟩ := h_76
                    refine hg_goto cx 88 dX6_as_79 (by decide) ?_
                    refine hg_iret cx dX6_as_88 ⟨_, rfl, ?_⟩
                    have e0 : σ.1 51 (4 + 6 * j + 0) = (S.1 0).1.2 j 0 := hj 0 (by decide)
                    have hk : sp_isKind ((S.1 0).1.2 j) k = 1 ∨ sp_isKind ((S.1 0).1.2 j) k = 0 := by
                      unfold sp_isKind; split
                      · exact Or.inl rfl
                      · exact Or.inr rfl
                    first
                      | (have hk1 : sp_isKind ((S.1 0).1.2 j) k = 0 := by
                           unfold sp_isKind
                           rw [if_neg]
                           rw [← e0]
                           rintro (z | z | z | z)
                           · exact c_38 z
                           · exact c_33 z
                           · first | exact c_43 z.1 | exact c_48 z.2
                           · first | exact c_53 z.1 | exact c_58 z.2
                         simp only [op_as, sp_hz, c_5, c_15, hcl, hk1, not_true_eq_false, or_self, if_false, if_true]
                         exact hc.find (by decide) (by decide))
                      | (have hk1 : ¬ sp_isKind ((S.1 0).1.2 j) k = 0 := by
                           unfold sp_isKind
                           rw [if_pos]
                           · decide
                           · rw [← e0]
                             first | exact Or.inr (Or.inl c_33) | exact Or.inl c_38 | exact Or.inr (Or.inr (Or.inl ⟨c_43, c_48⟩)) | exact Or.inr (Or.inr (Or.inr ⟨c_53, c_58⟩))
                         simp only [op_as, sp_hz, c_5, c_15, hcl, hk1, not_true_eq_false, or_self, if_false]
                         exact ⟨hj 1 (by decide), hc, mw_Fr.rf _⟩)
    ·
      replace c_15 := hg_b0 c_15
      refine hg_aload0 (pc' := 19) cx dX6_as_18 rfl ?_
      refine hg_ldc (pc' := 21) cx kc_X6_38 dX6_as_19 rfl ?_
      refine cv_X6_40 (pc' := 24) cx (K_X6_finds l E _ (-1000000001) 0 (by decide) (by decide)) ⟨rfl, rfl, Nat.le_of_ble_eq_true rfl, Nat.le_of_ble_eq_true rfl⟩ (Nat.le_of_ble_eq_true rfl) dX6_as_21 rfl (fun r_21 τ_21 h_21 => ?_)
      obtain ⟨rfl, rfl⟩ := h_21
      refine hg_iret cx dX6_as_24 ⟨_, rfl, ?_⟩
      simp only [op_as, sp_hz, c_5, c_15, not_true_eq_false, not_false_eq_true, true_or, or_true, false_or, or_false, or_self, if_true, if_false, and_self]
      exact hc.find (by decide) (by decide)
