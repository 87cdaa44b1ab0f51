theorem sp_xor8 : ∀ x, x < 256 → ∀ q, q < 8 → (nI x ^^^ ((1 : Int32) <<< (nI q &&& 31))).toNatClampNeg < 256 ∧ nI (nI x ^^^ ((1 : Int32) <<< (nI q &&& 31))).toNatClampNeg = nI x ^^^ ((1 : Int32) <<< (nI q &&& 31)) := by decide +kernel
theorem sp_sum_in {f : Nat → Nat → Int32} : ∀ n, (∀ h, h < n → vs_H (f h)) → ∃ k, k ≤ 9999 * n ∧ sp_sum f 3 n = nI k := by
  intro n
  induction n with
  | zero => intro _; exact ⟨0, by omega, rfl⟩
  | succ n ih =>
    intro h
    obtain ⟨k, hk, e⟩ := ih (fun x hx => h x (by omega))
    obtain ⟨k3, b3, e3⟩ := (h n (by omega)).2.2.2.1
    refine ⟨k + k3, by omega, ?_⟩
    rw [sp_sum, e, show sp_trait (f n) 3 = f n 3 from rfl, e3, nI_add]
theorem sp_scanL_0 {val : Nat → Int32} (h : val 0 < 99991) : sp_scanL val 0 99991 1 = (nI 0, val 0) := by
  rw [sp_scanL]
  exact if_pos h
theorem vs_truth {B : Nat} {C : sp_C} {n : Nat} (h : vs_C B C n) {q : Nat} (hq : q < 8) : vs_C B (va_up C.1 1 (C.1 1 ^^^ ((1 : Int32) <<< (nI q &&& 31))), C.2) n := by
  obtain ⟨a, b, c, ⟨k1, b1, e1⟩, e, f⟩ := h
  obtain ⟨q1, q2⟩ := sp_xor8 k1 (by omega) q hq
  exact ⟨a, b, c, ⟨_, Nat.le_of_lt_succ q1, (congrArg (fun z => z ^^^ ((1 : Int32) <<< (nI q &&& 31))) e1).trans q2.symm⟩, e, f⟩
set_option maxHeartbeats 4000000 in
set_option maxRecDepth 100000 in
theorem K_X6_lift (l : Launch) (E : hg_Wd) (σ : hg_Mem) (S : sp_S) (hc : cw_M σ S) (hv : vs_S S) (N : Int32) : hg_C l E yX6_lift cX6_lift 6 (some .int) { frames := 6, cells := 0, slots := 0, locals := 139 } [.ref (hg_ad E 50), .int N] σ (hg_pi (fun r τ => mw_P σ (op_lift S N) r τ)) := by
  refine hg_intro (by decide) [some (.ref (hg_ad E 50)), some (.int N), none, none, none, none] rfl (Nat.le_of_ble_eq_true rfl) ?_
  intro p e s m args below meth c cx
  have cx : hg_Cx E p s m args meth c cX6_lift 6 RX6 (some .int) := cx
  obtain ⟨hn10, hn, g0, g1, g2, hag⟩ := hc.get
  refine hg_iload1 (pc' := 1) cx dX6_lift_0 rfl ?_
  refine hg_i2l (pc' := 2) cx dX6_lift_1 rfl ?_
  refine hg_iconst (pc' := 3) cx 1 dX6_lift_2 (by decide) rfl ?_
  refine hg_bipush (pc' := 5) cx 60 dX6_lift_3 (by decide) rfl ?_
  refine cs_X6_44 (pc' := 8) cx (K_X6_in l E _ _ _ _) ⟨rfl, rfl, Nat.le_of_ble_eq_true rfl, Nat.le_of_ble_eq_true rfl⟩ (Nat.le_of_ble_eq_true rfl) dX6_lift_5 rfl (fun r_5 τ_5 h_5 => ?_)
  obtain ⟨rfl, rfl⟩ := h_5
  rw [sp_inL_out]
  refine hg_if_ne (pc' := 11) cx 18 dX6_lift_8 (by decide) rfl (fun c_8 => ?_) (fun c_8 => ?_)
  ·
    replace c_8 := hg_b1 c_8
    obtain ⟨a, ha1, ha2, rfl⟩ := sp_out_of 1 60 (by decide) (by decide) (by decide) (by decide) c_8
    have hca : (nI a).toNatClampNeg = a := nI_clamp (by omega)
    refine hg_aload0 (pc' := 19) cx dX6_lift_18 rfl ?_
    refine cv_X6_120 (pc' := 22) cx (K_X6_thinks l E _ ) ⟨rfl, rfl, Nat.le_of_ble_eq_true rfl, Nat.le_of_ble_eq_true rfl⟩ (Nat.le_of_ble_eq_true rfl) dX6_lift_19 rfl (fun τ_19 h_19 => ?_)
    obtain ⟨hT, hT1⟩ := h_19
    have hRt := hc.1.keep hT1
    refine hg_iconst (pc' := 23) cx (-1) dX6_lift_22 (by decide) rfl ?_
    refine hg_istore2 (pc' := 24) cx rfl dX6_lift_23 rfl ?_
    refine hg_iconst (pc' := 25) cx (-1) dX6_lift_24 (by decide) rfl ?_
    refine hg_istore3 (pc' := 26) cx rfl dX6_lift_25 rfl ?_
    refine hg_iconst (pc' := 27) cx (nI 0) dX6_lift_26 (by decide) rfl ?_
    refine hg_istore4 (pc' := 29) cx rfl dX6_lift_27 rfl ?_
    refine hg_drop5 ?_
    refine hg_nm (fun μ hμ => ?_)
    refine hg_loop (α := hg_Mem × Int32 × Int32 × Nat) (I := fun z => z.2.2.2 ≤ (S.1 0).2 ∧ sp_Th σ z.1 ∧ (∀ k, k < 64 → z.1.1 51 k = σ.1 51 k) ∧ sp_scan (sp_liftO (S.1 0).1) (sp_liftV (S.1 0).1 (S.1 0).2 a) (-1) (-1) z.2.2.2 = (z.2.1, z.2.2.1)) (P := fun z => hg_G E p l e { frames := 6, cells := 0, slots := 0, locals := 139 } s m args below meth c 6 (MQ below (hg_Qc E (hg_pi (fun r τ => mw_P σ (op_lift S (nI a)) r τ))) args s 0 0 (hg_AW E)) z.1 29 [some (.ref (hg_ad E 50)), some (.int (nI a)), some (.int z.2.1), some (.int z.2.2.1), some (.int (nI z.2.2.2)), none] []) (fun z => (S.1 0).2 - z.2.2.2) ?_ (μ, -1, -1, 0) ?_
    rotate_left
    · subst hμ
      try dsimp only
      exact ⟨by omega, hT, hT1, rfl⟩
    clear hμ μ
    rintro ⟨τ, b, w, j⟩ hI ih_29
    try dsimp only at hI ih_29 ⊢
    have hRτ : sp_RepM τ 51 (S.1 0).1 (S.1 0).2 := hc.1.keep hI.2.2.1
    have hnτ : τ.1 51 3 = nI (S.1 0).2 := (hRτ.2.2.1 3 (by decide)).trans hRτ.2.1
    have hjn := hI.1
    refine hg_iload4 (pc' := 31) cx dX6_lift_29 rfl ?_
    refine hg_aload0 (pc' := 32) cx dX6_lift_31 rfl ?_
    refine gf_X6_9 (pc' := 35) cx dX6_lift_32 rfl ?_
    refine hg_iconst (pc' := 36) cx (nI 3) dX6_lift_35 (by decide) rfl ?_
    refine hg_iald2 (pc' := 37) cx (by decide) (hg_ceI51 E) (by first | assumption | omega | decide) (by decide) dX6_lift_36 rfl ?_
    refine hg_icmp_ge (pc' := 40) cx 98 dX6_lift_37 (by decide) rfl (fun c_37 => ?_) (fun c_37 => ?_)
    ·
      have jlt := hg_ge hnτ (by omega) (by omega) c_37
      refine hg_aload0 (pc' := 99) cx dX6_lift_98 rfl ?_
      refine hg_iload2 (pc' := 100) cx dX6_lift_99 rfl ?_
      refine cv_X6_132 (pc' := 103) cx (K_X6_orNone l E _ _) ⟨rfl, rfl, Nat.le_of_ble_eq_true rfl, Nat.le_of_ble_eq_true rfl⟩ (Nat.le_of_ble_eq_true rfl) dX6_lift_100 rfl (fun r_100 τ_100 h_100 => ?_)
      skip
      refine hg_iret cx dX6_lift_103 ⟨_, rfl, ?_⟩
      obtain rfl : j = (S.1 0).2 := by omega
      obtain ⟨q1, q2⟩ := hc.th hI.2.1 hI.2.2.1
      simp only [op_lift, c_8, hca, not_true_eq_false, if_false, sp_orN, hI.2.2.2]
      obtain ⟨o1, o2⟩ := h_100
      rw [o1, o2]
      by_cases z : b < 0
      · simp only [if_pos z]
        exact ⟨(q1.find (f := 3) (by decide) (by decide)).1, (q1.find (f := 3) (w := -1000000004) (by decide) (by decide)).2.1, q2.tr (q1.find (f := 3) (w := -1000000004) (by decide) (by decide)).2.2⟩
      · simp only [if_neg z]
        exact ⟨rfl, q1, q2⟩
    ·
      have jlt := hg_nge hnτ (by omega) (by omega) c_37
      have eon : τ.1 51 (4 + 6 * j + 5) = (S.1 0).1.2 j 5 := hRτ.2.2.2 j jlt 5 (by decide)
      refine hg_aload0 (pc' := 41) cx dX6_lift_40 rfl ?_
      refine hg_iload4 (pc' := 43) cx dX6_lift_41 rfl ?_
      refine hg_iconst (pc' := 44) cx (nI 5) dX6_lift_43 (by decide) rfl ?_
      refine cv_X6_48 (pc' := 47) cx (K_X6_it l E _ j (by omega) 5 (by omega)) ⟨rfl, rfl, Nat.le_of_ble_eq_true rfl, Nat.le_of_ble_eq_true rfl⟩ (Nat.le_of_ble_eq_true rfl) dX6_lift_44 rfl (fun r_44 τ_44 h_44 => ?_)
      obtain ⟨rfl, rfl⟩ := h_44
      refine hg_iconst (pc' := 48) cx 1 dX6_lift_47 (by decide) rfl ?_
      refine hg_icmp_ne (pc' := 51) cx 92 dX6_lift_48 (by decide) rfl (fun c_48 => ?_) (fun c_48 => ?_)
      ·
        refine hg_iinc4p (pc' := 95) cx rfl dX6_lift_92 rfl ?_
        refine hg_goto cx 29 dX6_lift_95 (by decide) ?_
        refine hg_drop5 ?_
        rw [nI_1]
        refine hg_nm (fun μ hμ => ?_)
        refine ih_29 (μ, _, _, _) ?_ ?_
        · subst hμ
          try dsimp only
          first
            | (have hno : sp_liftO (S.1 0).1 j = false := decide_eq_false (fun z => by
                 obtain ⟨k, hk, e⟩ := (hv.1.2.2.2.2.2 j jlt).2.2.2.2.2
                 rcases (show k = 0 ∨ k = 1 by omega) with rfl | rfl
                 · exact z e
                 · exact c_48 (eon.trans e))
               exact ⟨by omega, hI.2.1, hI.2.2.1, by rw [sp_scan_no hno]; exact hI.2.2.2⟩)
            | (refine ⟨by omega, hTa, hTb, ?_⟩
               have hok : sp_liftO (S.1 0).1 j = true := decide_eq_true (fun z => absurd ((z.symm.trans eon.symm).trans c_48) (by decide))
               first
                 | (rw [sp_scan_ge hok (by rw [hI.2.2.2]; exact Int32.not_lt.mpr c_69)]; exact hI.2.2.2)
                 | (rw [sp_scan_lt hok (by rw [hI.2.2.2]; exact Int32.not_le.mp c_69)]; rfl))
        · show (S.1 0).2 - (j + 1) < (S.1 0).2 - j
          omega
      ·
        refine hg_aload0 (pc' := 52) cx dX6_lift_51 rfl ?_
        refine hg_iload4 (pc' := 54) cx dX6_lift_52 rfl ?_
        refine hg_iconst (pc' := 55) cx (nI 5) dX6_lift_54 (by decide) rfl ?_
        refine hg_iconst (pc' := 56) cx 0 dX6_lift_55 (by decide) rfl ?_
        refine cv_X6_74 (pc' := 59) cx (K_X6_put l E _ j (by omega) 5 (by decide) _) ⟨rfl, rfl, Nat.le_of_ble_eq_true rfl, Nat.le_of_ble_eq_true rfl⟩ (Nat.le_of_ble_eq_true rfl) dX6_lift_56 rfl (fun τ_56 h_56 => ?_)
        obtain rfl := h_56
        refine hg_aload0 (pc' := 60) cx dX6_lift_59 rfl ?_
        refine hg_iload1 (pc' := 61) cx dX6_lift_60 rfl ?_
        refine cv_X6_129 (pc' := 64) cx (K_X6_wiseOn l E _ (sp_hatF (S.1 0).1 j 5 0) (S.1 0).2 (hRτ.putF jlt (k := 5) (by decide) 0) 99999 a (by omega) (by omega) (vs_hatF hv.1 jlt (by decide) (vs_upOn (hv.1.2.2.2.2.2 j jlt)))) ⟨rfl, rfl, Nat.le_of_ble_eq_true rfl, Nat.le_of_ble_eq_true rfl⟩ (Nat.le_of_ble_eq_true rfl) dX6_lift_61 rfl (fun r_61 τ_61 h_61 => ?_)
        obtain ⟨hTa, hTb⟩ := (hI.2.1.put (4 + 6 * j + 5) 0).back2 h_61.2.1 h_61.2.2
        obtain rfl := h_61.1
        refine hg_istore5 (pc' := 66) cx rfl dX6_lift_64 rfl ?_
        refine hg_iload5 (pc' := 68) cx dX6_lift_66 rfl ?_
        refine hg_iload3 (pc' := 69) cx dX6_lift_68 rfl ?_
        refine hg_icmp_le (pc' := 72) cx 77 dX6_lift_69 (by decide) rfl (fun c_69 => ?_) (fun c_69 => ?_)
        ·
          refine hg_iload2 (pc' := 78) cx dX6_lift_77 rfl ?_
          refine hg_istore2 (pc' := 79) cx rfl dX6_lift_78 rfl ?_
          refine hg_iload5 (pc' := 81) cx dX6_lift_79 rfl ?_
          refine hg_iload3 (pc' := 82) cx dX6_lift_81 rfl ?_
          refine hg_icmp_le (pc' := 85) cx 90 dX6_lift_82 (by decide) rfl (fun c_82 => ?_) (fun c_82 => ?_)
          ·
            refine hg_iload3 (pc' := 91) cx dX6_lift_90 rfl ?_
            refine hg_istore3 (pc' := 92) cx rfl dX6_lift_91 rfl ?_
            refine hg_iinc4p (pc' := 95) cx rfl dX6_lift_92 rfl ?_
            refine hg_goto cx 29 dX6_lift_95 (by decide) ?_
            refine hg_drop5 ?_
            rw [nI_1]
            refine hg_nm (fun μ hμ => ?_)
            refine ih_29 (μ, _, _, _) ?_ ?_
            · subst hμ
              try dsimp only
              first
                | (have hno : sp_liftO (S.1 0).1 j = false := decide_eq_false (fun z => by
                     obtain ⟨k, hk, e⟩ := (hv.1.2.2.2.2.2 j jlt).2.2.2.2.2
                     rcases (show k = 0 ∨ k = 1 by omega) with rfl | rfl
                     · exact z e
                     · exact c_48 (eon.trans e))
                   exact ⟨by omega, hI.2.1, hI.2.2.1, by rw [sp_scan_no hno]; exact hI.2.2.2⟩)
                | (refine ⟨by omega, hTa, hTb, ?_⟩
                   have hok : sp_liftO (S.1 0).1 j = true := decide_eq_true (fun z => absurd ((z.symm.trans eon.symm).trans c_48) (by decide))
                   first
                     | (rw [sp_scan_ge hok (by rw [hI.2.2.2]; exact Int32.not_lt.mpr c_69)]; exact hI.2.2.2)
                     | (rw [sp_scan_lt hok (by rw [hI.2.2.2]; exact Int32.not_le.mp c_69)]; rfl))
            · show (S.1 0).2 - (j + 1) < (S.1 0).2 - j
              omega
          ·
            exact absurd c_69 c_82
        ·
          refine hg_iload4 (pc' := 74) cx dX6_lift_72 rfl ?_
          refine hg_goto cx 78 dX6_lift_74 (by decide) ?_
          refine hg_istore2 (pc' := 79) cx rfl dX6_lift_78 rfl ?_
          refine hg_iload5 (pc' := 81) cx dX6_lift_79 rfl ?_
          refine hg_iload3 (pc' := 82) cx dX6_lift_81 rfl ?_
          refine hg_icmp_le (pc' := 85) cx 90 dX6_lift_82 (by decide) rfl (fun c_82 => ?_) (fun c_82 => ?_)
          ·
            exact absurd c_82 c_69
          ·
            refine hg_iload5 (pc' := 87) cx dX6_lift_85 rfl ?_
            refine hg_goto cx 91 dX6_lift_87 (by decide) ?_
            refine hg_istore3 (pc' := 92) cx rfl dX6_lift_91 rfl ?_
            refine hg_iinc4p (pc' := 95) cx rfl dX6_lift_92 rfl ?_
            refine hg_goto cx 29 dX6_lift_95 (by decide) ?_
            refine hg_drop5 ?_
            rw [nI_1]
            refine hg_nm (fun μ hμ => ?_)
            refine ih_29 (μ, _, _, _) ?_ ?_
            · subst hμ
              try dsimp only
              first
                | (have hno : sp_liftO (S.1 0).1 j = false := decide_eq_false (fun z => by
                     obtain ⟨k, hk, e⟩ := (hv.1.2.2.2.2.2 j jlt).2.2.2.2.2
                     rcases (show k = 0 ∨ k = 1 by omega) with rfl | rfl
                     · exact z e
                     · exact c_48 (eon.trans e))
                   exact ⟨by omega, hI.2.1, hI.2.2.1, by rw [sp_scan_no hno]; exact hI.2.2.2⟩)
                | (refine ⟨by omega, hTa, hTb, ?_⟩
                   have hok : sp_liftO (S.1 0).1 j = true := decide_eq_true (fun z => absurd ((z.symm.trans eon.symm).trans c_48) (by decide))
                   first
                     | (rw [sp_scan_ge hok (by rw [hI.2.2.2]; exact Int32.not_lt.mpr c_69)]; exact hI.2.2.2)
                     | (rw [sp_scan_lt hok (by rw [hI.2.2.2]; exact Int32.not_le.mp c_69)]; rfl))
            · show (S.1 0).2 - (j + 1) < (S.1 0).2 - j
              omega
  ·
    replace c_8 := hg_b0 c_8
    refine hg_aload0 (pc' := 12) cx dX6_lift_11 rfl ?_
    refine hg_ldc (pc' := 14) cx kc_X6_38 dX6_lift_12 rfl ?_
    refine cv_X6_40 (pc' := 17) cx (K_X6_finds l E _ (-1000000001) 0 (by decide) (by decide)) ⟨rfl, rfl, Nat.le_of_ble_eq_true rfl, Nat.le_of_ble_eq_true rfl⟩ (Nat.le_of_ble_eq_true rfl) dX6_lift_14 rfl (fun r_14 τ_14 h_14 => ?_)
    obtain ⟨rfl, rfl⟩ := h_14
    refine hg_iret cx dX6_lift_17 ⟨_, rfl, ?_⟩
    simp only [op_lift, sp_hz, c_8, not_true_eq_false, not_false_eq_true, true_or, or_true, false_or, or_false, or_self, if_true, if_false, and_self]
    exact hc.find (by decide) (by decide)
set_option maxHeartbeats 4000000 in
set_option maxRecDepth 100000 in
theorem K_X6_kind (l : Launch) (E : hg_Wd) (σ : hg_Mem) (S : sp_S) (hc : cw_M σ S) (hv : vs_S S) (x : Int32) (N : Int32) : hg_C l E yX6_kind cX6_kind 7 (some .int) { frames := 6, cells := 0, slots := 0, locals := 140 } [.ref (hg_ad E 50), .int x, .int N] σ (hg_pi (fun r τ => mw_P σ (op_kind S x N) r τ)) := by
  refine hg_intro (by decide) [some (.ref (hg_ad E 50)), some (.int x), some (.int N), none, none, none, none] rfl (Nat.le_of_ble_eq_true rfl) ?_
  intro p e s m args below meth c cx
  have cx : hg_Cx E p s m args meth c cX6_kind 7 RX6 (some .int) := cx
  obtain ⟨hn10, hn, g0, g1, g2, hag⟩ := hc.get
  refine hg_aload0 (pc' := 1) cx dX6_kind_0 rfl ?_
  refine hg_iload1 (pc' := 2) cx dX6_kind_1 rfl ?_
  refine cv_X6_83 (pc' := 5) cx (K_X6_isHat l E _ (S.1 0).2 hn10 hn _) ⟨rfl, rfl, Nat.le_of_ble_eq_true rfl, Nat.le_of_ble_eq_true rfl⟩ (Nat.le_of_ble_eq_true rfl) dX6_kind_2 rfl (fun r_2 τ_2 h_2 => ?_)
  obtain ⟨rfl, rfl⟩ := h_2
  refine hg_if_eq (pc' := 8) cx 19 dX6_kind_5 (by decide) rfl (fun c_5 => ?_) (fun c_5 => ?_)
  ·
    refine hg_aload0 (pc' := 20) cx dX6_kind_19 rfl ?_
    refine hg_ldc (pc' := 22) cx kc_X6_38 dX6_kind_20 rfl ?_
    refine cv_X6_40 (pc' := 25) cx (K_X6_finds l E _ (-1000000001) 0 (by decide) (by decide)) ⟨rfl, rfl, Nat.le_of_ble_eq_true rfl, Nat.le_of_ble_eq_true rfl⟩ (Nat.le_of_ble_eq_true rfl) dX6_kind_22 rfl (fun r_22 τ_22 h_22 => ?_)
    obtain ⟨rfl, rfl⟩ := h_22
    refine hg_iret cx dX6_kind_25 ⟨_, rfl, ?_⟩
    simp only [op_kind, sp_hz, c_5, not_true_eq_false, not_false_eq_true, true_or, or_true, false_or, or_false, or_self, if_true, if_false, and_self]
    exact hc.find (by decide) (by decide)
  ·
    refine hg_iload2 (pc' := 9) cx dX6_kind_8 rfl ?_
    refine hg_i2l (pc' := 10) cx dX6_kind_9 rfl ?_
    refine hg_iconst (pc' := 11) cx 1 dX6_kind_10 (by decide) rfl ?_
    refine hg_bipush (pc' := 13) cx 60 dX6_kind_11 (by decide) rfl ?_
    refine cs_X6_44 (pc' := 16) cx (K_X6_in l E _ _ _ _) ⟨rfl, rfl, Nat.le_of_ble_eq_true rfl, Nat.le_of_ble_eq_true rfl⟩ (Nat.le_of_ble_eq_true rfl) dX6_kind_13 rfl (fun r_13 τ_13 h_13 => ?_)
    obtain ⟨rfl, rfl⟩ := h_13
    rw [sp_inL_out]
    refine hg_if_ne (pc' := 19) cx 26 dX6_kind_16 (by decide) rfl (fun c_16 => ?_) (fun c_16 => ?_)
    ·
      replace c_16 := hg_b1 c_16
      obtain ⟨j, hjn, rfl⟩ := sp_hz_of hn10 c_5
      have hcl : (nI j).toNatClampNeg = j := nI_clamp (by omega)
      have hj := hag j hjn
      obtain ⟨a, ha1, ha2, rfl⟩ := sp_out_of 1 60 (by decide) (by decide) (by decide) (by decide) c_16
      have hca : (nI a).toNatClampNeg = a := nI_clamp (by omega)
      refine hg_aload0 (pc' := 27) cx dX6_kind_26 rfl ?_
      refine cv_X6_120 (pc' := 30) cx (K_X6_thinks l E _ ) ⟨rfl, rfl, Nat.le_of_ble_eq_true rfl, Nat.le_of_ble_eq_true rfl⟩ (Nat.le_of_ble_eq_true rfl) dX6_kind_27 rfl (fun τ_27 h_27 => ?_)
      obtain ⟨hT, hT1⟩ := h_27
      have hRt := hc.1.keep hT1
      refine hg_iconst (pc' := 31) cx 0 dX6_kind_30 (by decide) rfl ?_
      refine hg_istore3 (pc' := 32) cx rfl dX6_kind_31 rfl ?_
      refine hg_iconst (pc' := 33) cx (-1) dX6_kind_32 (by decide) rfl ?_
      refine hg_istore4 (pc' := 35) cx rfl dX6_kind_33 rfl ?_
      refine hg_iconst (pc' := 36) cx (nI 0) dX6_kind_35 (by decide) rfl ?_
      refine hg_istore5 (pc' := 38) cx rfl dX6_kind_36 rfl ?_
      refine hg_drop6 ?_
      refine hg_nm (fun μ hμ => ?_)
      refine hg_loop (α := hg_Mem × Int32 × Int32 × Nat) (I := fun z => z.2.2.2 ≤ 6 ∧ sp_Th σ z.1 ∧ (∀ k, k < 64 → z.1.1 51 k = σ.1 51 k) ∧ sp_scan sp_tt (sp_kindV (S.1 0).1 (S.1 0).2 a j) 0 (-1) z.2.2.2 = (z.2.1, z.2.2.1)) (P := fun z => hg_G E p l e { frames := 6, cells := 0, slots := 0, locals := 140 } s m args below meth c 7 (MQ below (hg_Qc E (hg_pi (fun r τ => mw_P σ (op_kind S (nI j) (nI a)) r τ))) args s 0 0 (hg_AW E)) z.1 38 [some (.ref (hg_ad E 50)), some (.int (nI j)), some (.int (nI a)), some (.int z.2.1), some (.int z.2.2.1), some (.int (nI z.2.2.2)), none] []) (fun z => 6 - z.2.2.2) ?_ (μ, 0, -1, 0) ?_
      rotate_left
      · subst hμ
        try dsimp only
        exact ⟨by omega, hT, hT1, rfl⟩
      clear hμ μ
      rintro ⟨τ, b, w, i⟩ hI ih_38
      try dsimp only at hI ih_38 ⊢
      have hRτ : sp_RepM τ 51 (S.1 0).1 (S.1 0).2 := hc.1.keep hI.2.2.1
      have hnτ : τ.1 51 3 = nI (S.1 0).2 := (hRτ.2.2.1 3 (by decide)).trans hRτ.2.1
      have hi6 := hI.1
      refine hg_iload5 (pc' := 40) cx dX6_kind_38 rfl ?_
      refine hg_iconst (pc' := 41) cx (nI 5) dX6_kind_40 (by decide) rfl ?_
      refine hg_icmp_gt (pc' := 44) cx 96 dX6_kind_41 (by decide) rfl (fun c_41 => ?_) (fun c_41 => ?_)
      ·
        have hi := hg_gt (a := 5) (b := i) (by omega) (by omega) c_41
        refine hg_iload3 (pc' := 97) cx dX6_kind_96 rfl ?_
        refine hg_iret cx dX6_kind_97 ⟨_, rfl, ?_⟩
        obtain rfl : i = 6 := by omega
        obtain ⟨q1, q2⟩ := hc.th hI.2.1 hI.2.2.1
        simp only [op_kind, sp_hz, c_5, c_16, hcl, hca, not_true_eq_false, or_self, if_false, hI.2.2.2]
        exact ⟨rfl, q1, q2⟩
      ·
        have hi := hg_ngt (a := 5) (b := i) (by omega) (by omega) c_41
        refine hg_aload0 (pc' := 45) cx dX6_kind_44 rfl ?_
        refine hg_iload1 (pc' := 46) cx dX6_kind_45 rfl ?_
        refine hg_iconst (pc' := 47) cx (nI 0) dX6_kind_46 (by decide) rfl ?_
        refine hg_iload5 (pc' := 49) cx dX6_kind_47 rfl ?_
        refine cv_X6_74 (pc' := 52) cx (K_X6_put l E _ j (by omega) 0 (by decide) _) ⟨rfl, rfl, Nat.le_of_ble_eq_true rfl, Nat.le_of_ble_eq_true rfl⟩ (Nat.le_of_ble_eq_true rfl) dX6_kind_49 rfl (fun τ_49 h_49 => ?_)
        obtain rfl := h_49
        refine hg_aload0 (pc' := 53) cx dX6_kind_52 rfl ?_
        refine hg_iload1 (pc' := 54) cx dX6_kind_53 rfl ?_
        refine hg_iload2 (pc' := 55) cx dX6_kind_54 rfl ?_
        refine cv_X6_135 (pc' := 58) cx (K_X6_rightOn l E _ (sp_hatF (S.1 0).1 j 0 (nI i)) (S.1 0).2 (hRτ.putF hjn (k := 0) (by decide) (nI i)) 99999 a (by omega) (by omega) (vs_hatF hv.1 hjn (by decide) (vs_upKind (hv.1.2.2.2.2.2 j hjn) (by omega))) j hjn) ⟨rfl, rfl, Nat.le_of_ble_eq_true rfl, Nat.le_of_ble_eq_true rfl⟩ (Nat.le_of_ble_eq_true rfl) dX6_kind_55 rfl (fun r_55 τ_55 h_55 => ?_)
        obtain ⟨hTa, hTb⟩ := (hI.2.1.put (4 + 6 * j + 0) (nI i)).back2 h_55.2.1 h_55.2.2
        obtain rfl := h_55.1
        refine hg_istore6 (pc' := 60) cx rfl dX6_kind_58 rfl ?_
        refine hg_iload6 (pc' := 62) cx dX6_kind_60 rfl ?_
        refine hg_iload4 (pc' := 64) cx dX6_kind_62 rfl ?_
        refine hg_icmp_le (pc' := 67) cx 72 dX6_kind_64 (by decide) rfl (fun c_64 => ?_) (fun c_64 => ?_)
        ·
          refine hg_iload3 (pc' := 73) cx dX6_kind_72 rfl ?_
          refine hg_istore3 (pc' := 74) cx rfl dX6_kind_73 rfl ?_
          refine hg_iload6 (pc' := 76) cx dX6_kind_74 rfl ?_
          refine hg_iload4 (pc' := 78) cx dX6_kind_76 rfl ?_
          refine hg_icmp_le (pc' := 81) cx 86 dX6_kind_78 (by decide) rfl (fun c_78 => ?_) (fun c_78 => ?_)
          ·
            refine hg_iload4 (pc' := 88) cx dX6_kind_86 rfl ?_
            refine hg_istore4 (pc' := 90) cx rfl dX6_kind_88 rfl ?_
            refine hg_iinc5p (pc' := 93) cx rfl dX6_kind_90 rfl ?_
            refine hg_goto cx 38 dX6_kind_93 (by decide) ?_
            refine hg_drop6 ?_
            rw [nI_1]
            refine hg_nm (fun μ hμ => ?_)
            refine ih_38 (μ, _, _, _) ?_ ?_
            · subst hμ
              try dsimp only
              refine ⟨by omega, hTa, hTb, ?_⟩
              first
                | (rw [sp_scan_ge rfl (by rw [hI.2.2.2]; exact Int32.not_lt.mpr c_64)]; exact hI.2.2.2)
                | (rw [sp_scan_lt rfl (by rw [hI.2.2.2]; exact Int32.not_le.mp c_64)]; rfl)
            · show 6 - (i + 1) < 6 - i
              omega
          ·
            exact absurd c_64 c_78
        ·
          refine hg_iload5 (pc' := 69) cx dX6_kind_67 rfl ?_
          refine hg_goto cx 73 dX6_kind_69 (by decide) ?_
          refine hg_istore3 (pc' := 74) cx rfl dX6_kind_73 rfl ?_
          refine hg_iload6 (pc' := 76) cx dX6_kind_74 rfl ?_
          refine hg_iload4 (pc' := 78) cx dX6_kind_76 rfl ?_
          refine hg_icmp_le (pc' := 81) cx 86 dX6_kind_78 (by decide) rfl (fun c_78 => ?_) (fun c_78 => ?_)
          ·
            exact absurd c_78 c_64
          ·
            refine hg_iload6 (pc' := 83) cx dX6_kind_81 rfl ?_
            refine hg_goto cx 88 dX6_kind_83 (by decide) ?_
            refine hg_istore4 (pc' := 90) cx rfl dX6_kind_88 rfl ?_
            refine hg_iinc5p (pc' := 93) cx rfl dX6_kind_90 rfl ?_
            refine hg_goto cx 38 dX6_kind_93 (by decide) ?_
            refine hg_drop6 ?_
            rw [nI_1]
            refine hg_nm (fun μ hμ => ?_)
            refine ih_38 (μ, _, _, _) ?_ ?_
            · subst hμ
              try dsimp only
              refine ⟨by omega, hTa, hTb, ?_⟩
              first
                | (rw [sp_scan_ge rfl (by rw [hI.2.2.2]; exact Int32.not_lt.mpr c_64)]; exact hI.2.2.2)
                | (rw [sp_scan_lt rfl (by rw [hI.2.2.2]; exact Int32.not_le.mp c_64)]; rfl)
            · show 6 - (i + 1) < 6 - i
              omega
    ·
      replace c_16 := hg_b0 c_16
      refine hg_aload0 (pc' := 20) cx dX6_kind_19 rfl ?_
      refine hg_ldc (pc' := 22) cx kc_X6_38 dX6_kind_20 rfl ?_
      refine cv_X6_40 (pc' := 25) cx (K_X6_finds l E _ (-1000000001) 0 (by decide) (by decide)) ⟨rfl, rfl, Nat.le_of_ble_eq_true rfl, Nat.le_of_ble_eq_true rfl⟩ (Nat.le_of_ble_eq_true rfl) dX6_kind_22 rfl (fun r_22 τ_22 h_22 => ?_)
      obtain ⟨rfl, rfl⟩ := h_22
      refine hg_iret cx dX6_kind_25 ⟨_, rfl, ?_⟩
      simp only [op_kind, sp_hz, c_5, c_16, not_true_eq_false, not_false_eq_true, true_or, or_true, false_or, or_false, or_self, if_true, if_false, and_self]
      exact hc.find (by decide) (by decide)
set_option maxHeartbeats 4000000 in
set_option maxRecDepth 100000 in
theorem K_X6_view (l : Launch) (E : hg_Wd) (σ : hg_Mem) (S : sp_S) (hc : cw_M σ S) (hv : vs_S S) (x : Int32) (N : Int32) : hg_C l E yX6_view cX6_view 7 (some .int) { frames := 6, cells := 0, slots := 0, locals := 139 } [.ref (hg_ad E 50), .int x, .int N] σ (hg_pi (fun r τ => mw_P σ (op_view S x N) r τ)) := by
  refine hg_intro (by decide) [some (.ref (hg_ad E 50)), some (.int x), some (.int N), none, none, none, none] rfl (Nat.le_of_ble_eq_true rfl) ?_
  intro p e s m args below meth c cx
  have cx : hg_Cx E p s m args meth c cX6_view 7 RX6 (some .int) := cx
  obtain ⟨hn10, hn, g0, g1, g2, hag⟩ := hc.get
  refine hg_aload0 (pc' := 1) cx dX6_view_0 rfl ?_
  refine hg_iload1 (pc' := 2) cx dX6_view_1 rfl ?_
  refine cv_X6_83 (pc' := 5) cx (K_X6_isHat l E _ (S.1 0).2 hn10 hn _) ⟨rfl, rfl, Nat.le_of_ble_eq_true rfl, Nat.le_of_ble_eq_true rfl⟩ (Nat.le_of_ble_eq_true rfl) dX6_view_2 rfl (fun r_2 τ_2 h_2 => ?_)
  obtain ⟨rfl, rfl⟩ := h_2
  refine hg_if_eq (pc' := 8) cx 19 dX6_view_5 (by decide) rfl (fun c_5 => ?_) (fun c_5 => ?_)
  ·
    refine hg_aload0 (pc' := 20) cx dX6_view_19 rfl ?_
    refine hg_ldc (pc' := 22) cx kc_X6_38 dX6_view_20 rfl ?_
    refine cv_X6_40 (pc' := 25) cx (K_X6_finds l E _ (-1000000001) 0 (by decide) (by decide)) ⟨rfl, rfl, Nat.le_of_ble_eq_true rfl, Nat.le_of_ble_eq_true rfl⟩ (Nat.le_of_ble_eq_true rfl) dX6_view_22 rfl (fun r_22 τ_22 h_22 => ?_)
    obtain ⟨rfl, rfl⟩ := h_22
    refine hg_iret cx dX6_view_25 ⟨_, rfl, ?_⟩
    simp only [op_view, sp_hz, c_5, not_true_eq_false, not_false_eq_true, true_or, or_true, false_or, or_false, or_self, if_true, if_false, and_self]
    exact hc.find (by decide) (by decide)
  ·
    refine hg_iload2 (pc' := 9) cx dX6_view_8 rfl ?_
    refine hg_i2l (pc' := 10) cx dX6_view_9 rfl ?_
    refine hg_iconst (pc' := 11) cx 1 dX6_view_10 (by decide) rfl ?_
    refine hg_bipush (pc' := 13) cx 32 dX6_view_11 (by decide) rfl ?_
    refine cs_X6_44 (pc' := 16) cx (K_X6_in l E _ _ _ _) ⟨rfl, rfl, Nat.le_of_ble_eq_true rfl, Nat.le_of_ble_eq_true rfl⟩ (Nat.le_of_ble_eq_true rfl) dX6_view_13 rfl (fun r_13 τ_13 h_13 => ?_)
    obtain ⟨rfl, rfl⟩ := h_13
    rw [sp_inL_out]
    refine hg_if_ne (pc' := 19) cx 26 dX6_view_16 (by decide) rfl (fun c_16 => ?_) (fun c_16 => ?_)
    ·
      replace c_16 := hg_b1 c_16
      obtain ⟨j, hjn, rfl⟩ := sp_hz_of hn10 c_5
      have hcl : (nI j).toNatClampNeg = j := nI_clamp (by omega)
      have hj := hag j hjn
      obtain ⟨a, ha1, ha2, rfl⟩ := sp_out_of 1 32 (by decide) (by decide) (by decide) (by decide) c_16
      have hca : (nI a).toNatClampNeg = a := nI_clamp (by omega)
      refine hg_aload0 (pc' := 27) cx dX6_view_26 rfl ?_
      refine cv_X6_120 (pc' := 30) cx (K_X6_thinks l E _ ) ⟨rfl, rfl, Nat.le_of_ble_eq_true rfl, Nat.le_of_ble_eq_true rfl⟩ (Nat.le_of_ble_eq_true rfl) dX6_view_27 rfl (fun τ_27 h_27 => ?_)
      obtain ⟨hT, hT1⟩ := h_27
      have hRt := hc.1.keep hT1
      refine hg_iconst (pc' := 31) cx 0 dX6_view_30 (by decide) rfl ?_
      refine hg_istore3 (pc' := 32) cx rfl dX6_view_31 rfl ?_
      refine hg_iconst (pc' := 33) cx (-1) dX6_view_32 (by decide) rfl ?_
      refine hg_istore4 (pc' := 35) cx rfl dX6_view_33 rfl ?_
      refine hg_iconst (pc' := 36) cx (nI 0) dX6_view_35 (by decide) rfl ?_
      refine hg_istore5 (pc' := 38) cx rfl dX6_view_36 rfl ?_
      refine hg_drop6 ?_
      refine hg_nm (fun μ hμ => ?_)
      refine hg_loop (α := hg_Mem × Int32 × Int32 × Nat) (I := fun z => z.2.2.2 ≤ 256 ∧ sp_Th σ z.1 ∧ (∀ k, k < 64 → z.1.1 51 k = σ.1 51 k) ∧ sp_scan sp_tt (sp_viewV (S.1 0).1 (S.1 0).2 a j) 0 (-1) z.2.2.2 = (z.2.1, z.2.2.1)) (P := fun z => hg_G E p l e { frames := 6, cells := 0, slots := 0, locals := 139 } s m args below meth c 7 (MQ below (hg_Qc E (hg_pi (fun r τ => mw_P σ (op_view S (nI j) (nI a)) r τ))) args s 0 0 (hg_AW E)) z.1 38 [some (.ref (hg_ad E 50)), some (.int (nI j)), some (.int (nI a)), some (.int z.2.1), some (.int z.2.2.1), some (.int (nI z.2.2.2)), none] []) (fun z => 256 - z.2.2.2) ?_ (μ, 0, -1, 0) ?_
      rotate_left
      · subst hμ
        try dsimp only
        exact ⟨by omega, hT, hT1, rfl⟩
      clear hμ μ
      rintro ⟨τ, b, w, i⟩ hI ih_38
      try dsimp only at hI ih_38 ⊢
      have hRτ : sp_RepM τ 51 (S.1 0).1 (S.1 0).2 := hc.1.keep hI.2.2.1
      have hnτ : τ.1 51 3 = nI (S.1 0).2 := (hRτ.2.2.1 3 (by decide)).trans hRτ.2.1
      have hi6 := hI.1
      refine hg_iload5 (pc' := 40) cx dX6_view_38 rfl ?_
      refine hg_sipush (pc' := 43) cx (nI 255) dX6_view_40 (by decide) rfl ?_
      refine hg_icmp_gt (pc' := 46) cx 97 dX6_view_43 (by decide) rfl (fun c_43 => ?_) (fun c_43 => ?_)
      ·
        have hi := hg_gt (a := 255) (b := i) (by omega) (by omega) c_43
        refine hg_iload3 (pc' := 98) cx dX6_view_97 rfl ?_
        refine hg_iret cx dX6_view_98 ⟨_, rfl, ?_⟩
        obtain rfl : i = 256 := by omega
        obtain ⟨q1, q2⟩ := hc.th hI.2.1 hI.2.2.1
        simp only [op_view, sp_hz, c_5, c_16, hcl, hca, not_true_eq_false, or_self, if_false, hI.2.2.2]
        exact ⟨rfl, q1, q2⟩
      ·
        have hi := hg_ngt (a := 255) (b := i) (by omega) (by omega) c_43
        refine hg_aload0 (pc' := 47) cx dX6_view_46 rfl ?_
        refine hg_iload1 (pc' := 48) cx dX6_view_47 rfl ?_
        refine hg_iconst (pc' := 49) cx (nI 1) dX6_view_48 (by decide) rfl ?_
        refine hg_iload5 (pc' := 51) cx dX6_view_49 rfl ?_
        refine cv_X6_74 (pc' := 54) cx (K_X6_put l E _ j (by omega) 1 (by decide) _) ⟨rfl, rfl, Nat.le_of_ble_eq_true rfl, Nat.le_of_ble_eq_true rfl⟩ (Nat.le_of_ble_eq_true rfl) dX6_view_51 rfl (fun τ_51 h_51 => ?_)
        obtain rfl := h_51
        refine hg_aload0 (pc' := 55) cx dX6_view_54 rfl ?_
        refine hg_iload2 (pc' := 56) cx dX6_view_55 rfl ?_
        refine cv_X6_129 (pc' := 59) cx (K_X6_wiseOn l E _ (sp_hatF (S.1 0).1 j 1 (nI i)) (S.1 0).2 (hRτ.putF hjn (k := 1) (by decide) (nI i)) 99999 a (by omega) (by omega) (vs_hatF hv.1 hjn (by decide) (vs_upView (hv.1.2.2.2.2.2 j hjn) (by omega)))) ⟨rfl, rfl, Nat.le_of_ble_eq_true rfl, Nat.le_of_ble_eq_true rfl⟩ (Nat.le_of_ble_eq_true rfl) dX6_view_56 rfl (fun r_56 τ_56 h_56 => ?_)
        obtain ⟨hTa, hTb⟩ := (hI.2.1.put (4 + 6 * j + 1) (nI i)).back2 h_56.2.1 h_56.2.2
        obtain rfl := h_56.1
        refine hg_istore6 (pc' := 61) cx rfl dX6_view_59 rfl ?_
        refine hg_iload6 (pc' := 63) cx dX6_view_61 rfl ?_
        refine hg_iload4 (pc' := 65) cx dX6_view_63 rfl ?_
        refine hg_icmp_le (pc' := 68) cx 73 dX6_view_65 (by decide) rfl (fun c_65 => ?_) (fun c_65 => ?_)
        ·
          refine hg_iload3 (pc' := 74) cx dX6_view_73 rfl ?_
          refine hg_istore3 (pc' := 75) cx rfl dX6_view_74 rfl ?_
          refine hg_iload6 (pc' := 77) cx dX6_view_75 rfl ?_
          refine hg_iload4 (pc' := 79) cx dX6_view_77 rfl ?_
          refine hg_icmp_le (pc' := 82) cx 87 dX6_view_79 (by decide) rfl (fun c_79 => ?_) (fun c_79 => ?_)
          ·
            refine hg_iload4 (pc' := 89) cx dX6_view_87 rfl ?_
            refine hg_istore4 (pc' := 91) cx rfl dX6_view_89 rfl ?_
            refine hg_iinc5p (pc' := 94) cx rfl dX6_view_91 rfl ?_
            refine hg_goto cx 38 dX6_view_94 (by decide) ?_
            refine hg_drop6 ?_
            rw [nI_1]
            refine hg_nm (fun μ hμ => ?_)
            refine ih_38 (μ, _, _, _) ?_ ?_
            · subst hμ
              try dsimp only
              refine ⟨by omega, hTa, hTb, ?_⟩
              first
                | (rw [sp_scan_ge rfl (by rw [hI.2.2.2]; exact Int32.not_lt.mpr c_65)]; exact hI.2.2.2)
                | (rw [sp_scan_lt rfl (by rw [hI.2.2.2]; exact Int32.not_le.mp c_65)]; rfl)
            · show 256 - (i + 1) < 256 - i
              omega
          ·
            exact absurd c_65 c_79
        ·
          refine hg_iload5 (pc' := 70) cx dX6_view_68 rfl ?_
          refine hg_goto cx 74 dX6_view_70 (by decide) ?_
          refine hg_istore3 (pc' := 75) cx rfl dX6_view_74 rfl ?_
          refine hg_iload6 (pc' := 77) cx dX6_view_75 rfl ?_
          refine hg_iload4 (pc' := 79) cx dX6_view_77 rfl ?_
          refine hg_icmp_le (pc' := 82) cx 87 dX6_view_79 (by decide) rfl (fun c_79 => ?_) (fun c_79 => ?_)
          ·
            exact absurd c_79 c_65
          ·
            refine hg_iload6 (pc' := 84) cx dX6_view_82 rfl ?_
            refine hg_goto cx 89 dX6_view_84 (by decide) ?_
            refine hg_istore4 (pc' := 91) cx rfl dX6_view_89 rfl ?_
            refine hg_iinc5p (pc' := 94) cx rfl dX6_view_91 rfl ?_
            refine hg_goto cx 38 dX6_view_94 (by decide) ?_
            refine hg_drop6 ?_
            rw [nI_1]
            refine hg_nm (fun μ hμ => ?_)
            refine ih_38 (μ, _, _, _) ?_ ?_
            · subst hμ
              try dsimp only
              refine ⟨by omega, hTa, hTb, ?_⟩
              first
                | (rw [sp_scan_ge rfl (by rw [hI.2.2.2]; exact Int32.not_lt.mpr c_65)]; exact hI.2.2.2)
                | (rw [sp_scan_lt rfl (by rw [hI.2.2.2]; exact Int32.not_le.mp c_65)]; rfl)
            · show 256 - (i + 1) < 256 - i
              omega
    ·
      replace c_16 := hg_b0 c_16
      refine hg_aload0 (pc' := 20) cx dX6_view_19 rfl ?_
      refine hg_ldc (pc' := 22) cx kc_X6_38 dX6_view_20 rfl ?_
      refine cv_X6_40 (pc' := 25) cx (K_X6_finds l E _ (-1000000001) 0 (by decide) (by decide)) ⟨rfl, rfl, Nat.le_of_ble_eq_true rfl, Nat.le_of_ble_eq_true rfl⟩ (Nat.le_of_ble_eq_true rfl) dX6_view_22 rfl (fun r_22 τ_22 h_22 => ?_)
      obtain ⟨rfl, rfl⟩ := h_22
      refine hg_iret cx dX6_view_25 ⟨_, rfl, ?_⟩
      simp only [op_view, sp_hz, c_5, c_16, not_true_eq_false, not_false_eq_true, true_or, or_true, false_or, or_false, or_self, if_true, if_false, and_self]
      exact hc.find (by decide) (by decide)
set_option maxHeartbeats 4000000 in
set_option maxRecDepth 100000 in
theorem K_X6_faith (l : Launch) (E : hg_Wd) (σ : hg_Mem) (S : sp_S) (hc : cw_M σ S) (hv : vs_S S) (x : Int32) (N : Int32) (v : Int32) : hg_C l E yX6_faith cX6_faith 6 (some .int) { frames := 6, cells := 0, slots := 0, locals := 140 } [.ref (hg_ad E 50), .int x, .int N, .int v] σ (hg_pi (fun r τ => mw_P σ (op_faith S x N v) r τ)) := by
  refine hg_intro (by decide) [some (.ref (hg_ad E 50)), some (.int x), some (.int N), some (.int v), none, none] rfl (Nat.le_of_ble_eq_true rfl) ?_
  intro p e s m args below meth c cx
  have cx : hg_Cx E p s m args meth c cX6_faith 6 RX6 (some .int) := cx
  obtain ⟨hn10, hn, g0, g1, g2, hag⟩ := hc.get
  refine hg_aload0 (pc' := 1) cx dX6_faith_0 rfl ?_
  refine hg_iload1 (pc' := 2) cx dX6_faith_1 rfl ?_
  refine cv_X6_83 (pc' := 5) cx (K_X6_isHat l E _ (S.1 0).2 hn10 hn _) ⟨rfl, rfl, Nat.le_of_ble_eq_true rfl, Nat.le_of_ble_eq_true rfl⟩ (Nat.le_of_ble_eq_true rfl) dX6_faith_2 rfl (fun r_2 τ_2 h_2 => ?_)
  obtain ⟨rfl, rfl⟩ := h_2
  refine hg_if_eq (pc' := 8) cx 31 dX6_faith_5 (by decide) rfl (fun c_5 => ?_) (fun c_5 => ?_)
  ·
    refine hg_aload0 (pc' := 32) cx dX6_faith_31 rfl ?_
    refine hg_ldc (pc' := 34) cx kc_X6_38 dX6_faith_32 rfl ?_
    refine cv_X6_40 (pc' := 37) cx (K_X6_finds l E _ (-1000000001) 0 (by decide) (by decide)) ⟨rfl, rfl, Nat.le_of_ble_eq_true rfl, Nat.le_of_ble_eq_true rfl⟩ (Nat.le_of_ble_eq_true rfl) dX6_faith_34 rfl (fun r_34 τ_34 h_34 => ?_)
    obtain ⟨rfl, rfl⟩ := h_34
    refine hg_iret cx dX6_faith_37 ⟨_, rfl, ?_⟩
    simp only [op_faith, sp_hz, c_5, not_true_eq_false, not_false_eq_true, true_or, or_true, false_or, or_false, or_self, if_true, if_false, and_self]
    exact hc.find (by decide) (by decide)
  ·
    refine hg_iload2 (pc' := 9) cx dX6_faith_8 rfl ?_
    refine hg_i2l (pc' := 10) cx dX6_faith_9 rfl ?_
    refine hg_iconst (pc' := 11) cx 1 dX6_faith_10 (by decide) rfl ?_
    refine hg_bipush (pc' := 13) cx 60 dX6_faith_11 (by decide) rfl ?_
    refine cs_X6_44 (pc' := 16) cx (K_X6_in l E _ _ _ _) ⟨rfl, rfl, Nat.le_of_ble_eq_true rfl, Nat.le_of_ble_eq_true rfl⟩ (Nat.le_of_ble_eq_true rfl) dX6_faith_13 rfl (fun r_13 τ_13 h_13 => ?_)
    obtain ⟨rfl, rfl⟩ := h_13
    rw [sp_inL_out]
    refine hg_if_eq (pc' := 19) cx 31 dX6_faith_16 (by decide) rfl (fun c_16 => ?_) (fun c_16 => ?_)
    ·
      replace c_16 := hg_b0 c_16
      refine hg_aload0 (pc' := 32) cx dX6_faith_31 rfl ?_
      refine hg_ldc (pc' := 34) cx kc_X6_38 dX6_faith_32 rfl ?_
      refine cv_X6_40 (pc' := 37) cx (K_X6_finds l E _ (-1000000001) 0 (by decide) (by decide)) ⟨rfl, rfl, Nat.le_of_ble_eq_true rfl, Nat.le_of_ble_eq_true rfl⟩ (Nat.le_of_ble_eq_true rfl) dX6_faith_34 rfl (fun r_34 τ_34 h_34 => ?_)
      obtain ⟨rfl, rfl⟩ := h_34
      refine hg_iret cx dX6_faith_37 ⟨_, rfl, ?_⟩
      simp only [op_faith, sp_hz, c_5, c_16, not_true_eq_false, not_false_eq_true, true_or, or_true, false_or, or_false, or_self, if_true, if_false, and_self]
      exact hc.find (by decide) (by decide)
    ·
      replace c_16 := hg_b1 c_16
      refine hg_iload3 (pc' := 20) cx dX6_faith_19 rfl ?_
      refine hg_i2l (pc' := 21) cx dX6_faith_20 rfl ?_
      refine hg_iconst (pc' := 22) cx 0 dX6_faith_21 (by decide) rfl ?_
      refine hg_sipush (pc' := 25) cx 9999 dX6_faith_22 (by decide) rfl ?_
      refine cs_X6_44 (pc' := 28) cx (K_X6_in l E _ _ _ _) ⟨rfl, rfl, Nat.le_of_ble_eq_true rfl, Nat.le_of_ble_eq_true rfl⟩ (Nat.le_of_ble_eq_true rfl) dX6_faith_25 rfl (fun r_25 τ_25 h_25 => ?_)
      obtain ⟨rfl, rfl⟩ := h_25
      rw [sp_inL_out]
      refine hg_if_ne (pc' := 31) cx 38 dX6_faith_28 (by decide) rfl (fun c_28 => ?_) (fun c_28 => ?_)
      ·
        replace c_28 := hg_b1 c_28
        obtain ⟨j, hjn, rfl⟩ := sp_hz_of hn10 c_5
        have hcl : (nI j).toNatClampNeg = j := nI_clamp (by omega)
        have hj := hag j hjn
        obtain ⟨a, ha1, ha2, rfl⟩ := sp_out_of 1 60 (by decide) (by decide) (by decide) (by decide) c_16
        have hca : (nI a).toNatClampNeg = a := nI_clamp (by omega)
        refine hg_aload0 (pc' := 39) cx dX6_faith_38 rfl ?_
        refine cv_X6_120 (pc' := 42) cx (K_X6_thinks l E _ ) ⟨rfl, rfl, Nat.le_of_ble_eq_true rfl, Nat.le_of_ble_eq_true rfl⟩ (Nat.le_of_ble_eq_true rfl) dX6_faith_39 rfl (fun τ_39 h_39 => ?_)
        obtain ⟨hT, hT1⟩ := h_39
        have hRt := hc.1.keep hT1
        refine hg_iconst (pc' := 43) cx (-1) dX6_faith_42 (by decide) rfl ?_
        refine hg_istore4 (pc' := 45) cx rfl dX6_faith_43 rfl ?_
        refine hg_iconst (pc' := 46) cx (nI 0) dX6_faith_45 (by decide) rfl ?_
        refine hg_istore5 (pc' := 48) cx rfl dX6_faith_46 rfl ?_
        refine hg_nm (fun μ hμ => ?_)
        refine hg_loop (α := hg_Mem × Int32 × Nat) (I := fun z => z.2.2 ≤ 100 ∧ sp_Th σ z.1 ∧ (∀ k, k < 64 → z.1.1 51 k = σ.1 51 k) ∧ ((z.2.1 = -1 ∧ sp_first (fun f => decide (¬ (sp_go (sp_hatF (S.1 0).1 j 4 (nI f)) (S.1 0).2 a).2 j 2 < v)) 100 0 = sp_first (fun f => decide (¬ (sp_go (sp_hatF (S.1 0).1 j 4 (nI f)) (S.1 0).2 a).2 j 2 < v)) (100 - z.2.2) z.2.2) ∨ ∃ o, o < z.2.2 ∧ z.2.1 = nI o ∧ sp_first (fun f => decide (¬ (sp_go (sp_hatF (S.1 0).1 j 4 (nI f)) (S.1 0).2 a).2 j 2 < v)) 100 0 = some o)) (P := fun z => hg_G E p l e { frames := 6, cells := 0, slots := 0, locals := 140 } s m args below meth c 6 (MQ below (hg_Qc E (hg_pi (fun r τ => mw_P σ (op_faith S (nI j) (nI a) v) r τ))) args s 0 0 (hg_AW E)) z.1 48 [some (.ref (hg_ad E 50)), some (.int (nI j)), some (.int (nI a)), some (.int v), some (.int z.2.1), some (.int (nI z.2.2))] []) (fun z => 100 - z.2.2) ?_ (μ, -1, 0) ?_
        rotate_left
        · subst hμ
          try dsimp only
          exact ⟨by omega, hT, hT1, Or.inl ⟨rfl, rfl⟩⟩
        clear hμ μ
        rintro ⟨τ, u, i⟩ hI ih_48
        try dsimp only at hI ih_48 ⊢
        have hRτ : sp_RepM τ 51 (S.1 0).1 (S.1 0).2 := hc.1.keep hI.2.2.1
        have hnτ : τ.1 51 3 = nI (S.1 0).2 := (hRτ.2.2.1 3 (by decide)).trans hRτ.2.1
        have hi6 := hI.1
        refine hg_iload5 (pc' := 50) cx dX6_faith_48 rfl ?_
        refine hg_bipush (pc' := 52) cx (nI 99) dX6_faith_50 (by decide) rfl ?_
        refine hg_icmp_gt (pc' := 55) cx 92 dX6_faith_52 (by decide) rfl (fun c_52 => ?_) (fun c_52 => ?_)
        ·
          have hi := hg_gt (a := 99) (b := i) (by omega) (by omega) c_52
          refine hg_aload0 (pc' := 93) cx dX6_faith_92 rfl ?_
          refine hg_iload4 (pc' := 95) cx dX6_faith_93 rfl ?_
          refine cv_X6_132 (pc' := 98) cx (K_X6_orNone l E _ _) ⟨rfl, rfl, Nat.le_of_ble_eq_true rfl, Nat.le_of_ble_eq_true rfl⟩ (Nat.le_of_ble_eq_true rfl) dX6_faith_95 rfl (fun r_95 τ_95 h_95 => ?_)
          skip
          refine hg_iret cx dX6_faith_98 ⟨_, rfl, ?_⟩
          obtain ⟨q1, q2⟩ := hc.th hI.2.1 hI.2.2.1
          simp only [op_faith, sp_hz, c_5, c_16, c_28, hcl, hca, not_true_eq_false, or_self, if_false]
          obtain ⟨o1, o2⟩ := h_95
          rw [o1, o2]
          rcases hI.2.2.2 with ⟨z1, z2⟩ | ⟨o, z0, z1, z2⟩
          · rw [z2, show 100 - i = 0 by omega, z1, if_pos (show (-1 : Int32) < 0 by decide), if_pos (show (-1 : Int32) < 0 by decide)]
            exact ⟨(q1.find (f := 3) (by decide) (by decide)).1, (q1.find (f := 3) (w := -1000000004) (by decide) (by decide)).2.1, q2.tr (q1.find (f := 3) (w := -1000000004) (by decide) (by decide)).2.2⟩
          · rw [z2, z1, if_neg (nI_pos (by omega)), if_neg (nI_pos (by omega))]
            exact ⟨rfl, q1, q2⟩
        ·
          have hi := hg_ngt (a := 99) (b := i) (by omega) (by omega) c_52
          refine hg_iload4 (pc' := 57) cx dX6_faith_55 rfl ?_
          refine hg_if_ge (pc' := 60) cx 92 dX6_faith_57 (by decide) rfl (fun c_57 => ?_) (fun c_57 => ?_)
          ·
            refine hg_aload0 (pc' := 93) cx dX6_faith_92 rfl ?_
            refine hg_iload4 (pc' := 95) cx dX6_faith_93 rfl ?_
            refine cv_X6_132 (pc' := 98) cx (K_X6_orNone l E _ _) ⟨rfl, rfl, Nat.le_of_ble_eq_true rfl, Nat.le_of_ble_eq_true rfl⟩ (Nat.le_of_ble_eq_true rfl) dX6_faith_95 rfl (fun r_95 τ_95 h_95 => ?_)
            skip
            refine hg_iret cx dX6_faith_98 ⟨_, rfl, ?_⟩
            obtain ⟨q1, q2⟩ := hc.th hI.2.1 hI.2.2.1
            simp only [op_faith, sp_hz, c_5, c_16, c_28, hcl, hca, not_true_eq_false, or_self, if_false]
            obtain ⟨o1, o2⟩ := h_95
            rw [o1, o2]
            rcases hI.2.2.2 with ⟨z1, z2⟩ | ⟨o, z0, z1, z2⟩
            · rw [z1] at c_57; exact absurd c_57 (by decide)
            · rw [z2, z1, if_neg (nI_pos (by omega)), if_neg (nI_pos (by omega))]
              exact ⟨rfl, q1, q2⟩
          ·
            have hu : u = -1 ∧ _ := hI.2.2.2.resolve_right (fun ⟨o, z0, z1, z2⟩ => c_57 (by rw [z1]; exact nI_pos' (by omega)))
            refine hg_aload0 (pc' := 61) cx dX6_faith_60 rfl ?_
            refine hg_iload1 (pc' := 62) cx dX6_faith_61 rfl ?_
            refine hg_iconst (pc' := 63) cx (nI 4) dX6_faith_62 (by decide) rfl ?_
            refine hg_iload5 (pc' := 65) cx dX6_faith_63 rfl ?_
            refine cv_X6_74 (pc' := 68) cx (K_X6_put l E _ j (by omega) 4 (by decide) _) ⟨rfl, rfl, Nat.le_of_ble_eq_true rfl, Nat.le_of_ble_eq_true rfl⟩ (Nat.le_of_ble_eq_true rfl) dX6_faith_65 rfl (fun τ_65 h_65 => ?_)
            obtain rfl := h_65
            refine hg_aload0 (pc' := 69) cx dX6_faith_68 rfl ?_
            refine hg_iload1 (pc' := 70) cx dX6_faith_69 rfl ?_
            refine hg_iload2 (pc' := 71) cx dX6_faith_70 rfl ?_
            refine cv_X6_135 (pc' := 74) cx (K_X6_rightOn l E _ (sp_hatF (S.1 0).1 j 4 (nI i)) (S.1 0).2 (hRτ.putF hjn (k := 4) (by decide) (nI i)) 99999 a (by omega) (by omega) (vs_hatF hv.1 hjn (by decide) (vs_upFaith (hv.1.2.2.2.2.2 j hjn) (by omega))) j hjn) ⟨rfl, rfl, Nat.le_of_ble_eq_true rfl, Nat.le_of_ble_eq_true rfl⟩ (Nat.le_of_ble_eq_true rfl) dX6_faith_71 rfl (fun r_71 τ_71 h_71 => ?_)
            obtain ⟨hTa, hTb⟩ := (hI.2.1.put (4 + 6 * j + 4) (nI i)).back2 h_71.2.1 h_71.2.2
            obtain rfl := h_71.1
            refine hg_iload3 (pc' := 75) cx dX6_faith_74 rfl ?_
            refine hg_icmp_lt (pc' := 78) cx 83 dX6_faith_75 (by decide) rfl (fun c_75 => ?_) (fun c_75 => ?_)
            ·
              refine hg_iconst (pc' := 84) cx (-1) dX6_faith_83 (by decide) rfl ?_
              refine hg_istore4 (pc' := 86) cx rfl dX6_faith_84 rfl ?_
              refine hg_iinc5p (pc' := 89) cx rfl dX6_faith_86 rfl ?_
              refine hg_goto cx 48 dX6_faith_89 (by decide) ?_
              rw [nI_1]
              refine hg_nm (fun μ hμ => ?_)
              refine ih_48 (μ, _, _) ?_ ?_
              · subst hμ
                try dsimp only
                refine ⟨by omega, hTa, hTb, ?_⟩
                rw [hu.2, show 100 - i = (100 - (i + 1)) + 1 by omega]
                first
                  | exact Or.inl ⟨rfl, sp_first_no (decide_eq_false (fun z => z c_75))⟩
                  | exact Or.inr ⟨i, by omega, rfl, sp_first_yes (decide_eq_true c_75)⟩
              · show 100 - (i + 1) < 100 - i
                omega
            ·
              refine hg_iload5 (pc' := 80) cx dX6_faith_78 rfl ?_
              refine hg_goto cx 84 dX6_faith_80 (by decide) ?_
              refine hg_istore4 (pc' := 86) cx rfl dX6_faith_84 rfl ?_
              refine hg_iinc5p (pc' := 89) cx rfl dX6_faith_86 rfl ?_
              refine hg_goto cx 48 dX6_faith_89 (by decide) ?_
              rw [nI_1]
              refine hg_nm (fun μ hμ => ?_)
              refine ih_48 (μ, _, _) ?_ ?_
              · subst hμ
                try dsimp only
                refine ⟨by omega, hTa, hTb, ?_⟩
                rw [hu.2, show 100 - i = (100 - (i + 1)) + 1 by omega]
                first
                  | exact Or.inl ⟨rfl, sp_first_no (decide_eq_false (fun z => z c_75))⟩
                  | exact Or.inr ⟨i, by omega, rfl, sp_first_yes (decide_eq_true c_75)⟩
              · show 100 - (i + 1) < 100 - i
                omega
      ·
        replace c_28 := hg_b0 c_28
        refine hg_aload0 (pc' := 32) cx dX6_faith_31 rfl ?_
        refine hg_ldc (pc' := 34) cx kc_X6_38 dX6_faith_32 rfl ?_
        refine cv_X6_40 (pc' := 37) cx (K_X6_finds l E _ (-1000000001) 0 (by decide) (by decide)) ⟨rfl, rfl, Nat.le_of_ble_eq_true rfl, Nat.le_of_ble_eq_true rfl⟩ (Nat.le_of_ble_eq_true rfl) dX6_faith_34 rfl (fun r_34 τ_34 h_34 => ?_)
        obtain ⟨rfl, rfl⟩ := h_34
        refine hg_iret cx dX6_faith_37 ⟨_, rfl, ?_⟩
        simp only [op_faith, sp_hz, c_5, c_16, c_28, not_true_eq_false, not_false_eq_true, true_or, or_true, false_or, or_false, or_self, if_true, if_false, and_self]
        exact hc.find (by decide) (by decide)
set_option maxHeartbeats 4000000 in
set_option maxRecDepth 100000 in
theorem K_X6_swing (l : Launch) (E : hg_Wd) (σ : hg_Mem) (S : sp_S) (hc : cw_M σ S) (hv : vs_S S) : hg_C l E yX6_swing cX6_swing 4 (some .int) { frames := 5, cells := 0, slots := 0, locals := 117 } [.ref (hg_ad E 50)] σ (hg_pi (fun r τ => mw_P σ (op_swing S ) r τ)) := by
  refine hg_intro (by decide) [some (.ref (hg_ad E 50)), none, none, none] rfl (Nat.le_of_ble_eq_true rfl) ?_
  intro p e s m args below meth c cx
  have cx : hg_Cx E p s m args meth c cX6_swing 4 RX6 (some .int) := cx
  obtain ⟨hn10, hn, g0, g1, g2, hag⟩ := hc.get
  refine hg_aload0 (pc' := 1) cx dX6_swing_0 rfl ?_
  refine cv_X6_120 (pc' := 4) cx (K_X6_thinks l E _ ) ⟨rfl, rfl, Nat.le_of_ble_eq_true rfl, Nat.le_of_ble_eq_true rfl⟩ (Nat.le_of_ble_eq_true rfl) dX6_swing_1 rfl (fun τ_1 h_1 => ?_)
  obtain ⟨hT, hT1⟩ := h_1
  have hRt := hc.1.keep hT1
  refine hg_aload0 (pc' := 5) cx dX6_swing_4 rfl ?_
  refine cv_X6_138 (pc' := 8) cx (K_X6_heldThen l E _ (S.1 0).1 (S.1 0).2 hRt 99999 (by omega) hv.1) ⟨rfl, rfl, Nat.le_of_ble_eq_true rfl, Nat.le_of_ble_eq_true rfl⟩ (Nat.le_of_ble_eq_true rfl) dX6_swing_5 rfl (fun r_5 τ_5 h_5 => ?_)
  obtain ⟨hTx, hTy⟩ := hT.back2 h_5.2.1 h_5.2.2
  obtain rfl := h_5.1
  refine hg_istore1 (pc' := 9) cx rfl dX6_swing_8 rfl ?_
  refine hg_iconst (pc' := 10) cx (-1) dX6_swing_9 (by decide) rfl ?_
  refine hg_istore2 (pc' := 11) cx rfl dX6_swing_10 rfl ?_
  refine hg_iconst (pc' := 12) cx (nI 0) dX6_swing_11 (by decide) rfl ?_
  refine hg_istore3 (pc' := 13) cx rfl dX6_swing_12 rfl ?_
  refine hg_nm (fun μ hμ => ?_)
  refine hg_loop (α := hg_Mem × Int32 × Nat) (I := fun z => z.2.2 ≤ (S.1 0).2 ∧ sp_Th σ z.1 ∧ (∀ k, k < 64 → z.1.1 51 k = σ.1 51 k) ∧ ((z.2.1 = -1 ∧ sp_first (fun h => decide (¬ (S.1 0).1.2 h 5 = 0 ∧ ¬ sp_verd (sp_hatF (S.1 0).1 h 5 0) (S.1 0).2 = sp_verd (S.1 0).1 (S.1 0).2)) (S.1 0).2 0 = sp_first (fun h => decide (¬ (S.1 0).1.2 h 5 = 0 ∧ ¬ sp_verd (sp_hatF (S.1 0).1 h 5 0) (S.1 0).2 = sp_verd (S.1 0).1 (S.1 0).2)) ((S.1 0).2 - z.2.2) z.2.2) ∨ ∃ o, o < z.2.2 ∧ z.2.1 = nI o ∧ sp_first (fun h => decide (¬ (S.1 0).1.2 h 5 = 0 ∧ ¬ sp_verd (sp_hatF (S.1 0).1 h 5 0) (S.1 0).2 = sp_verd (S.1 0).1 (S.1 0).2)) (S.1 0).2 0 = some o)) (P := fun z => hg_G E p l e { frames := 5, cells := 0, slots := 0, locals := 117 } s m args below meth c 4 (MQ below (hg_Qc E (hg_pi (fun r τ => mw_P σ (op_swing S ) r τ))) args s 0 0 (hg_AW E)) z.1 13 [some (.ref (hg_ad E 50)), some (.int (sp_verd (S.1 0).1 (S.1 0).2)), some (.int z.2.1), some (.int (nI z.2.2))] []) (fun z => (S.1 0).2 - z.2.2) ?_ (μ, -1, 0) ?_
  rotate_left
  · subst hμ
    try dsimp only
    exact ⟨by omega, hTx, hTy, Or.inl ⟨rfl, rfl⟩⟩
  clear hμ μ
  rintro ⟨τ, u, j⟩ hI ih_13
  try dsimp only at hI ih_13 ⊢
  have hRτ : sp_RepM τ 51 (S.1 0).1 (S.1 0).2 := hc.1.keep hI.2.2.1
  have hnτ : τ.1 51 3 = nI (S.1 0).2 := (hRτ.2.2.1 3 (by decide)).trans hRτ.2.1
  have hjn := hI.1
  refine hg_iload3 (pc' := 14) cx dX6_swing_13 rfl ?_
  refine hg_aload0 (pc' := 15) cx dX6_swing_14 rfl ?_
  refine gf_X6_9 (pc' := 18) cx dX6_swing_15 rfl ?_
  refine hg_iconst (pc' := 19) cx (nI 3) dX6_swing_18 (by decide) rfl ?_
  refine hg_iald2 (pc' := 20) cx (by decide) (hg_ceI51 E) (by first | assumption | omega | decide) (by decide) dX6_swing_19 rfl ?_
  refine hg_icmp_ge (pc' := 23) cx 64 dX6_swing_20 (by decide) rfl (fun c_20 => ?_) (fun c_20 => ?_)
  ·
    have jlt := hg_ge hnτ (by omega) (by omega) c_20
    refine hg_aload0 (pc' := 65) cx dX6_swing_64 rfl ?_
    refine hg_iload2 (pc' := 66) cx dX6_swing_65 rfl ?_
    refine cv_X6_132 (pc' := 69) cx (K_X6_orNone l E _ _) ⟨rfl, rfl, Nat.le_of_ble_eq_true rfl, Nat.le_of_ble_eq_true rfl⟩ (Nat.le_of_ble_eq_true rfl) dX6_swing_66 rfl (fun r_66 τ_66 h_66 => ?_)
    skip
    refine hg_iret cx dX6_swing_69 ⟨_, rfl, ?_⟩
    obtain ⟨q1, q2⟩ := hc.th hI.2.1 hI.2.2.1
    simp only [op_swing]
    obtain ⟨o1, o2⟩ := h_66
    rw [o1, o2]
    rcases hI.2.2.2 with ⟨z1, z2⟩ | ⟨o, z0, z1, z2⟩
    · rw [z2, show (S.1 0).2 - j = 0 by omega, z1, if_pos (show (-1 : Int32) < 0 by decide), if_pos (show (-1 : Int32) < 0 by decide)]
      exact ⟨(q1.find (f := 3) (by decide) (by decide)).1, (q1.find (f := 3) (w := -1000000004) (by decide) (by decide)).2.1, q2.tr (q1.find (f := 3) (w := -1000000004) (by decide) (by decide)).2.2⟩
    · rw [z2, z1, if_neg (nI_pos (by omega)), if_neg (nI_pos (by omega))]
      exact ⟨rfl, q1, q2⟩
  ·
    have jlt := hg_nge hnτ (by omega) (by omega) c_20
    have eon : τ.1 51 (4 + 6 * j + 5) = (S.1 0).1.2 j 5 := hRτ.2.2.2 j jlt 5 (by decide)
    refine hg_iload2 (pc' := 24) cx dX6_swing_23 rfl ?_
    refine hg_if_ge (pc' := 27) cx 64 dX6_swing_24 (by decide) rfl (fun c_24 => ?_) (fun c_24 => ?_)
    ·
      refine hg_aload0 (pc' := 65) cx dX6_swing_64 rfl ?_
      refine hg_iload2 (pc' := 66) cx dX6_swing_65 rfl ?_
      refine cv_X6_132 (pc' := 69) cx (K_X6_orNone l E _ _) ⟨rfl, rfl, Nat.le_of_ble_eq_true rfl, Nat.le_of_ble_eq_true rfl⟩ (Nat.le_of_ble_eq_true rfl) dX6_swing_66 rfl (fun r_66 τ_66 h_66 => ?_)
      skip
      refine hg_iret cx dX6_swing_69 ⟨_, rfl, ?_⟩
      obtain ⟨q1, q2⟩ := hc.th hI.2.1 hI.2.2.1
      simp only [op_swing]
      obtain ⟨o1, o2⟩ := h_66
      rw [o1, o2]
      rcases hI.2.2.2 with ⟨z1, z2⟩ | ⟨o, z0, z1, z2⟩
      · rw [z1] at c_24; exact absurd c_24 (by decide)
      · rw [z2, z1, if_neg (nI_pos (by omega)), if_neg (nI_pos (by omega))]
        exact ⟨rfl, q1, q2⟩
    ·
      have hu : u = -1 ∧ _ := hI.2.2.2.resolve_right (fun ⟨o, z0, z1, z2⟩ => c_24 (by rw [z1]; exact nI_pos' (by omega)))
      refine hg_aload0 (pc' := 28) cx dX6_swing_27 rfl ?_
      refine hg_iload3 (pc' := 29) cx dX6_swing_28 rfl ?_
      refine hg_iconst (pc' := 30) cx (nI 5) dX6_swing_29 (by decide) rfl ?_
      refine cv_X6_48 (pc' := 33) cx (K_X6_it l E _ j (by omega) 5 (by omega)) ⟨rfl, rfl, Nat.le_of_ble_eq_true rfl, Nat.le_of_ble_eq_true rfl⟩ (Nat.le_of_ble_eq_true rfl) dX6_swing_30 rfl (fun r_30 τ_30 h_30 => ?_)
      obtain ⟨rfl, rfl⟩ := h_30
      refine hg_iconst (pc' := 34) cx 1 dX6_swing_33 (by decide) rfl ?_
      refine hg_icmp_ne (pc' := 37) cx 58 dX6_swing_34 (by decide) rfl (fun c_34 => ?_) (fun c_34 => ?_)
      ·
        refine hg_iinc3p (pc' := 61) cx rfl dX6_swing_58 rfl ?_
        refine hg_goto cx 13 dX6_swing_61 (by decide) ?_
        rw [nI_1]
        refine hg_nm (fun μ hμ => ?_)
        refine ih_13 (μ, _, _) ?_ ?_
        · subst hμ
          try dsimp only
          first
            | (refine ⟨by omega, hI.2.1, hI.2.2.1, Or.inl ⟨hu.1, ?_⟩⟩
               rw [hu.2, show (S.1 0).2 - j = ((S.1 0).2 - (j + 1)) + 1 by omega]
               exact sp_first_no (decide_eq_false (fun z => by
                 obtain ⟨k, hk, e⟩ := (hv.1.2.2.2.2.2 j jlt).2.2.2.2.2
                 rcases (show k = 0 ∨ k = 1 by omega) with rfl | rfl
                 · exact z.1 e
                 · exact c_34 (eon.trans e))))
            | (refine ⟨by omega, hTa, hTb, ?_⟩
               rw [hu.2, show (S.1 0).2 - j = ((S.1 0).2 - (j + 1)) + 1 by omega]
               first
                 | exact Or.inl ⟨rfl, sp_first_no (decide_eq_false (fun z => z.2 c_49))⟩
                 | exact Or.inr ⟨j, by omega, rfl, sp_first_yes (decide_eq_true ⟨fun z => absurd ((z.symm.trans eon.symm).trans c_34) (by decide), c_49⟩)⟩)
        · show (S.1 0).2 - (j + 1) < (S.1 0).2 - j
          omega
      ·
        refine hg_aload0 (pc' := 38) cx dX6_swing_37 rfl ?_
        refine hg_iload3 (pc' := 39) cx dX6_swing_38 rfl ?_
        refine hg_iconst (pc' := 40) cx (nI 5) dX6_swing_39 (by decide) rfl ?_
        refine hg_iconst (pc' := 41) cx 0 dX6_swing_40 (by decide) rfl ?_
        refine cv_X6_74 (pc' := 44) cx (K_X6_put l E _ j (by omega) 5 (by decide) _) ⟨rfl, rfl, Nat.le_of_ble_eq_true rfl, Nat.le_of_ble_eq_true rfl⟩ (Nat.le_of_ble_eq_true rfl) dX6_swing_41 rfl (fun τ_41 h_41 => ?_)
        obtain rfl := h_41
        refine hg_aload0 (pc' := 45) cx dX6_swing_44 rfl ?_
        refine cv_X6_138 (pc' := 48) cx (K_X6_heldThen l E _ (sp_hatF (S.1 0).1 j 5 0) (S.1 0).2 (hRτ.putF jlt (k := 5) (by decide) 0) 99999 (by omega) (vs_hatF hv.1 jlt (by decide) (vs_upOn (hv.1.2.2.2.2.2 j jlt)))) ⟨rfl, rfl, Nat.le_of_ble_eq_true rfl, Nat.le_of_ble_eq_true rfl⟩ (Nat.le_of_ble_eq_true rfl) dX6_swing_45 rfl (fun r_45 τ_45 h_45 => ?_)
        obtain ⟨hTa, hTb⟩ := (hI.2.1.put (4 + 6 * j + 5) 0).back2 h_45.2.1 h_45.2.2
        obtain rfl := h_45.1
        refine hg_iload1 (pc' := 49) cx dX6_swing_48 rfl ?_
        refine hg_icmp_eq (pc' := 52) cx 56 dX6_swing_49 (by decide) rfl (fun c_49 => ?_) (fun c_49 => ?_)
        ·
          refine hg_iconst (pc' := 57) cx (-1) dX6_swing_56 (by decide) rfl ?_
          refine hg_istore2 (pc' := 58) cx rfl dX6_swing_57 rfl ?_
          refine hg_iinc3p (pc' := 61) cx rfl dX6_swing_58 rfl ?_
          refine hg_goto cx 13 dX6_swing_61 (by decide) ?_
          rw [nI_1]
          refine hg_nm (fun μ hμ => ?_)
          refine ih_13 (μ, _, _) ?_ ?_
          · subst hμ
            try dsimp only
            first
              | (refine ⟨by omega, hI.2.1, hI.2.2.1, Or.inl ⟨hu.1, ?_⟩⟩
                 rw [hu.2, show (S.1 0).2 - j = ((S.1 0).2 - (j + 1)) + 1 by omega]
                 exact sp_first_no (decide_eq_false (fun z => by
                   obtain ⟨k, hk, e⟩ := (hv.1.2.2.2.2.2 j jlt).2.2.2.2.2
                   rcases (show k = 0 ∨ k = 1 by omega) with rfl | rfl
                   · exact z.1 e
                   · exact c_34 (eon.trans e))))
              | (refine ⟨by omega, hTa, hTb, ?_⟩
                 rw [hu.2, show (S.1 0).2 - j = ((S.1 0).2 - (j + 1)) + 1 by omega]
                 first
                   | exact Or.inl ⟨rfl, sp_first_no (decide_eq_false (fun z => z.2 c_49))⟩
                   | exact Or.inr ⟨j, by omega, rfl, sp_first_yes (decide_eq_true ⟨fun z => absurd ((z.symm.trans eon.symm).trans c_34) (by decide), c_49⟩)⟩)
          · show (S.1 0).2 - (j + 1) < (S.1 0).2 - j
            omega
        ·
          refine hg_iload3 (pc' := 53) cx dX6_swing_52 rfl ?_
          refine hg_goto cx 57 dX6_swing_53 (by decide) ?_
          refine hg_istore2 (pc' := 58) cx rfl dX6_swing_57 rfl ?_
          refine hg_iinc3p (pc' := 61) cx rfl dX6_swing_58 rfl ?_
          refine hg_goto cx 13 dX6_swing_61 (by decide) ?_
          rw [nI_1]
          refine hg_nm (fun μ hμ => ?_)
          refine ih_13 (μ, _, _) ?_ ?_
          · subst hμ
            try dsimp only
            first
              | (refine ⟨by omega, hI.2.1, hI.2.2.1, Or.inl ⟨hu.1, ?_⟩⟩
                 rw [hu.2, show (S.1 0).2 - j = ((S.1 0).2 - (j + 1)) + 1 by omega]
                 exact sp_first_no (decide_eq_false (fun z => by
                   obtain ⟨k, hk, e⟩ := (hv.1.2.2.2.2.2 j jlt).2.2.2.2.2
                   rcases (show k = 0 ∨ k = 1 by omega) with rfl | rfl
                   · exact z.1 e
                   · exact c_34 (eon.trans e))))
              | (refine ⟨by omega, hTa, hTb, ?_⟩
                 rw [hu.2, show (S.1 0).2 - j = ((S.1 0).2 - (j + 1)) + 1 by omega]
                 first
                   | exact Or.inl ⟨rfl, sp_first_no (decide_eq_false (fun z => z.2 c_49))⟩
                   | exact Or.inr ⟨j, by omega, rfl, sp_first_yes (decide_eq_true ⟨fun z => absurd ((z.symm.trans eon.symm).trans c_34) (by decide), c_49⟩)⟩)
          · show (S.1 0).2 - (j + 1) < (S.1 0).2 - j
            omega
set_option maxHeartbeats 4000000 in
set_option maxRecDepth 100000 in
theorem K_X6_revise (l : Launch) (E : hg_Wd) (σ : hg_Mem) (S : sp_S) (hc : cw_M σ S) (hv : vs_S S) (N : Int32) : hg_C l E yX6_revise cX6_revise 7 (some .int) { frames := 5, cells := 0, slots := 0, locals := 117 } [.ref (hg_ad E 50), .int N] σ (hg_pi (fun r τ => mw_P σ (op_revise S N) r τ)) := by
  refine hg_intro (by decide) [some (.ref (hg_ad E 50)), some (.int N), none, none, none, none, none] rfl (Nat.le_of_ble_eq_true rfl) ?_
  intro p e s m args below meth c cx
  have cx : hg_Cx E p s m args meth c cX6_revise 7 RX6 (some .int) := cx
  obtain ⟨hn10, hn, g0, g1, g2, hag⟩ := hc.get
  refine hg_iload1 (pc' := 1) cx dX6_revise_0 rfl ?_
  refine hg_i2l (pc' := 2) cx dX6_revise_1 rfl ?_
  refine hg_iconst (pc' := 3) cx 1 dX6_revise_2 (by decide) rfl ?_
  refine hg_bipush (pc' := 5) cx 60 dX6_revise_3 (by decide) rfl ?_
  refine cs_X6_44 (pc' := 8) cx (K_X6_in l E _ _ _ _) ⟨rfl, rfl, Nat.le_of_ble_eq_true rfl, Nat.le_of_ble_eq_true rfl⟩ (Nat.le_of_ble_eq_true rfl) dX6_revise_5 rfl (fun r_5 τ_5 h_5 => ?_)
  obtain ⟨rfl, rfl⟩ := h_5
  rw [sp_inL_out]
  refine hg_if_ne (pc' := 11) cx 18 dX6_revise_8 (by decide) rfl (fun c_8 => ?_) (fun c_8 => ?_)
  ·
    replace c_8 := hg_b1 c_8
    obtain ⟨a, ha1, ha2, rfl⟩ := sp_out_of 1 60 (by decide) (by decide) (by decide) (by decide) c_8
    have hca : (nI a).toNatClampNeg = a := nI_clamp (by omega)
    refine hg_aload0 (pc' := 19) cx dX6_revise_18 rfl ?_
    refine cv_X6_120 (pc' := 22) cx (K_X6_thinks l E _ ) ⟨rfl, rfl, Nat.le_of_ble_eq_true rfl, Nat.le_of_ble_eq_true rfl⟩ (Nat.le_of_ble_eq_true rfl) dX6_revise_19 rfl (fun τ_19 h_19 => ?_)
    obtain ⟨hT, hT1⟩ := h_19
    have hRt := hc.1.keep hT1
    refine hg_iconst (pc' := 23) cx (-1) dX6_revise_22 (by decide) rfl ?_
    refine hg_istore2 (pc' := 24) cx rfl dX6_revise_23 rfl ?_
    refine hg_iconst (pc' := 25) cx 0 dX6_revise_24 (by decide) rfl ?_
    refine hg_istore3 (pc' := 26) cx rfl dX6_revise_25 rfl ?_
    refine hg_iconst (pc' := 27) cx (nI 0) dX6_revise_26 (by decide) rfl ?_
    refine hg_istore4 (pc' := 29) cx rfl dX6_revise_27 rfl ?_
    refine hg_drop5 ?_
    refine hg_drop6 ?_
    refine hg_nm (fun μ hμ => ?_)
    refine hg_loop (α := hg_Mem × Int32 × Int32 × Nat) (I := fun z => z.2.2.2 ≤ 8 ∧ sp_Th σ z.1 ∧ (∀ k, k < 64 → z.1.1 51 k = σ.1 51 k) ∧ ((z.2.2.2 = 0 ∧ z.2.1 = -1) ∨ (0 < z.2.2.2 ∧ 0 ≤ z.2.1 ∧ sp_scanL (sp_revV (S.1 0).1 (S.1 0).2 a) 0 99991 z.2.2.2 = (z.2.1, z.2.2.1)))) (P := fun z => hg_G E p l e { frames := 5, cells := 0, slots := 0, locals := 117 } s m args below meth c 7 (MQ below (hg_Qc E (hg_pi (fun r τ => mw_P σ (op_revise S (nI a)) r τ))) args s 0 0 (hg_AW E)) z.1 29 [some (.ref (hg_ad E 50)), some (.int (nI a)), some (.int z.2.1), some (.int z.2.2.1), some (.int (nI z.2.2.2)), none, none] []) (fun z => 8 - z.2.2.2) ?_ (μ, -1, 0, 0) ?_
    rotate_left
    · subst hμ
      try dsimp only
      exact ⟨by omega, hT, hT1, Or.inl ⟨rfl, rfl⟩⟩
    clear hμ μ
    rintro ⟨τ, b, w, i⟩ hI ih_29
    try dsimp only at hI ih_29 ⊢
    have hRτ : sp_RepM τ 51 (S.1 0).1 (S.1 0).2 := hc.1.keep hI.2.2.1
    have hnτ : τ.1 51 3 = nI (S.1 0).2 := (hRτ.2.2.1 3 (by decide)).trans hRτ.2.1
    have hi8 := hI.1
    refine hg_iload4 (pc' := 31) cx dX6_revise_29 rfl ?_
    refine hg_bipush (pc' := 33) cx (nI 8) dX6_revise_31 (by decide) rfl ?_
    refine hg_icmp_ge (pc' := 36) cx 112 dX6_revise_33 (by decide) rfl (fun c_33 => ?_) (fun c_33 => ?_)
    ·
      have hi := hg_ge (n := 8) (j := i) rfl (by omega) (by omega) c_33
      refine hg_iload2 (pc' := 113) cx dX6_revise_112 rfl ?_
      refine hg_iret cx dX6_revise_113 ⟨_, rfl, ?_⟩
      obtain rfl : i = 8 := by omega
      obtain ⟨q1, q2⟩ := hc.th hI.2.1 hI.2.2.1
      rcases hI.2.2.2 with ⟨z0, z1⟩ | ⟨z0, z1, z2⟩
      · omega
      · simp only [op_revise, c_8, hca, not_true_eq_false, if_false, z2]
        exact ⟨rfl, q1, q2⟩
    ·
      have hi := hg_nge (n := 8) (j := i) rfl (by omega) (by omega) c_33
      refine hg_aload0 (pc' := 37) cx dX6_revise_36 rfl ?_
      refine gf_X6_9 (pc' := 40) cx dX6_revise_37 rfl ?_
      refine hg_iconst (pc' := 41) cx (nI 1) dX6_revise_40 (by decide) rfl ?_
      refine hg_dup2 (pc' := 42) cx rfl rfl dX6_revise_41 rfl ?_
      refine hg_iald2 (pc' := 43) cx (by decide) (hg_ceI51 E) (by first | assumption | omega | decide) (by decide) dX6_revise_42 rfl ?_
      refine hg_iconst (pc' := 44) cx 1 dX6_revise_43 (by decide) rfl ?_
      refine hg_iload4 (pc' := 46) cx dX6_revise_44 rfl ?_
      refine hg_ishl (pc' := 47) cx dX6_revise_46 rfl ?_
      refine hg_ixor (pc' := 48) cx dX6_revise_47 rfl ?_
      rw [hRτ.2.2.1 1 (by decide)]
      refine hg_iast2 (pc' := 49) cx (by decide) (hg_ceI51 E) (by first | assumption | omega | decide) (by decide) dX6_revise_48 rfl ?_
      refine hg_aload0 (pc' := 50) cx dX6_revise_49 rfl ?_
      refine hg_iload1 (pc' := 51) cx dX6_revise_50 rfl ?_
      refine cv_X6_112 (pc' := 54) cx (K_X6_goesFor l E _ (va_up (S.1 0).1.1 1 ((S.1 0).1.1 1 ^^^ ((1 : Int32) <<< (nI i &&& 31))), (S.1 0).1.2) (S.1 0).2 (hRτ.setG (k := 1) (by decide) _) 99999 a (by omega) (by omega) (vs_truth hv.1 hi)) ⟨rfl, rfl, Nat.le_of_ble_eq_true rfl, Nat.le_of_ble_eq_true rfl⟩ (Nat.le_of_ble_eq_true rfl) dX6_revise_51 rfl (fun τ_51 h_51 => ?_)
      skip
      refine hg_aload0 (pc' := 55) cx dX6_revise_54 rfl ?_
      refine hg_iconst (pc' := 56) cx (nI 3) dX6_revise_55 (by decide) rfl ?_
      refine cv_X6_141 (pc' := 59) cx (K_X6_sums l E _ (S.1 0).2 hn10 ((h_51.1.2.2.1 3 (by decide)).trans h_51.1.2.1) 3 (by decide)) ⟨rfl, rfl, Nat.le_of_ble_eq_true rfl, Nat.le_of_ble_eq_true rfl⟩ (Nat.le_of_ble_eq_true rfl) dX6_revise_56 rfl (fun r_56 τ_56 h_56 => ?_)
      obtain ⟨rfl, rfl⟩ := h_56
      have ev : sp_sumK (sp_hrs (τ_51.1 51)) 3 (S.1 0).2 = sp_revV (S.1 0).1 (S.1 0).2 a i := (sp_sumK_3 _ _).trans (sp_sum_ag 3 _ (fun h hh => h_51.1.ag hh))
      rw [ev]
      obtain ⟨kv, hkv, ekv⟩ := sp_sum_in (f := (sp_go (va_up (S.1 0).1.1 1 ((S.1 0).1.1 1 ^^^ ((1 : Int32) <<< (nI i &&& 31))), (S.1 0).1.2) (S.1 0).2 a).2) (S.1 0).2 (fun h hh => (vs_go (vs_truth hv.1 hi) a (by omega)).2.2.2.2.2 h hh)
      have hval : sp_revV (S.1 0).1 (S.1 0).2 a i < 99991 := by
        show sp_sum _ 3 _ < 99991
        rw [ekv]; exact nI_lt (b := 99991) (by omega) (by omega)
      refine hg_istore5 (pc' := 61) cx rfl dX6_revise_59 rfl ?_
      refine hg_aload0 (pc' := 62) cx dX6_revise_61 rfl ?_
      refine cv_X6_123 (pc' := 65) cx (K_X6_putsBack l E _ ) ⟨rfl, rfl, Nat.le_of_ble_eq_true rfl, Nat.le_of_ble_eq_true rfl⟩ (Nat.le_of_ble_eq_true rfl) dX6_revise_62 rfl (fun τ_62 h_62 => ?_)
      obtain ⟨hTa, hTb⟩ := ((hI.2.1.put 1 _).fr h_51.2).back h_62.1 h_62.2
      refine hg_iload2 (pc' := 66) cx dX6_revise_65 rfl ?_
      refine hg_if_lt (pc' := 69) cx 75 dX6_revise_66 (by decide) rfl (fun c_66 => ?_) (fun c_66 => ?_)
      ·
        refine hg_iconst (pc' := 76) cx 1 dX6_revise_75 (by decide) rfl ?_
        refine hg_goto cx 80 dX6_revise_76 (by decide) ?_
        refine hg_istore6 (pc' := 82) cx rfl dX6_revise_80 rfl ?_
        refine hg_iload6 (pc' := 84) cx dX6_revise_82 rfl ?_
        refine hg_if_eq (pc' := 87) cx 92 dX6_revise_84 (by decide) rfl (fun c_84 => ?_) (fun c_84 => ?_)
        ·
          exact absurd c_84 (by decide)
        ·
          refine hg_iload4 (pc' := 89) cx dX6_revise_87 rfl ?_
          refine hg_goto cx 93 dX6_revise_89 (by decide) ?_
          refine hg_istore2 (pc' := 94) cx rfl dX6_revise_93 rfl ?_
          refine hg_iload6 (pc' := 96) cx dX6_revise_94 rfl ?_
          refine hg_if_eq (pc' := 99) cx 104 dX6_revise_96 (by decide) rfl (fun c_96 => ?_) (fun c_96 => ?_)
          ·
            exact absurd c_96 (by decide)
          ·
            refine hg_iload5 (pc' := 101) cx dX6_revise_99 rfl ?_
            refine hg_goto cx 105 dX6_revise_101 (by decide) ?_
            refine hg_istore3 (pc' := 106) cx rfl dX6_revise_105 rfl ?_
            refine hg_iinc4p (pc' := 109) cx rfl dX6_revise_106 rfl ?_
            refine hg_goto cx 29 dX6_revise_109 (by decide) ?_
            refine hg_drop5 ?_
            refine hg_drop6 ?_
            rw [nI_1]
            refine hg_nm (fun μ hμ => ?_)
            refine ih_29 (μ, _, _, _) ?_ ?_
            · subst hμ
              try dsimp only
              refine ⟨by omega, hTa, hTb, Or.inr ⟨by omega, ?_⟩⟩
              rcases hI.2.2.2 with ⟨z0, z1⟩ | ⟨z0, z1, z2⟩
              · first
                  | exact absurd (by rw [z1]; decide) c_66
                  | (rw [z0] at hval ⊢
                     exact ⟨by decide, sp_scanL_0 hval⟩)
              · rw [sp_scanL, z2]
                first
                  | exact absurd c_66 (Int32.not_lt.mpr z1)
                  | (rw [if_neg (Int32.not_lt.mpr c_72)]; exact ⟨z1, rfl⟩)
                  | (rw [if_pos (Int32.not_le.mp c_72)]; exact ⟨nI_pos' (by omega), rfl⟩)
            · show 8 - (i + 1) < 8 - i
              omega
      ·
        refine hg_iload5 (pc' := 71) cx dX6_revise_69 rfl ?_
        refine hg_iload3 (pc' := 72) cx dX6_revise_71 rfl ?_
        refine hg_icmp_ge (pc' := 75) cx 79 dX6_revise_72 (by decide) rfl (fun c_72 => ?_) (fun c_72 => ?_)
        ·
          refine hg_iconst (pc' := 80) cx 0 dX6_revise_79 (by decide) rfl ?_
          refine hg_istore6 (pc' := 82) cx rfl dX6_revise_80 rfl ?_
          refine hg_iload6 (pc' := 84) cx dX6_revise_82 rfl ?_
          refine hg_if_eq (pc' := 87) cx 92 dX6_revise_84 (by decide) rfl (fun c_84 => ?_) (fun c_84 => ?_)
          ·
            refine hg_iload2 (pc' := 93) cx dX6_revise_92 rfl ?_
            refine hg_istore2 (pc' := 94) cx rfl dX6_revise_93 rfl ?_
            refine hg_iload6 (pc' := 96) cx dX6_revise_94 rfl ?_
            refine hg_if_eq (pc' := 99) cx 104 dX6_revise_96 (by decide) rfl (fun c_96 => ?_) (fun c_96 => ?_)
            ·
              refine hg_iload3 (pc' := 105) cx dX6_revise_104 rfl ?_
              refine hg_istore3 (pc' := 106) cx rfl dX6_revise_105 rfl ?_
              refine hg_iinc4p (pc' := 109) cx rfl dX6_revise_106 rfl ?_
              refine hg_goto cx 29 dX6_revise_109 (by decide) ?_
              refine hg_drop5 ?_
              refine hg_drop6 ?_
              rw [nI_1]
              refine hg_nm (fun μ hμ => ?_)
              refine ih_29 (μ, _, _, _) ?_ ?_
              · subst hμ
                try dsimp only
                refine ⟨by omega, hTa, hTb, Or.inr ⟨by omega, ?_⟩⟩
                rcases hI.2.2.2 with ⟨z0, z1⟩ | ⟨z0, z1, z2⟩
                · first
                    | exact absurd (by rw [z1]; decide) c_66
                    | (rw [z0] at hval ⊢
                       exact ⟨by decide, sp_scanL_0 hval⟩)
                · rw [sp_scanL, z2]
                  first
                    | exact absurd c_66 (Int32.not_lt.mpr z1)
                    | (rw [if_neg (Int32.not_lt.mpr c_72)]; exact ⟨z1, rfl⟩)
                    | (rw [if_pos (Int32.not_le.mp c_72)]; exact ⟨nI_pos' (by omega), rfl⟩)
              · show 8 - (i + 1) < 8 - i
                omega
            ·
              exact absurd c_96 (by decide)
          ·
            exact absurd c_84 (by decide)
        ·
          refine hg_iconst (pc' := 76) cx 1 dX6_revise_75 (by decide) rfl ?_
          refine hg_goto cx 80 dX6_revise_76 (by decide) ?_
          refine hg_istore6 (pc' := 82) cx rfl dX6_revise_80 rfl ?_
          refine hg_iload6 (pc' := 84) cx dX6_revise_82 rfl ?_
          refine hg_if_eq (pc' := 87) cx 92 dX6_revise_84 (by decide) rfl (fun c_84 => ?_) (fun c_84 => ?_)
          ·
            exact absurd c_84 (by decide)
          ·
            refine hg_iload4 (pc' := 89) cx dX6_revise_87 rfl ?_
            refine hg_goto cx 93 dX6_revise_89 (by decide) ?_
            refine hg_istore2 (pc' := 94) cx rfl dX6_revise_93 rfl ?_
            refine hg_iload6 (pc' := 96) cx dX6_revise_94 rfl ?_
            refine hg_if_eq (pc' := 99) cx 104 dX6_revise_96 (by decide) rfl (fun c_96 => ?_) (fun c_96 => ?_)
            ·
              exact absurd c_96 (by decide)
            ·
              refine hg_iload5 (pc' := 101) cx dX6_revise_99 rfl ?_
              refine hg_goto cx 105 dX6_revise_101 (by decide) ?_
              refine hg_istore3 (pc' := 106) cx rfl dX6_revise_105 rfl ?_
              refine hg_iinc4p (pc' := 109) cx rfl dX6_revise_106 rfl ?_
              refine hg_goto cx 29 dX6_revise_109 (by decide) ?_
              refine hg_drop5 ?_
              refine hg_drop6 ?_
              rw [nI_1]
              refine hg_nm (fun μ hμ => ?_)
              refine ih_29 (μ, _, _, _) ?_ ?_
              · subst hμ
                try dsimp only
                refine ⟨by omega, hTa, hTb, Or.inr ⟨by omega, ?_⟩⟩
                rcases hI.2.2.2 with ⟨z0, z1⟩ | ⟨z0, z1, z2⟩
                · first
                    | exact absurd (by rw [z1]; decide) c_66
                    | (rw [z0] at hval ⊢
                       exact ⟨by decide, sp_scanL_0 hval⟩)
                · rw [sp_scanL, z2]
                  first
                    | exact absurd c_66 (Int32.not_lt.mpr z1)
                    | (rw [if_neg (Int32.not_lt.mpr c_72)]; exact ⟨z1, rfl⟩)
                    | (rw [if_pos (Int32.not_le.mp c_72)]; exact ⟨nI_pos' (by omega), rfl⟩)
              · show 8 - (i + 1) < 8 - i
                omega
  ·
    replace c_8 := hg_b0 c_8
    refine hg_aload0 (pc' := 12) cx dX6_revise_11 rfl ?_
    refine hg_ldc (pc' := 14) cx kc_X6_38 dX6_revise_12 rfl ?_
    refine cv_X6_40 (pc' := 17) cx (K_X6_finds l E _ (-1000000001) 0 (by decide) (by decide)) ⟨rfl, rfl, Nat.le_of_ble_eq_true rfl, Nat.le_of_ble_eq_true rfl⟩ (Nat.le_of_ble_eq_true rfl) dX6_revise_14 rfl (fun r_14 τ_14 h_14 => ?_)
    obtain ⟨rfl, rfl⟩ := h_14
    refine hg_iret cx dX6_revise_17 ⟨_, rfl, ?_⟩
    simp only [op_revise, sp_hz, c_8, not_true_eq_false, not_false_eq_true, true_or, or_true, false_or, or_false, or_self, if_true, if_false, and_self]
    exact hc.find (by decide) (by decide)
set_option maxHeartbeats 4000000 in
set_option maxRecDepth 100000 in
theorem K_X6_best (l : Launch) (E : hg_Wd) (σ : hg_Mem) (S : sp_S) (hc : cw_M σ S) (hv : vs_S S) (N : Int32) : hg_C l E yX6_best cX6_best 4 (some .int) { frames := 5, cells := 0, slots := 0, locals := 117 } [.ref (hg_ad E 50), .int N] σ (hg_pi (fun r τ => mw_P σ (op_best S N) r τ)) := by
  refine hg_intro (by decide) [some (.ref (hg_ad E 50)), some (.int N), none, none] rfl (Nat.le_of_ble_eq_true rfl) ?_
  intro p e s m args below meth c cx
  have cx : hg_Cx E p s m args meth c cX6_best 4 RX6 (some .int) := cx
  obtain ⟨hn10, hn, g0, g1, g2, hag⟩ := hc.get
  refine hg_iload1 (pc' := 1) cx dX6_best_0 rfl ?_
  refine hg_i2l (pc' := 2) cx dX6_best_1 rfl ?_
  refine hg_iconst (pc' := 3) cx 0 dX6_best_2 (by decide) rfl ?_
  refine hg_sipush (pc' := 6) cx 200 dX6_best_3 (by decide) rfl ?_
  refine cs_X6_44 (pc' := 9) cx (K_X6_in l E _ _ _ _) ⟨rfl, rfl, Nat.le_of_ble_eq_true rfl, Nat.le_of_ble_eq_true rfl⟩ (Nat.le_of_ble_eq_true rfl) dX6_best_6 rfl (fun r_6 τ_6 h_6 => ?_)
  obtain ⟨rfl, rfl⟩ := h_6
  rw [sp_inL_out]
  refine hg_if_ne (pc' := 12) cx 19 dX6_best_9 (by decide) rfl (fun c_9 => ?_) (fun c_9 => ?_)
  ·
    replace c_9 := hg_b1 c_9
    obtain ⟨a, ha1, ha2, rfl⟩ := sp_out_of 0 200 (by decide) (by decide) (by decide) (by decide) c_9
    have hca : (nI a).toNatClampNeg = a := nI_clamp (by omega)
    refine hg_aload0 (pc' := 20) cx dX6_best_19 rfl ?_
    refine cv_X6_120 (pc' := 23) cx (K_X6_thinks l E _ ) ⟨rfl, rfl, Nat.le_of_ble_eq_true rfl, Nat.le_of_ble_eq_true rfl⟩ (Nat.le_of_ble_eq_true rfl) dX6_best_20 rfl (fun τ_20 h_20 => ?_)
    obtain ⟨hT, hT1⟩ := h_20
    have hRt := hc.1.keep hT1
    refine hg_aload0 (pc' := 24) cx dX6_best_23 rfl ?_
    refine hg_iload1 (pc' := 25) cx dX6_best_24 rfl ?_
    refine cv_X6_112 (pc' := 28) cx (K_X6_goesFor l E _ (S.1 0).1 (S.1 0).2 hRt 99999 a (by omega) (by omega) hv.1) ⟨rfl, rfl, Nat.le_of_ble_eq_true rfl, Nat.le_of_ble_eq_true rfl⟩ (Nat.le_of_ble_eq_true rfl) dX6_best_25 rfl (fun τ_25 h_25 => ?_)
    have hn2 : τ_25.1 51 3 = nI (S.1 0).2 := (h_25.1.2.2.1 3 (by decide)).trans h_25.1.2.1
    refine hg_iconst (pc' := 29) cx (-1) dX6_best_28 (by decide) rfl ?_
    refine hg_istore2 (pc' := 30) cx rfl dX6_best_29 rfl ?_
    refine hg_iconst (pc' := 31) cx (nI 0) dX6_best_30 (by decide) rfl ?_
    refine hg_istore3 (pc' := 32) cx rfl dX6_best_31 rfl ?_
    refine hg_loop (α := Int32 × Nat) (I := fun z => z.2 ≤ (S.1 0).2 ∧ ((z.2 = 0 ∧ z.1 = -1) ∨ (0 < z.2 ∧ z.1 = nI (sp_bestI (sp_cred (sp_go (S.1 0).1 (S.1 0).2 a)) z.2)))) (P := fun z => hg_G E p l e { frames := 5, cells := 0, slots := 0, locals := 117 } s m args below meth c 4 (MQ below (hg_Qc E (hg_pi (fun r τ => mw_P σ (op_best S (nI a)) r τ))) args s 0 0 (hg_AW E)) τ_25 32 [some (.ref (hg_ad E 50)), some (.int (nI a)), some (.int z.1), some (.int (nI z.2))] []) (fun z => (S.1 0).2 - z.2) ?_ (-1, 0) ?_
    rotate_left
    · try dsimp only
      exact ⟨by omega, Or.inl ⟨rfl, rfl⟩⟩
    rintro ⟨b, i⟩ hI ih_32
    try dsimp only at hI ih_32 ⊢
    have hin := hI.1
    refine hg_iload3 (pc' := 33) cx dX6_best_32 rfl ?_
    refine hg_aload0 (pc' := 34) cx dX6_best_33 rfl ?_
    refine gf_X6_9 (pc' := 37) cx dX6_best_34 rfl ?_
    refine hg_iconst (pc' := 38) cx (nI 3) dX6_best_37 (by decide) rfl ?_
    refine hg_iald2 (pc' := 39) cx (by decide) (hg_ceI51 E) (by first | assumption | omega | decide) (by decide) dX6_best_38 rfl ?_
    refine hg_icmp_ge (pc' := 42) cx 71 dX6_best_39 (by decide) rfl (fun c_39 => ?_) (fun c_39 => ?_)
    ·
      have hi := hg_ge hn2 (by omega) (by omega) c_39
      refine hg_aload0 (pc' := 72) cx dX6_best_71 rfl ?_
      refine cv_X6_123 (pc' := 75) cx (K_X6_putsBack l E _ ) ⟨rfl, rfl, Nat.le_of_ble_eq_true rfl, Nat.le_of_ble_eq_true rfl⟩ (Nat.le_of_ble_eq_true rfl) dX6_best_72 rfl (fun τ_72 h_72 => ?_)
      obtain ⟨hT9, hT8⟩ := (hT.fr h_25.2).back h_72.1 h_72.2
      obtain ⟨q1, q2⟩ := hc.th hT9 hT8
      refine hg_aload0 (pc' := 76) cx dX6_best_75 rfl ?_
      refine hg_iload2 (pc' := 77) cx dX6_best_76 rfl ?_
      refine cv_X6_132 (pc' := 80) cx (K_X6_orNone l E _ _) ⟨rfl, rfl, Nat.le_of_ble_eq_true rfl, Nat.le_of_ble_eq_true rfl⟩ (Nat.le_of_ble_eq_true rfl) dX6_best_77 rfl (fun r_77 τ_77 h_77 => ?_)
      skip
      refine hg_iret cx dX6_best_80 ⟨_, rfl, ?_⟩
      obtain rfl : i = (S.1 0).2 := by omega
      obtain ⟨o1, o2⟩ := h_77
      rw [o1, o2]
      rcases hI.2 with ⟨z0, z1⟩ | ⟨z0, z1⟩
      · rw [z1, if_pos (show (-1 : Int32) < 0 by decide), if_pos (show (-1 : Int32) < 0 by decide)]
        simp only [op_best, c_9, not_true_eq_false, if_false, z0, if_true]
        exact ⟨(q1.find (f := 3) (by decide) (by decide)).1, (q1.find (f := 3) (w := -1000000004) (by decide) (by decide)).2.1, q2.tr (q1.find (f := 3) (w := -1000000004) (by decide) (by decide)).2.2⟩
      · rw [z1, if_neg (nI_pos (by have := sp_bestI_lt (sp_cred (sp_go (S.1 0).1 (S.1 0).2 a)) _ z0; omega)), if_neg (nI_pos (by have := sp_bestI_lt (sp_cred (sp_go (S.1 0).1 (S.1 0).2 a)) _ z0; omega))]
        simp only [op_best, c_9, hca, not_true_eq_false, if_false, if_neg (Nat.pos_iff_ne_zero.mp z0)]
        exact ⟨rfl, q1, q2⟩
    ·
      have hi := hg_nge hn2 (by omega) (by omega) c_39
      refine hg_iload2 (pc' := 43) cx dX6_best_42 rfl ?_
      refine hg_if_lt (pc' := 46) cx 59 dX6_best_43 (by decide) rfl (fun c_43 => ?_) (fun c_43 => ?_)
      ·
        refine hg_iload3 (pc' := 60) cx dX6_best_59 rfl ?_
        refine hg_goto cx 64 dX6_best_60 (by decide) ?_
        refine hg_istore2 (pc' := 65) cx rfl dX6_best_64 rfl ?_
        refine hg_iinc3p (pc' := 68) cx rfl dX6_best_65 rfl ?_
        refine hg_goto cx 32 dX6_best_68 (by decide) ?_
        rw [nI_1]
        refine ih_32 (_, i + 1) ?_ ?_
        · try dsimp only
          refine ⟨by omega, Or.inr ⟨by omega, ?_⟩⟩
          first
            | (obtain ⟨z0, z1⟩ : i = 0 ∧ b = -1 := hI.2.resolve_right (fun z => absurd c_43 (by rw [z.2]; exact nI_pos (by have := sp_bestI_lt (sp_cred (sp_go (S.1 0).1 (S.1 0).2 a)) i z.1; omega)))
               rw [z0]; rfl)
            | (rw [sp_bestI, if_neg (by omega)]
               have e1 : τ_25.1 51 (4 + 6 * i + 2) - τ_25.1 51 (4 + 6 * i + 3) = sp_cred (sp_go (S.1 0).1 (S.1 0).2 a) i := by rw [h_25.1.2.2.2 _ hi 2 (by decide), h_25.1.2.2.2 _ hi 3 (by decide)]; rfl
               have e2 : τ_25.1 51 (4 + 6 * (sp_bestI (sp_cred (sp_go (S.1 0).1 (S.1 0).2 a)) i) + 2) - τ_25.1 51 (4 + 6 * (sp_bestI (sp_cred (sp_go (S.1 0).1 (S.1 0).2 a)) i) + 3) = sp_cred (sp_go (S.1 0).1 (S.1 0).2 a) (sp_bestI (sp_cred (sp_go (S.1 0).1 (S.1 0).2 a)) i) := by rw [h_25.1.2.2.2 _ (Nat.lt_trans hbl hi) 2 (by decide), h_25.1.2.2.2 _ (Nat.lt_trans hbl hi) 3 (by decide)]; rfl
               rw [e1, e2] at c_56
               first
                 | (rw [if_neg (Int32.not_lt.mpr c_56)] <;> rfl)
                 | (rw [if_pos (Int32.not_le.mp c_56)] <;> rfl))
        · show (S.1 0).2 - (i + 1) < (S.1 0).2 - i
          omega
      ·
        have hz : 0 < i ∧ b = nI (sp_bestI (sp_cred (sp_go (S.1 0).1 (S.1 0).2 a)) i) := hI.2.resolve_left (fun z => c_43 (by rw [z.2]; decide))
        have hbl := sp_bestI_lt (sp_cred (sp_go (S.1 0).1 (S.1 0).2 a)) i hz.1
        obtain ⟨hz0, rfl⟩ := hz
        refine hg_aload0 (pc' := 47) cx dX6_best_46 rfl ?_
        refine hg_iload3 (pc' := 48) cx dX6_best_47 rfl ?_
        refine cv_X6_144 (pc' := 51) cx (K_X6_merit l E _ i (by omega)) ⟨rfl, rfl, Nat.le_of_ble_eq_true rfl, Nat.le_of_ble_eq_true rfl⟩ (Nat.le_of_ble_eq_true rfl) dX6_best_48 rfl (fun r_48 τ_48 h_48 => ?_)
        obtain ⟨rfl, rfl⟩ := h_48
        refine hg_aload0 (pc' := 52) cx dX6_best_51 rfl ?_
        refine hg_iload2 (pc' := 53) cx dX6_best_52 rfl ?_
        refine cv_X6_144 (pc' := 56) cx (K_X6_merit l E _ (sp_bestI (sp_cred (sp_go (S.1 0).1 (S.1 0).2 a)) i) (by omega)) ⟨rfl, rfl, Nat.le_of_ble_eq_true rfl, Nat.le_of_ble_eq_true rfl⟩ (Nat.le_of_ble_eq_true rfl) dX6_best_53 rfl (fun r_53 τ_53 h_53 => ?_)
        obtain ⟨rfl, rfl⟩ := h_53
        refine hg_icmp_le (pc' := 59) cx 63 dX6_best_56 (by decide) rfl (fun c_56 => ?_) (fun c_56 => ?_)
        ·
          refine hg_iload2 (pc' := 64) cx dX6_best_63 rfl ?_
          refine hg_istore2 (pc' := 65) cx rfl dX6_best_64 rfl ?_
          refine hg_iinc3p (pc' := 68) cx rfl dX6_best_65 rfl ?_
          refine hg_goto cx 32 dX6_best_68 (by decide) ?_
          rw [nI_1]
          refine ih_32 (_, i + 1) ?_ ?_
          · try dsimp only
            refine ⟨by omega, Or.inr ⟨by omega, ?_⟩⟩
            first
              | (obtain ⟨z0, z1⟩ : i = 0 ∧ b = -1 := hI.2.resolve_right (fun z => absurd c_43 (by rw [z.2]; exact nI_pos (by have := sp_bestI_lt (sp_cred (sp_go (S.1 0).1 (S.1 0).2 a)) i z.1; omega)))
                 rw [z0]; rfl)
              | (rw [sp_bestI, if_neg (by omega)]
                 have e1 : τ_25.1 51 (4 + 6 * i + 2) - τ_25.1 51 (4 + 6 * i + 3) = sp_cred (sp_go (S.1 0).1 (S.1 0).2 a) i := by rw [h_25.1.2.2.2 _ hi 2 (by decide), h_25.1.2.2.2 _ hi 3 (by decide)]; rfl
                 have e2 : τ_25.1 51 (4 + 6 * (sp_bestI (sp_cred (sp_go (S.1 0).1 (S.1 0).2 a)) i) + 2) - τ_25.1 51 (4 + 6 * (sp_bestI (sp_cred (sp_go (S.1 0).1 (S.1 0).2 a)) i) + 3) = sp_cred (sp_go (S.1 0).1 (S.1 0).2 a) (sp_bestI (sp_cred (sp_go (S.1 0).1 (S.1 0).2 a)) i) := by rw [h_25.1.2.2.2 _ (Nat.lt_trans hbl hi) 2 (by decide), h_25.1.2.2.2 _ (Nat.lt_trans hbl hi) 3 (by decide)]; rfl
                 rw [e1, e2] at c_56
                 first
                   | (rw [if_neg (Int32.not_lt.mpr c_56)] <;> rfl)
                   | (rw [if_pos (Int32.not_le.mp c_56)] <;> rfl))
          · show (S.1 0).2 - (i + 1) < (S.1 0).2 - i
            omega
        ·
          refine hg_iload3 (pc' := 60) cx dX6_best_59 rfl ?_
          refine hg_goto cx 64 dX6_best_60 (by decide) ?_
          refine hg_istore2 (pc' := 65) cx rfl dX6_best_64 rfl ?_
          refine hg_iinc3p (pc' := 68) cx rfl dX6_best_65 rfl ?_
          refine hg_goto cx 32 dX6_best_68 (by decide) ?_
          rw [nI_1]
          refine ih_32 (_, i + 1) ?_ ?_
          · try dsimp only
            refine ⟨by omega, Or.inr ⟨by omega, ?_⟩⟩
            first
              | (obtain ⟨z0, z1⟩ : i = 0 ∧ b = -1 := hI.2.resolve_right (fun z => absurd c_43 (by rw [z.2]; exact nI_pos (by have := sp_bestI_lt (sp_cred (sp_go (S.1 0).1 (S.1 0).2 a)) i z.1; omega)))
                 rw [z0]; rfl)
              | (rw [sp_bestI, if_neg (by omega)]
                 have e1 : τ_25.1 51 (4 + 6 * i + 2) - τ_25.1 51 (4 + 6 * i + 3) = sp_cred (sp_go (S.1 0).1 (S.1 0).2 a) i := by rw [h_25.1.2.2.2 _ hi 2 (by decide), h_25.1.2.2.2 _ hi 3 (by decide)]; rfl
                 have e2 : τ_25.1 51 (4 + 6 * (sp_bestI (sp_cred (sp_go (S.1 0).1 (S.1 0).2 a)) i) + 2) - τ_25.1 51 (4 + 6 * (sp_bestI (sp_cred (sp_go (S.1 0).1 (S.1 0).2 a)) i) + 3) = sp_cred (sp_go (S.1 0).1 (S.1 0).2 a) (sp_bestI (sp_cred (sp_go (S.1 0).1 (S.1 0).2 a)) i) := by rw [h_25.1.2.2.2 _ (Nat.lt_trans hbl hi) 2 (by decide), h_25.1.2.2.2 _ (Nat.lt_trans hbl hi) 3 (by decide)]; rfl
                 rw [e1, e2] at c_56
                 first
                   | (rw [if_neg (Int32.not_lt.mpr c_56)] <;> rfl)
                   | (rw [if_pos (Int32.not_le.mp c_56)] <;> rfl))
          · show (S.1 0).2 - (i + 1) < (S.1 0).2 - i
            omega
  ·
    replace c_9 := hg_b0 c_9
    refine hg_aload0 (pc' := 13) cx dX6_best_12 rfl ?_
    refine hg_ldc (pc' := 15) cx kc_X6_38 dX6_best_13 rfl ?_
    refine cv_X6_40 (pc' := 18) cx (K_X6_finds l E _ (-1000000001) 0 (by decide) (by decide)) ⟨rfl, rfl, Nat.le_of_ble_eq_true rfl, Nat.le_of_ble_eq_true rfl⟩ (Nat.le_of_ble_eq_true rfl) dX6_best_15 rfl (fun r_15 τ_15 h_15 => ?_)
    obtain ⟨rfl, rfl⟩ := h_15
    refine hg_iret cx dX6_best_18 ⟨_, rfl, ?_⟩
    simp only [op_best, sp_hz, c_9, not_true_eq_false, not_false_eq_true, true_or, or_true, false_or, or_false, or_self, if_true, if_false, and_self]
    exact hc.find (by decide) (by decide)
