set_option maxHeartbeats 4000000 in
set_option maxRecDepth 100000 in
theorem K_X1_begin (l : Launch) (E : hg_Wd) (σ : hg_Mem) (i : Nat) (h1 : 20 ≤ i) (h2 : i < 50) (kind : Int32) (view : Int32) : hg_C l E yX1_begin cX1_begin 3 none { frames := 0, cells := 0, slots := 0, locals := 0 } [.ref (hg_ad E i), .int kind, .int view] σ (hg_pv (fun τ => τ = hg_sH σ i (sp_new (σ.1 i) kind view))) := by
  refine hg_intro (by decide) [some (.ref (hg_ad E i)), some (.int kind), some (.int view)] rfl (Nat.le_of_ble_eq_true rfl) ?_
  intro p e s m args below meth c cx
  have cx : hg_Cx E p s m args meth c cX1_begin 3 RX1 none := cx
  refine hg_aload0 (pc' := 1) cx dX1_begin_0 rfl ?_
  refine hg_iload1 (pc' := 2) cx dX1_begin_1 rfl ?_
  refine pf_X1_9 (pc' := 5) cx (by first | assumption | omega | decide) (by first | assumption | omega | decide) dX1_begin_2 rfl ?_
  refine hg_aload0 (pc' := 6) cx dX1_begin_5 rfl ?_
  refine hg_iload2 (pc' := 7) cx dX1_begin_6 rfl ?_
  refine pf_X1_15 (pc' := 10) cx (by first | assumption | omega | decide) (by first | assumption | omega | decide) dX1_begin_7 rfl ?_
  refine hg_aload0 (pc' := 11) cx dX1_begin_10 rfl ?_
  refine hg_iconst (pc' := 12) cx 0 dX1_begin_11 (by decide) rfl ?_
  refine pf_X1_18 (pc' := 15) cx (by first | assumption | omega | decide) (by first | assumption | omega | decide) dX1_begin_12 rfl ?_
  refine hg_aload0 (pc' := 16) cx dX1_begin_15 rfl ?_
  refine hg_iconst (pc' := 17) cx 0 dX1_begin_16 (by decide) rfl ?_
  refine pf_X1_21 (pc' := 20) cx (by first | assumption | omega | decide) (by first | assumption | omega | decide) dX1_begin_17 rfl ?_
  refine hg_aload0 (pc' := 21) cx dX1_begin_20 rfl ?_
  refine hg_bipush (pc' := 23) cx 50 dX1_begin_21 (by decide) rfl ?_
  refine pf_X1_24 (pc' := 26) cx (by first | assumption | omega | decide) (by first | assumption | omega | decide) dX1_begin_23 rfl ?_
  refine hg_aload0 (pc' := 27) cx dX1_begin_26 rfl ?_
  refine hg_iconst (pc' := 28) cx 1 dX1_begin_27 (by decide) rfl ?_
  refine pf_X1_27 (pc' := 31) cx (by first | assumption | omega | decide) (by first | assumption | omega | decide) dX1_begin_28 rfl ?_
  refine hg_vret cx dX1_begin_31 ⟨rfl, ?_⟩
  simp only [hg_sI_eq, hg_sH_at, hg_sH_sH]
  rfl
set_option maxHeartbeats 4000000 in
set_option maxRecDepth 100000 in
theorem K_X1_become (l : Launch) (E : hg_Wd) (σ : hg_Mem) (i : Nat) (h1 : 20 ≤ i) (h2 : i < 50) (j : Nat) (h3 : 20 ≤ j) (h4 : j < 50) (hij : j ≠ i) : hg_C l E yX1_become cX1_become 2 none { frames := 0, cells := 0, slots := 0, locals := 0 } [.ref (hg_ad E i), .ref (hg_ad E j)] σ (hg_pv (fun τ => τ = hg_sH σ i (sp_cpy (σ.1 i) (σ.1 j)))) := by
  refine hg_intro (by decide) [some (.ref (hg_ad E i)), some (.ref (hg_ad E j))] rfl (Nat.le_of_ble_eq_true rfl) ?_
  intro p e s m args below meth c cx
  have cx : hg_Cx E p s m args meth c cX1_become 2 RX1 none := cx
  refine hg_aload0 (pc' := 1) cx dX1_become_0 rfl ?_
  refine hg_aload1 (pc' := 2) cx dX1_become_1 rfl ?_
  refine gf_X1_9 (pc' := 5) cx (by first | assumption | omega | decide) (by first | assumption | omega | decide) dX1_become_2 rfl ?_
  refine pf_X1_9 (pc' := 8) cx (by first | assumption | omega | decide) (by first | assumption | omega | decide) dX1_become_5 rfl ?_
  refine hg_aload0 (pc' := 9) cx dX1_become_8 rfl ?_
  refine hg_aload1 (pc' := 10) cx dX1_become_9 rfl ?_
  refine gf_X1_15 (pc' := 13) cx (by first | assumption | omega | decide) (by first | assumption | omega | decide) dX1_become_10 rfl ?_
  refine pf_X1_15 (pc' := 16) cx (by first | assumption | omega | decide) (by first | assumption | omega | decide) dX1_become_13 rfl ?_
  refine hg_aload0 (pc' := 17) cx dX1_become_16 rfl ?_
  refine hg_aload1 (pc' := 18) cx dX1_become_17 rfl ?_
  refine gf_X1_18 (pc' := 21) cx (by first | assumption | omega | decide) (by first | assumption | omega | decide) dX1_become_18 rfl ?_
  refine pf_X1_18 (pc' := 24) cx (by first | assumption | omega | decide) (by first | assumption | omega | decide) dX1_become_21 rfl ?_
  refine hg_aload0 (pc' := 25) cx dX1_become_24 rfl ?_
  refine hg_aload1 (pc' := 26) cx dX1_become_25 rfl ?_
  refine gf_X1_21 (pc' := 29) cx (by first | assumption | omega | decide) (by first | assumption | omega | decide) dX1_become_26 rfl ?_
  refine pf_X1_21 (pc' := 32) cx (by first | assumption | omega | decide) (by first | assumption | omega | decide) dX1_become_29 rfl ?_
  refine hg_aload0 (pc' := 33) cx dX1_become_32 rfl ?_
  refine hg_aload1 (pc' := 34) cx dX1_become_33 rfl ?_
  refine gf_X1_24 (pc' := 37) cx (by first | assumption | omega | decide) (by first | assumption | omega | decide) dX1_become_34 rfl ?_
  refine pf_X1_24 (pc' := 40) cx (by first | assumption | omega | decide) (by first | assumption | omega | decide) dX1_become_37 rfl ?_
  refine hg_aload0 (pc' := 41) cx dX1_become_40 rfl ?_
  refine hg_aload1 (pc' := 42) cx dX1_become_41 rfl ?_
  refine gf_X1_27 (pc' := 45) cx (by first | assumption | omega | decide) (by first | assumption | omega | decide) dX1_become_42 rfl ?_
  refine pf_X1_27 (pc' := 48) cx (by first | assumption | omega | decide) (by first | assumption | omega | decide) dX1_become_45 rfl ?_
  refine hg_vret cx dX1_become_48 ⟨rfl, ?_⟩
  simp only [hg_sI_eq, hg_sH_at, hg_sH_sH, hg_sH_ne _ _ hij]
  rfl
set_option maxHeartbeats 4000000 in
set_option maxRecDepth 100000 in
theorem K_X1_put (l : Launch) (E : hg_Wd) (σ : hg_Mem) (i : Nat) (h1 : 20 ≤ i) (h2 : i < 50) (w : Int32) (v : Int32) : hg_C l E yX1_put cX1_put 3 none { frames := 0, cells := 0, slots := 0, locals := 0 } [.ref (hg_ad E i), .int w, .int v] σ (hg_pv (fun τ => τ = hg_sH σ i (sp_put (σ.1 i) w v))) := by
  refine hg_intro (by decide) [some (.ref (hg_ad E i)), some (.int w), some (.int v)] rfl (Nat.le_of_ble_eq_true rfl) ?_
  intro p e s m args below meth c cx
  have cx : hg_Cx E p s m args meth c cX1_put 3 RX1 none := cx
  refine hg_iload1 (pc' := 1) cx dX1_put_0 rfl ?_
  refine hg_tsw cx [1, 2, 3, 4] [32, 40, 48, 56] 64 dX1_put_1 (by decide) (by decide) (fun c_1 => ?_) (fun i v t hk ht c_1 => ?_)
  ·
    simp only [List.mem_cons, List.not_mem_nil, or_false, forall_eq_or_imp, forall_eq] at c_1
    refine hg_aload0 (pc' := 65) cx dX1_put_64 rfl ?_
    refine hg_iload2 (pc' := 66) cx dX1_put_65 rfl ?_
    refine pf_X1_27 (pc' := 69) cx (by first | assumption | omega | decide) (by first | assumption | omega | decide) dX1_put_66 rfl ?_
    refine hg_vret cx dX1_put_69 ⟨rfl, ?_⟩
    simp [sp_put, hg_sI_eq, c_1]
  ·
    match i, hk, ht with
    | 0, hk, ht =>
      cases hk; cases ht
      refine hg_aload0 (pc' := 33) cx dX1_put_32 rfl ?_
      refine hg_iload2 (pc' := 34) cx dX1_put_33 rfl ?_
      refine pf_X1_15 (pc' := 37) cx (by first | assumption | omega | decide) (by first | assumption | omega | decide) dX1_put_34 rfl ?_
      refine hg_goto cx 69 dX1_put_37 (by decide) ?_
      refine hg_vret cx dX1_put_69 ⟨rfl, ?_⟩
      simp [sp_put, hg_sI_eq, c_1]
    | 1, hk, ht =>
      cases hk; cases ht
      refine hg_aload0 (pc' := 41) cx dX1_put_40 rfl ?_
      refine hg_iload2 (pc' := 42) cx dX1_put_41 rfl ?_
      refine pf_X1_18 (pc' := 45) cx (by first | assumption | omega | decide) (by first | assumption | omega | decide) dX1_put_42 rfl ?_
      refine hg_goto cx 69 dX1_put_45 (by decide) ?_
      refine hg_vret cx dX1_put_69 ⟨rfl, ?_⟩
      simp [sp_put, hg_sI_eq, c_1]
    | 2, hk, ht =>
      cases hk; cases ht
      refine hg_aload0 (pc' := 49) cx dX1_put_48 rfl ?_
      refine hg_iload2 (pc' := 50) cx dX1_put_49 rfl ?_
      refine pf_X1_21 (pc' := 53) cx (by first | assumption | omega | decide) (by first | assumption | omega | decide) dX1_put_50 rfl ?_
      refine hg_goto cx 69 dX1_put_53 (by decide) ?_
      refine hg_vret cx dX1_put_69 ⟨rfl, ?_⟩
      simp [sp_put, hg_sI_eq, c_1]
    | 3, hk, ht =>
      cases hk; cases ht
      refine hg_aload0 (pc' := 57) cx dX1_put_56 rfl ?_
      refine hg_iload2 (pc' := 58) cx dX1_put_57 rfl ?_
      refine pf_X1_24 (pc' := 61) cx (by first | assumption | omega | decide) (by first | assumption | omega | decide) dX1_put_58 rfl ?_
      refine hg_goto cx 69 dX1_put_61 (by decide) ?_
      refine hg_vret cx dX1_put_69 ⟨rfl, ?_⟩
      simp [sp_put, hg_sI_eq, c_1]
    | j + 4, hk, ht => exact absurd hk (by simp)
set_option maxHeartbeats 4000000 in
set_option maxRecDepth 100000 in
theorem K_X1_beRight (l : Launch) (E : hg_Wd) (σ : hg_Mem) (i : Nat) (h1 : 20 ≤ i) (h2 : i < 50) : hg_C l E yX1_beRight cX1_beRight 1 none { frames := 1, cells := 0, slots := 0, locals := 21 } [.ref (hg_ad E i)] σ (hg_pv (fun τ => τ = hg_sH σ i (sp_right (σ.1 i)))) := by
  refine hg_intro (by decide) [some (.ref (hg_ad E i))] rfl (Nat.le_of_ble_eq_true rfl) ?_
  intro p e s m args below meth c cx
  have cx : hg_Cx E p s m args meth c cX1_beRight 1 RX1 none := cx
  refine hg_aload0 (pc' := 1) cx dX1_beRight_0 rfl ?_
  refine hg_aload0 (pc' := 2) cx dX1_beRight_1 rfl ?_
  refine gf_X1_18 (pc' := 5) cx (by first | assumption | omega | decide) (by first | assumption | omega | decide) dX1_beRight_2 rfl ?_
  refine hg_iconst (pc' := 6) cx 1 dX1_beRight_5 (by decide) rfl ?_
  refine hg_iadd (pc' := 7) cx dX1_beRight_6 rfl ?_
  refine hg_sipush (pc' := 10) cx 9999 dX1_beRight_7 (by decide) rfl ?_
  refine hg_mmin (pc' := 13) cx lm_X1_41 hg_wmin (Nat.le_of_ble_eq_true rfl) (Nat.le_of_ble_eq_true rfl) dX1_beRight_10 rfl ?_
  refine pf_X1_18 (pc' := 16) cx (by first | assumption | omega | decide) (by first | assumption | omega | decide) dX1_beRight_13 rfl ?_
  refine hg_aload0 (pc' := 17) cx dX1_beRight_16 rfl ?_
  refine hg_aload0 (pc' := 18) cx dX1_beRight_17 rfl ?_
  refine gf_X1_24 (pc' := 21) cx (by first | assumption | omega | decide) (by first | assumption | omega | decide) dX1_beRight_18 rfl ?_
  refine hg_aload0 (pc' := 22) cx dX1_beRight_21 rfl ?_
  refine cv_X1_46 (pc' := 25) cx (by first | assumption | omega | decide) (by first | assumption | omega | decide) (K_X1_stir l E _ _ (by first | assumption | omega | decide) (by first | assumption | omega | decide)) ⟨rfl, rfl, Nat.le_of_ble_eq_true rfl, Nat.le_of_ble_eq_true rfl⟩ (Nat.le_of_ble_eq_true rfl) dX1_beRight_22 rfl (fun r_22 τ_22 h_22 => ?_)
  obtain ⟨rfl, rfl⟩ := h_22
  refine hg_iadd (pc' := 26) cx dX1_beRight_25 rfl ?_
  refine hg_bipush (pc' := 28) cx 99 dX1_beRight_26 (by decide) rfl ?_
  refine hg_mmin (pc' := 31) cx lm_X1_41 hg_wmin (Nat.le_of_ble_eq_true rfl) (Nat.le_of_ble_eq_true rfl) dX1_beRight_28 rfl ?_
  refine pf_X1_24 (pc' := 34) cx (by first | assumption | omega | decide) (by first | assumption | omega | decide) dX1_beRight_31 rfl ?_
  refine hg_vret cx dX1_beRight_34 ⟨rfl, ?_⟩
  simp only [hg_sI_eq, hg_sH_at, hg_sH_sH, sp_right, sp_min]
  simp (decide := true) only [va_upN, sp_stirs_up, ne_eq, not_false_eq_true]
set_option maxHeartbeats 4000000 in
set_option maxRecDepth 100000 in
theorem K_X1_beWrong (l : Launch) (E : hg_Wd) (σ : hg_Mem) (i : Nat) (h1 : 20 ≤ i) (h2 : i < 50) (ses : Int32) (q : Int32) (truth : Int32) : hg_C l E yX1_beWrong cX1_beWrong 5 none { frames := 1, cells := 0, slots := 0, locals := 21 } [.ref (hg_ad E i), .int ses, .int q, .int truth] σ (hg_pv (fun τ => τ = hg_sH σ i (sp_wrong (σ.1 i) ses q truth))) := by
  refine hg_intro (by decide) [some (.ref (hg_ad E i)), some (.int ses), some (.int q), some (.int truth), none] rfl (Nat.le_of_ble_eq_true rfl) ?_
  intro p e s m args below meth c cx
  have cx : hg_Cx E p s m args meth c cX1_beWrong 5 RX1 none := cx
  refine hg_aload0 (pc' := 1) cx dX1_beWrong_0 rfl ?_
  refine hg_iload1 (pc' := 2) cx dX1_beWrong_1 rfl ?_
  refine cv_X1_50 (pc' := 5) cx (by first | assumption | omega | decide) (by first | assumption | omega | decide) (K_X1_isLearning l E _ _ (by first | assumption | omega | decide) (by first | assumption | omega | decide) _) ⟨rfl, rfl, Nat.le_of_ble_eq_true rfl, Nat.le_of_ble_eq_true rfl⟩ (Nat.le_of_ble_eq_true rfl) dX1_beWrong_2 rfl (fun r_2 τ_2 h_2 => ?_)
  obtain ⟨rfl, rfl⟩ := h_2
  refine hg_if_eq (pc' := 8) cx 31 dX1_beWrong_5 (by decide) rfl (fun c_5 => ?_) (fun c_5 => ?_)
  ·
    refine hg_aload0 (pc' := 32) cx dX1_beWrong_31 rfl ?_
    refine hg_aload0 (pc' := 33) cx dX1_beWrong_32 rfl ?_
    refine gf_X1_21 (pc' := 36) cx (by first | assumption | omega | decide) (by first | assumption | omega | decide) dX1_beWrong_33 rfl ?_
    refine hg_iconst (pc' := 37) cx 1 dX1_beWrong_36 (by decide) rfl ?_
    refine hg_iadd (pc' := 38) cx dX1_beWrong_37 rfl ?_
    refine hg_sipush (pc' := 41) cx 9999 dX1_beWrong_38 (by decide) rfl ?_
    refine hg_mmin (pc' := 44) cx lm_X1_41 hg_wmin (Nat.le_of_ble_eq_true rfl) (Nat.le_of_ble_eq_true rfl) dX1_beWrong_41 rfl ?_
    refine pf_X1_21 (pc' := 47) cx (by first | assumption | omega | decide) (by first | assumption | omega | decide) dX1_beWrong_44 rfl ?_
    refine hg_aload0 (pc' := 48) cx dX1_beWrong_47 rfl ?_
    refine hg_aload0 (pc' := 49) cx dX1_beWrong_48 rfl ?_
    refine gf_X1_24 (pc' := 52) cx (by first | assumption | omega | decide) (by first | assumption | omega | decide) dX1_beWrong_49 rfl ?_
    refine hg_aload0 (pc' := 53) cx dX1_beWrong_52 rfl ?_
    refine cv_X1_46 (pc' := 56) cx (by first | assumption | omega | decide) (by first | assumption | omega | decide) (K_X1_stir l E _ _ (by first | assumption | omega | decide) (by first | assumption | omega | decide)) ⟨rfl, rfl, Nat.le_of_ble_eq_true rfl, Nat.le_of_ble_eq_true rfl⟩ (Nat.le_of_ble_eq_true rfl) dX1_beWrong_53 rfl (fun r_53 τ_53 h_53 => ?_)
    obtain ⟨rfl, rfl⟩ := h_53
    refine hg_isub (pc' := 57) cx dX1_beWrong_56 rfl ?_
    refine hg_iconst (pc' := 58) cx 0 dX1_beWrong_57 (by decide) rfl ?_
    refine hg_mmax (pc' := 61) cx lm_X1_54 hg_wmax (Nat.le_of_ble_eq_true rfl) (Nat.le_of_ble_eq_true rfl) dX1_beWrong_58 rfl ?_
    refine pf_X1_24 (pc' := 64) cx (by first | assumption | omega | decide) (by first | assumption | omega | decide) dX1_beWrong_61 rfl ?_
    refine hg_vret cx dX1_beWrong_64 ⟨rfl, ?_⟩
    simp only [hg_sI_eq, hg_sH_at, hg_sH_sH, sp_wrong, sp_min, sp_max, c_5, if_true, if_false]
    simp (decide := true) only [va_upN, sp_stirs_up, ne_eq, not_false_eq_true]
  ·
    refine hg_iconst (pc' := 9) cx 1 dX1_beWrong_8 (by decide) rfl ?_
    refine hg_iload2 (pc' := 10) cx dX1_beWrong_9 rfl ?_
    refine hg_ishl (pc' := 11) cx dX1_beWrong_10 rfl ?_
    refine hg_istore4 (pc' := 13) cx rfl dX1_beWrong_11 rfl ?_
    refine hg_aload0 (pc' := 14) cx dX1_beWrong_13 rfl ?_
    refine hg_aload0 (pc' := 15) cx dX1_beWrong_14 rfl ?_
    refine gf_X1_15 (pc' := 18) cx (by first | assumption | omega | decide) (by first | assumption | omega | decide) dX1_beWrong_15 rfl ?_
    refine hg_iload4 (pc' := 20) cx dX1_beWrong_18 rfl ?_
    refine hg_iconst (pc' := 21) cx (-1) dX1_beWrong_20 (by decide) rfl ?_
    refine hg_ixor (pc' := 22) cx dX1_beWrong_21 rfl ?_
    refine hg_iand (pc' := 23) cx dX1_beWrong_22 rfl ?_
    refine hg_iload3 (pc' := 24) cx dX1_beWrong_23 rfl ?_
    refine hg_iload4 (pc' := 26) cx dX1_beWrong_24 rfl ?_
    refine hg_iand (pc' := 27) cx dX1_beWrong_26 rfl ?_
    refine hg_ior (pc' := 28) cx dX1_beWrong_27 rfl ?_
    refine pf_X1_15 (pc' := 31) cx (by first | assumption | omega | decide) (by first | assumption | omega | decide) dX1_beWrong_28 rfl ?_
    refine hg_aload0 (pc' := 32) cx dX1_beWrong_31 rfl ?_
    refine hg_aload0 (pc' := 33) cx dX1_beWrong_32 rfl ?_
    refine gf_X1_21 (pc' := 36) cx (by first | assumption | omega | decide) (by first | assumption | omega | decide) dX1_beWrong_33 rfl ?_
    refine hg_iconst (pc' := 37) cx 1 dX1_beWrong_36 (by decide) rfl ?_
    refine hg_iadd (pc' := 38) cx dX1_beWrong_37 rfl ?_
    refine hg_sipush (pc' := 41) cx 9999 dX1_beWrong_38 (by decide) rfl ?_
    refine hg_mmin (pc' := 44) cx lm_X1_41 hg_wmin (Nat.le_of_ble_eq_true rfl) (Nat.le_of_ble_eq_true rfl) dX1_beWrong_41 rfl ?_
    refine pf_X1_21 (pc' := 47) cx (by first | assumption | omega | decide) (by first | assumption | omega | decide) dX1_beWrong_44 rfl ?_
    refine hg_aload0 (pc' := 48) cx dX1_beWrong_47 rfl ?_
    refine hg_aload0 (pc' := 49) cx dX1_beWrong_48 rfl ?_
    refine gf_X1_24 (pc' := 52) cx (by first | assumption | omega | decide) (by first | assumption | omega | decide) dX1_beWrong_49 rfl ?_
    refine hg_aload0 (pc' := 53) cx dX1_beWrong_52 rfl ?_
    refine cv_X1_46 (pc' := 56) cx (by first | assumption | omega | decide) (by first | assumption | omega | decide) (K_X1_stir l E _ _ (by first | assumption | omega | decide) (by first | assumption | omega | decide)) ⟨rfl, rfl, Nat.le_of_ble_eq_true rfl, Nat.le_of_ble_eq_true rfl⟩ (Nat.le_of_ble_eq_true rfl) dX1_beWrong_53 rfl (fun r_53 τ_53 h_53 => ?_)
    obtain ⟨rfl, rfl⟩ := h_53
    refine hg_isub (pc' := 57) cx dX1_beWrong_56 rfl ?_
    refine hg_iconst (pc' := 58) cx 0 dX1_beWrong_57 (by decide) rfl ?_
    refine hg_mmax (pc' := 61) cx lm_X1_54 hg_wmax (Nat.le_of_ble_eq_true rfl) (Nat.le_of_ble_eq_true rfl) dX1_beWrong_58 rfl ?_
    refine pf_X1_24 (pc' := 64) cx (by first | assumption | omega | decide) (by first | assumption | omega | decide) dX1_beWrong_61 rfl ?_
    refine hg_vret cx dX1_beWrong_64 ⟨rfl, ?_⟩
    simp only [hg_sI_eq, hg_sH_at, hg_sH_sH, sp_wrong, sp_min, sp_max, c_5, if_true, if_false]
    simp (decide := true) only [va_upN, sp_stirs_up, ne_eq, not_false_eq_true]
