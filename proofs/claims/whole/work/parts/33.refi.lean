def sp_nt (o b : Int32) : Int32 := if ¬ o = 0 then -1000000001 else if b = 0 then -1000000006 else 0
def sp_ntf (o : Int32) : Nat := if ¬ o = 0 then 0 else 5
theorem sp_nt0 {o b : Int32} (h : sp_nt o b = 0) : o = 0 ∧ ¬ b = 0 := by
  unfold sp_nt at h
  by_cases c : o = 0
  · rw [if_neg (show ¬ ¬ o = 0 from fun z => z c)] at h
    by_cases d : b = 0
    · rw [if_pos d] at h; exact absurd h (by decide)
    · exact ⟨c, d⟩
  · rw [if_pos c] at h; exact absurd h (by decide)
theorem sp_ntf_lt (o : Int32) : sp_ntf o < 7 := by unfold sp_ntf; split <;> decide
theorem sp_ntf_ok {o b : Int32} (h : ¬ sp_nt o b = 0) : (-1000000001 : Int32) - sp_nt o b = nI (sp_ntf o) := by
  unfold sp_nt sp_ntf at *
  by_cases c : o = 0
  · rw [if_neg (show ¬ ¬ o = 0 from fun z => z c)] at h
    rw [if_neg (show ¬ ¬ o = 0 from fun z => z c), if_neg (show ¬ ¬ o = 0 from fun z => z c)]
    by_cases d : b = 0
    · rw [if_pos d]; decide
    · rw [if_neg d] at h; exact absurd rfl h
  · rw [if_pos c, if_pos c]; decide
theorem sp_nt_cases {o b : Int32} (h : ¬ sp_nt o b = 0) : (¬ o = 0 ∧ sp_nt o b = -1000000001 ∧ sp_ntf o = 0) ∨ (o = 0 ∧ b = 0 ∧ sp_nt o b = -1000000006 ∧ sp_ntf o = 5) := by
  unfold sp_nt sp_ntf at *
  by_cases c : o = 0
  · rw [if_neg (show ¬ ¬ o = 0 from fun z => z c)] at h
    by_cases d : b = 0
    · exact Or.inr ⟨c, d, by rw [if_neg (show ¬ ¬ o = 0 from fun z => z c), if_pos d], by rw [if_neg (show ¬ ¬ o = 0 from fun z => z c)]⟩
    · rw [if_neg d] at h; exact absurd rfl h
  · exact Or.inl ⟨c, by rw [if_pos c], by rw [if_pos c]⟩
theorem cw_M.cells {σ τ : hg_Mem} {S : sp_S} (h : cw_M σ S) {s : Nat} (hs : s < 4) (g : Nat → Int64) (h1 : ∀ i, i ≠ 51 → i ≠ 53 → i ≠ 55 → τ.1 i = σ.1 i) (hR : ∀ k, k < 64 → τ.1 51 k = σ.1 51 k) (h2 : ∀ j, j ≠ 59 → τ.2 j = σ.2 j) (h3 : ∀ k, k < 40 → τ.2 59 (40 * s + k) = g k) (h4 : ∀ t, t < 4 → t ≠ s → ∀ k, k < 40 → τ.2 59 (40 * t + k) = σ.2 59 (40 * t + k)) : cw_M τ (sp_sL S s g) ∧ mw_Fr σ τ := by
  obtain ⟨a, b, c, d, e, f, i⟩ := h
  refine ⟨⟨a.keep hR, fun hk => (b hk).keep (fun k _ => by rw [h1 52 (by decide) (by decide) (by decide)]), by rw [h1 50 (by decide) (by decide) (by decide)]; exact c, by rw [h1 50 (by decide) (by decide) (by decide)]; exact d, fun k hk => by rw [h1 54 (by decide) (by decide) (by decide)]; exact e k hk, fun k hk => by rw [h1 56 (by decide) (by decide) (by decide)]; exact f k hk, fun t ht => ⟨by rw [h1 57 (by decide) (by decide) (by decide)]; exact (i t ht).1, by rw [h1 58 (by decide) (by decide) (by decide)]; exact (i t ht).2.1, fun k hk => ?_⟩⟩, fun j hj => ⟨h1 j (by omega) (by omega) (by omega), h2 j (by omega)⟩⟩
  show τ.2 59 (40 * t + k) = va_up S.2.2 s g t k
  by_cases q : t = s
  · rw [q, va_upE]; exact h3 k hk
  · rw [va_upN _ _ q, h4 t ht q k hk]; exact (i t ht).2.2 k hk
theorem cw_M.sheet {σ τ : hg_Mem} {S : sp_S} (h : cw_M σ S) {s : Nat} (hs : s < 4) (b n : Int32) (h1 : ∀ i, i ≠ 57 → i ≠ 58 → τ.1 i = σ.1 i) (h57 : τ.1 57 = va_up (σ.1 57) s b) (h58 : τ.1 58 = va_up (σ.1 58) s n) (h2 : ∀ j, j ≠ 59 → τ.2 j = σ.2 j) (h3 : ∀ k, k < 40 → τ.2 59 (40 * s + k) = 0) (h4 : ∀ t, t < 4 → t ≠ s → ∀ k, k < 40 → τ.2 59 (40 * t + k) = σ.2 59 (40 * t + k)) : cw_M τ (sp_sL (sp_sR (sp_sR S 3 (va_up (S.2.1 3) s b)) 4 (va_up (S.2.1 4) s n)) s (fun _ => 0)) ∧ mw_Fr σ τ := by
  obtain ⟨a, b', c, d, e, f, i⟩ := h
  refine ⟨⟨a.keep (fun k _ => by rw [h1 51 (by decide) (by decide)]), fun hk => (b' hk).keep (fun k _ => by rw [h1 52 (by decide) (by decide)]), by rw [h1 50 (by decide) (by decide)]; exact c, by rw [h1 50 (by decide) (by decide)]; exact d, fun k hk => by rw [h1 54 (by decide) (by decide)]; exact e k hk, fun k hk => by rw [h1 56 (by decide) (by decide)]; exact f k hk, fun t ht => ⟨?_, ?_, fun k hk => ?_⟩⟩, fun j hj => ⟨h1 j (by omega) (by omega), h2 j (by omega)⟩⟩
  · show _ = va_up (va_up S.2.1 3 (va_up (S.2.1 3) s b)) 4 (va_up (S.2.1 4) s n) 3 t
    rw [va_upN _ _ (by decide), va_upE, h57]
    by_cases q : t = s
    · rw [q, va_upE, va_upE]
    · rw [va_upN _ _ q, va_upN _ _ q]; exact (i t ht).1
  · show _ = va_up (va_up S.2.1 3 (va_up (S.2.1 3) s b)) 4 (va_up (S.2.1 4) s n) 4 t
    rw [va_upE, h58]
    by_cases q : t = s
    · rw [q, va_upE, va_upE]
    · rw [va_upN _ _ q, va_upN _ _ q]; exact (i t ht).2.1
  · show τ.2 59 (40 * t + k) = va_up S.2.2 s (fun _ => 0) t k
    by_cases q : t = s
    · rw [q, va_upE]; exact h3 k hk
    · rw [va_upN _ _ q, h4 t ht q k hk]; exact (i t ht).2.2 k hk
def mw_PL (σ : hg_Mem) (w : Int64 × sp_S) (r : Int64) (τ : hg_Mem) : Prop := r = w.1 ∧ cw_M τ w.2 ∧ mw_Fr σ τ
theorem cw_M.findL {σ : hg_Mem} {S : sp_S} (h : cw_M σ S) {f : Nat} (hf : f < 7) {w : Int32} (hw : w = -1000000001 - nI f) : mw_PL σ (sp_badL S f) w.toInt64 (hg_sI σ 54 f (σ.1 54 f + 1)) := by
  obtain ⟨a, b⟩ := h.find hf hw
  exact ⟨by rw [a]; rfl, b⟩
theorem sp_inL_255 (v : Int64) : sp_inL v 0 255 = if 0 ≤ v ∧ v ≤ 255 then 1 else 0 := rfl
set_option maxHeartbeats 4000000 in
set_option maxRecDepth 100000 in
theorem K_X6_isSheet (l : Launch) (E : hg_Wd) (σ : hg_Mem) (sh : Int32) : hg_C l E yX6_isSheet cX6_isSheet 1 (some .boolean) { frames := 1, cells := 0, slots := 0, locals := 23 } [.int sh] σ (hg_pi (fun r τ => r = (if sp_out sh 0 3 = 0 then 1 else 0) ∧ σ = τ)) := by
  refine hg_intro (by decide) [some (.int sh)] rfl (Nat.le_of_ble_eq_true rfl) ?_
  intro p e s m args below meth c cx
  have cx : hg_Cx E p s m args meth c cX6_isSheet 1 RX6 (some .boolean) := cx
  refine hg_iload0 (pc' := 1) cx dX6_isSheet_0 rfl ?_
  refine hg_i2l (pc' := 2) cx dX6_isSheet_1 rfl ?_
  refine hg_iconst (pc' := 3) cx 0 dX6_isSheet_2 (by decide) rfl ?_
  refine hg_iconst (pc' := 4) cx 3 dX6_isSheet_3 (by decide) rfl ?_
  refine cs_X6_44 (pc' := 7) cx (K_X6_in l E _ _ _ _) ⟨rfl, rfl, Nat.le_of_ble_eq_true rfl, Nat.le_of_ble_eq_true rfl⟩ (Nat.le_of_ble_eq_true rfl) dX6_isSheet_4 rfl (fun r_4 τ_4 h_4 => ?_)
  obtain ⟨rfl, rfl⟩ := h_4
  rw [sp_inL_out]
  refine hg_zret cx (hg_z01 _) dX6_isSheet_7 ⟨_, rfl, ?_⟩
  exact ⟨rfl, rfl⟩
set_option maxHeartbeats 4000000 in
set_option maxRecDepth 100000 in
theorem K_X6_notThere (l : Launch) (E : hg_Wd) (σ : hg_Mem) (sh : Int32) : hg_C l E yX6_notThere cX6_notThere 2 (some .int) { frames := 2, cells := 0, slots := 0, locals := 43 } [.ref (hg_ad E 50), .int sh] σ (hg_pi (fun r τ => r = sp_nt (sp_out sh 0 3) (σ.1 57 sh.toNatClampNeg) ∧ σ = τ)) := by
  refine hg_intro (by decide) [some (.ref (hg_ad E 50)), some (.int sh)] rfl (Nat.le_of_ble_eq_true rfl) ?_
  intro p e s m args below meth c cx
  have cx : hg_Cx E p s m args meth c cX6_notThere 2 RX6 (some .int) := cx
  refine hg_iload1 (pc' := 1) cx dX6_notThere_0 rfl ?_
  refine cs_X6_202 (pc' := 4) cx (K_X6_isSheet l E _ _) ⟨rfl, rfl, Nat.le_of_ble_eq_true rfl, Nat.le_of_ble_eq_true rfl⟩ (Nat.le_of_ble_eq_true rfl) dX6_notThere_1 rfl (fun r_1 τ_1 h_1 => ?_)
  obtain ⟨rfl, rfl⟩ := h_1
  refine hg_if_ne (pc' := 7) cx 12 dX6_notThere_4 (by decide) rfl (fun c_4 => ?_) (fun c_4 => ?_)
  ·
    have d_4 := hg_b1 c_4
    obtain ⟨a, -, ha3, rfl⟩ := sp_out_of 0 3 (by decide) (by decide) (by decide) (by decide) d_4
    have hca : (nI a).toNatClampNeg = a := nI_clamp (by omega)
    refine hg_aload0 (pc' := 13) cx dX6_notThere_12 rfl ?_
    refine gf_X6_28 (pc' := 16) cx dX6_notThere_13 rfl ?_
    refine hg_iload1 (pc' := 17) cx dX6_notThere_16 rfl ?_
    refine hg_iald2 (pc' := 18) cx (by decide) (hg_ceI57 E) (by first | assumption | omega | decide) (by decide) dX6_notThere_17 rfl ?_
    refine hg_if_ne (pc' := 21) cx 26 dX6_notThere_18 (by decide) rfl (fun c_18 => ?_) (fun c_18 => ?_)
    ·
      refine hg_iconst (pc' := 27) cx 0 dX6_notThere_26 (by decide) rfl ?_
      refine hg_iret cx dX6_notThere_27 ⟨_, rfl, ?_⟩
      exact ⟨by unfold sp_nt; rw [if_neg (show ¬ ¬ _ = _ from fun z => z (hg_b1 c_4)), hca, if_neg c_18], rfl⟩
    ·
      refine hg_ldc (pc' := 23) cx kc_X6_206 dX6_notThere_21 rfl ?_
      refine hg_goto cx 27 dX6_notThere_23 (by decide) ?_
      refine hg_iret cx dX6_notThere_27 ⟨_, rfl, ?_⟩
      exact ⟨by unfold sp_nt; rw [if_neg (show ¬ ¬ _ = _ from fun z => z (hg_b1 c_4)), hca, if_pos c_18], rfl⟩
  ·
    refine hg_ldc (pc' := 9) cx kc_X6_38 dX6_notThere_7 rfl ?_
    refine hg_goto cx 27 dX6_notThere_9 (by decide) ?_
    refine hg_iret cx dX6_notThere_27 ⟨_, rfl, ?_⟩
    exact ⟨by unfold sp_nt; rw [if_pos (hg_b0 c_4)], rfl⟩
set_option maxHeartbeats 4000000 in
set_option maxRecDepth 100000 in
theorem K_X6_cutTo (l : Launch) (E : hg_Wd) (σ : hg_Mem) (b : Int32) (v : Int64) : hg_C l E yX6_cutTo cX6_cutTo 3 (some .long) { frames := 0, cells := 0, slots := 0, locals := 0 } [.int b, .long v] σ (hg_pl (fun r τ => r = sp_cut b v ∧ σ = τ)) := by
  refine hg_intro (by decide) [some (.int b), some (.long v), none] rfl (Nat.le_of_ble_eq_true rfl) ?_
  intro p e s m args below meth c cx
  have cx : hg_Cx E p s m args meth c cX6_cutTo 3 RX6 (some .long) := cx
  refine hg_iload0 (pc' := 1) cx dX6_cutTo_0 rfl ?_
  refine hg_bipush (pc' := 3) cx 8 dX6_cutTo_1 (by decide) rfl ?_
  refine hg_icmp_ne (pc' := 6) cx 13 dX6_cutTo_3 (by decide) rfl (fun c_3 => ?_) (fun c_3 => ?_)
  ·
    refine hg_iload0 (pc' := 14) cx dX6_cutTo_13 rfl ?_
    refine hg_bipush (pc' := 16) cx 16 dX6_cutTo_14 (by decide) rfl ?_
    refine hg_icmp_ne (pc' := 19) cx 26 dX6_cutTo_16 (by decide) rfl (fun c_16 => ?_) (fun c_16 => ?_)
    ·
      refine hg_lload1 (pc' := 27) cx dX6_cutTo_26 rfl ?_
      refine hg_lret cx dX6_cutTo_27 ⟨_, rfl, ?_⟩
      exact ⟨by simp (decide := true) only [sp_cut, c_3, c_16, if_true, if_false], rfl⟩
    ·
      refine hg_lload1 (pc' := 20) cx dX6_cutTo_19 rfl ?_
      refine hg_l2i (pc' := 21) cx dX6_cutTo_20 rfl ?_
      refine hg_i2s (pc' := 22) cx dX6_cutTo_21 rfl ?_
      refine hg_i2l (pc' := 23) cx dX6_cutTo_22 rfl ?_
      refine hg_goto cx 27 dX6_cutTo_23 (by decide) ?_
      refine hg_lret cx dX6_cutTo_27 ⟨_, rfl, ?_⟩
      exact ⟨by simp (decide := true) only [sp_cut, c_3, c_16, if_true, if_false], rfl⟩
  ·
    refine hg_lload1 (pc' := 7) cx dX6_cutTo_6 rfl ?_
    refine hg_l2i (pc' := 8) cx dX6_cutTo_7 rfl ?_
    refine hg_i2b (pc' := 9) cx dX6_cutTo_8 rfl ?_
    refine hg_i2l (pc' := 10) cx dX6_cutTo_9 rfl ?_
    refine hg_goto cx 27 dX6_cutTo_10 (by decide) ?_
    refine hg_lret cx dX6_cutTo_27 ⟨_, rfl, ?_⟩
    exact ⟨by simp (decide := true) only [sp_cut, c_3, if_true, if_false], rfl⟩
set_option maxHeartbeats 4000000 in
set_option maxRecDepth 100000 in
theorem K_X6_notAsked (l : Launch) (E : hg_Wd) (σ : hg_Mem) (n : Nat) (hn10 : n ≤ 10) (hn : σ.1 51 3 = nI n) (sh : Int32) (x : Int32) : hg_C l E yX6_notAsked cX6_notAsked 4 (some .int) { frames := 3, cells := 0, slots := 0, locals := 64 } [.ref (hg_ad E 50), .int sh, .int x] σ (hg_pi (fun r τ => r = (if ¬ sp_nt (sp_out sh 0 3) (σ.1 57 sh.toNatClampNeg) = 0 then sp_nt (sp_out sh 0 3) (σ.1 57 sh.toNatClampNeg) else if (if 0 ≤ x ∧ x < nI n then (1 : Int32) else 0) = 0 then -1000000001 else 0) ∧ σ = τ)) := by
  refine hg_intro (by decide) [some (.ref (hg_ad E 50)), some (.int sh), some (.int x), none] rfl (Nat.le_of_ble_eq_true rfl) ?_
  intro p e s m args below meth c cx
  have cx : hg_Cx E p s m args meth c cX6_notAsked 4 RX6 (some .int) := cx
  refine hg_aload0 (pc' := 1) cx dX6_notAsked_0 rfl ?_
  refine hg_iload1 (pc' := 2) cx dX6_notAsked_1 rfl ?_
  refine cv_X6_207 (pc' := 5) cx (K_X6_notThere l E _ _) ⟨rfl, rfl, Nat.le_of_ble_eq_true rfl, Nat.le_of_ble_eq_true rfl⟩ (Nat.le_of_ble_eq_true rfl) dX6_notAsked_2 rfl (fun r_2 τ_2 h_2 => ?_)
  obtain ⟨rfl, rfl⟩ := h_2
  refine hg_istore3 (pc' := 6) cx rfl dX6_notAsked_5 rfl ?_
  refine hg_iload3 (pc' := 7) cx dX6_notAsked_6 rfl ?_
  refine hg_if_ne (pc' := 10) cx 23 dX6_notAsked_7 (by decide) rfl (fun c_7 => ?_) (fun c_7 => ?_)
  ·
    refine hg_iload3 (pc' := 24) cx dX6_notAsked_23 rfl ?_
    refine hg_iret cx dX6_notAsked_24 ⟨_, rfl, ?_⟩
    exact ⟨by rw [if_pos c_7], rfl⟩
  ·
    refine hg_aload0 (pc' := 11) cx dX6_notAsked_10 rfl ?_
    refine hg_iload2 (pc' := 12) cx dX6_notAsked_11 rfl ?_
    refine cv_X6_83 (pc' := 15) cx (K_X6_isHat l E _ n hn10 hn _) ⟨rfl, rfl, Nat.le_of_ble_eq_true rfl, Nat.le_of_ble_eq_true rfl⟩ (Nat.le_of_ble_eq_true rfl) dX6_notAsked_12 rfl (fun r_12 τ_12 h_12 => ?_)
    obtain ⟨rfl, rfl⟩ := h_12
    refine hg_if_ne (pc' := 18) cx 23 dX6_notAsked_15 (by decide) rfl (fun c_15 => ?_) (fun c_15 => ?_)
    ·
      refine hg_iload3 (pc' := 24) cx dX6_notAsked_23 rfl ?_
      refine hg_iret cx dX6_notAsked_24 ⟨_, rfl, ?_⟩
      exact ⟨by rw [if_neg (show ¬ ¬ _ = _ from fun z => z c_7), if_neg c_15]; exact c_7, rfl⟩
    ·
      refine hg_ldc (pc' := 20) cx kc_X6_38 dX6_notAsked_18 rfl ?_
      refine hg_goto cx 24 dX6_notAsked_20 (by decide) ?_
      refine hg_iret cx dX6_notAsked_24 ⟨_, rfl, ?_⟩
      exact ⟨by rw [if_neg (show ¬ ¬ _ = _ from fun z => z c_7), if_pos c_15], rfl⟩
set_option maxHeartbeats 4000000 in
set_option maxRecDepth 100000 in
theorem K_X6_sheet (l : Launch) (E : hg_Wd) (σ : hg_Mem) (S : sp_S) (hc : cw_M σ S) (hv : vs_S S) (sh : Int32) (b : Int32) (n : Int32) : hg_C l E yX6_sheet cX6_sheet 5 (some .int) { frames := 2, cells := 0, slots := 0, locals := 43 } [.ref (hg_ad E 50), .int sh, .int b, .int n] σ (hg_pi (fun r τ => mw_P σ (op_sheet S sh b n) r τ)) := by
  refine hg_intro (by decide) [some (.ref (hg_ad E 50)), some (.int sh), some (.int b), some (.int n), none] rfl (Nat.le_of_ble_eq_true rfl) ?_
  intro p e s m args below meth c cx
  have cx : hg_Cx E p s m args meth c cX6_sheet 5 RX6 (some .int) := cx
  obtain ⟨hn10, hn, g0, g1, g2, hag⟩ := hc.get
  refine hg_iload1 (pc' := 1) cx dX6_sheet_0 rfl ?_
  refine cs_X6_202 (pc' := 4) cx (K_X6_isSheet l E _ _) ⟨rfl, rfl, Nat.le_of_ble_eq_true rfl, Nat.le_of_ble_eq_true rfl⟩ (Nat.le_of_ble_eq_true rfl) dX6_sheet_1 rfl (fun r_1 τ_1 h_1 => ?_)
  obtain ⟨rfl, rfl⟩ := h_1
  refine hg_if_eq (pc' := 7) cx 29 dX6_sheet_4 (by decide) rfl (fun c_4 => ?_) (fun c_4 => ?_)
  ·
    refine hg_aload0 (pc' := 30) cx dX6_sheet_29 rfl ?_
    refine hg_ldc (pc' := 32) cx kc_X6_38 dX6_sheet_30 rfl ?_
    refine cv_X6_40 (pc' := 35) cx (K_X6_finds l E _ (-1000000001) 0 (by decide) (by decide)) ⟨rfl, rfl, Nat.le_of_ble_eq_true rfl, Nat.le_of_ble_eq_true rfl⟩ (Nat.le_of_ble_eq_true rfl) dX6_sheet_32 rfl (fun r_32 τ_32 h_32 => ?_)
    obtain ⟨rfl, rfl⟩ := h_32
    refine hg_iret cx dX6_sheet_35 ⟨_, rfl, ?_⟩
    simp only [op_sheet, hg_b0 c_4, not_false_eq_true, true_or, if_true]
    exact hc.find (by decide) (by decide)
  ·
    refine hg_iload2 (pc' := 8) cx dX6_sheet_7 rfl ?_
    refine hg_if_eq (pc' := 11) cx 36 dX6_sheet_8 (by decide) rfl (fun c_8 => ?_) (fun c_8 => ?_)
    ·
      have d_4 := hg_b1 c_4
      obtain ⟨a, -, ha3, rfl⟩ := sp_out_of 0 3 (by decide) (by decide) (by decide) (by decide) d_4
      have hca : (nI a).toNatClampNeg = a := nI_clamp (by omega)
      have hm : sp_may b = 1 := by unfold sp_may; rw [if_pos]; first | exact Or.inl c_8 | exact Or.inr (Or.inl c_14) | exact Or.inr (Or.inr (Or.inl c_20)) | exact Or.inr (Or.inr (Or.inr c_26))
      have hm0 : ¬ sp_may b = 0 := by rw [hm]; decide
      refine hg_iload3 (pc' := 37) cx dX6_sheet_36 rfl ?_
      refine hg_if_ge (pc' := 40) cx 47 dX6_sheet_37 (by decide) rfl (fun c_37 => ?_) (fun c_37 => ?_)
      ·
        refine hg_iload3 (pc' := 48) cx dX6_sheet_47 rfl ?_
        refine hg_bipush (pc' := 50) cx 40 dX6_sheet_48 (by decide) rfl ?_
        refine hg_icmp_le (pc' := 53) cx 60 dX6_sheet_50 (by decide) rfl (fun c_50 => ?_) (fun c_50 => ?_)
        ·
          refine hg_aload0 (pc' := 61) cx dX6_sheet_60 rfl ?_
          refine gf_X6_28 (pc' := 64) cx dX6_sheet_61 rfl ?_
          refine hg_iload1 (pc' := 65) cx dX6_sheet_64 rfl ?_
          refine hg_iload2 (pc' := 66) cx dX6_sheet_65 rfl ?_
          refine hg_iast2 (pc' := 67) cx (by decide) (hg_ceI57 E) (by first | assumption | omega | decide) (by decide) dX6_sheet_66 rfl ?_
          refine hg_aload0 (pc' := 68) cx dX6_sheet_67 rfl ?_
          refine gf_X6_31 (pc' := 71) cx dX6_sheet_68 rfl ?_
          refine hg_iload1 (pc' := 72) cx dX6_sheet_71 rfl ?_
          refine hg_iload2 (pc' := 73) cx dX6_sheet_72 rfl ?_
          refine hg_if_ne (pc' := 76) cx 80 dX6_sheet_73 (by decide) rfl (fun c_73 => ?_) (fun c_73 => ?_)
          ·
            refine hg_iload3 (pc' := 81) cx dX6_sheet_80 rfl ?_
            refine hg_iast2 (pc' := 82) cx (by decide) (hg_ceI58 E) (by first | assumption | omega | decide) (by decide) dX6_sheet_81 rfl ?_
            refine hg_nm (fun ω hω => ?_)
            have hω2 : ω.2 = σ.2 := by rw [hω]; rfl
            have hωo : ∀ x, x ≠ 57 → x ≠ 58 → ω.1 x = σ.1 x := fun x h1 h2 => by rw [hω, hg_sI_eq, hg_sH_ne _ _ h2, hg_sI_eq, hg_sH_ne _ _ h1]
            have hω7 : ω.1 57 = va_up (σ.1 57) a b := by rw [hω, hg_sI_eq, hg_sH_ne _ _ (by decide), hg_sI_eq, hg_sH_at]
            have hω8 : ω.1 58 = va_up (σ.1 58) a (if b = 0 then 0 else n) := by
              rw [hω, hg_sI_eq, hg_sH_at, hg_sI_eq, hg_sH_ne _ _ (show (58 : Nat) ≠ 57 by decide)]
              first
                | rw [if_neg c_73]
                | rw [if_pos c_73]
            clear hω
            refine hg_iconst (pc' := 83) cx (nI 0) dX6_sheet_82 (by decide) rfl ?_
            refine hg_istore4 (pc' := 85) cx rfl dX6_sheet_83 rfl ?_
            refine hg_nm (fun μ hμ => ?_)
            refine hg_loop (α := hg_Mem × Nat) (I := fun z => z.2 ≤ 40 ∧ z.1.1 = ω.1 ∧ (∀ x, x ≠ 59 → z.1.2 x = σ.2 x) ∧ (∀ k, k < z.2 → z.1.2 59 (40 * a + k) = 0) ∧ ∀ y, (y < 40 * a ∨ 40 * a + z.2 ≤ y) → z.1.2 59 y = σ.2 59 y) (P := fun z => hg_G E p l e { frames := 2, cells := 0, slots := 0, locals := 43 } s m args below meth c 5 (MQ below (hg_Qc E (hg_pi (fun r τ => mw_P σ (op_sheet S (nI a) b n) r τ))) args s 0 0 (hg_AW E)) z.1 85 [some (.ref (hg_ad E 50)), some (.int (nI a)), some (.int b), some (.int n), some (.int (nI z.2))] []) (fun z => 40 - z.2) ?_ (μ, 0) ?_
            rotate_left
            · subst hμ
              try dsimp only
              exact ⟨Nat.zero_le _, rfl, fun x _ => by rw [hω2], fun k hk => absurd hk (Nat.not_lt_zero k), fun y _ => by rw [hω2]⟩
            clear hμ μ
            rintro ⟨τ, i⟩ hI ih_85
            try dsimp only at hI ih_85 ⊢
            have hi40 := hI.1
            refine hg_iload4 (pc' := 87) cx dX6_sheet_85 rfl ?_
            refine hg_bipush (pc' := 89) cx (nI 40) dX6_sheet_87 (by decide) rfl ?_
            refine hg_icmp_ge (pc' := 92) cx 111 dX6_sheet_89 (by decide) rfl (fun c_89 => ?_) (fun c_89 => ?_)
            ·
              have hi := hg_ge (n := 40) (j := i) rfl (by omega) (by omega) c_89
              refine hg_aload0 (pc' := 112) cx dX6_sheet_111 rfl ?_
              refine gf_X6_31 (pc' := 115) cx dX6_sheet_112 rfl ?_
              refine hg_iload1 (pc' := 116) cx dX6_sheet_115 rfl ?_
              refine hg_iald2 (pc' := 117) cx (by decide) (hg_ceI58 E) (by first | assumption | omega | decide) (by decide) dX6_sheet_116 rfl ?_
              refine hg_iret cx dX6_sheet_117 ⟨_, rfl, ?_⟩
              simp only [op_sheet, d_4, hm0, if_neg (Int32.not_lt.mpr c_37), if_neg (Int32.not_lt.mpr c_50), not_true_eq_false, or_self, if_false, hca]
              refine ⟨?_, hc.sheet (by omega) b _ (fun x h1 h2 => by rw [hI.2.1]; exact hωo x h1 h2) (by rw [hI.2.1]; exact hω7) (by rw [hI.2.1]; exact hω8) hI.2.2.1 (fun k hk => hI.2.2.2.1 k (by omega)) (fun t ht hta k hk => hI.2.2.2.2 _ (by omega))⟩
              rw [hI.2.1, hω8, va_upE]
            ·
              have hi := hg_nge (n := 40) (j := i) rfl (by omega) (by omega) c_89
              refine hg_aload0 (pc' := 93) cx dX6_sheet_92 rfl ?_
              refine gf_X6_34 (pc' := 96) cx dX6_sheet_93 rfl ?_
              refine hg_bipush (pc' := 98) cx (nI 40) dX6_sheet_96 (by decide) rfl ?_
              refine hg_iload1 (pc' := 99) cx dX6_sheet_98 rfl ?_
              refine hg_imul (pc' := 100) cx dX6_sheet_99 rfl ?_
              refine hg_iload4 (pc' := 102) cx dX6_sheet_100 rfl ?_
              refine hg_iadd (pc' := 103) cx dX6_sheet_102 rfl ?_
              rw [pk_mul, nI_add]
              refine hg_lconst (pc' := 104) cx 0 dX6_sheet_103 (by decide) rfl ?_
              refine hg_last2 (pc' := 105) cx (by decide) (hg_ceL59 E) (by first | assumption | omega | decide) (by decide) dX6_sheet_104 rfl ?_
              refine hg_iinc4p (pc' := 108) cx rfl dX6_sheet_105 rfl ?_
              refine hg_goto cx 85 dX6_sheet_108 (by decide) ?_
              rw [nI_1]
              refine hg_nm (fun μ hμ => ?_)
              refine ih_85 (μ, i + 1) ?_ ?_
              · subst hμ
                try dsimp only
                rw [hg_sL_eq]
                refine ⟨by omega, hI.2.1, fun x hx => (hg_sM_ne _ _ hx).trans (hI.2.2.1 x hx), fun k hk => ?_, fun y hy => ?_⟩
                · rw [hg_sM_at]
                  by_cases q : k = i
                  · rw [q, va_upE]
                  · rw [va_upN _ _ (by omega)]; exact hI.2.2.2.1 k (by omega)
                · rw [hg_sM_at, va_upN _ _ (by omega)]; exact hI.2.2.2.2 y (by omega)
              · show 40 - (i + 1) < 40 - i
                omega
          ·
            refine hg_iconst (pc' := 77) cx 0 dX6_sheet_76 (by decide) rfl ?_
            refine hg_goto cx 81 dX6_sheet_77 (by decide) ?_
            refine hg_iast2 (pc' := 82) cx (by decide) (hg_ceI58 E) (by first | assumption | omega | decide) (by decide) dX6_sheet_81 rfl ?_
            refine hg_nm (fun ω hω => ?_)
            have hω2 : ω.2 = σ.2 := by rw [hω]; rfl
            have hωo : ∀ x, x ≠ 57 → x ≠ 58 → ω.1 x = σ.1 x := fun x h1 h2 => by rw [hω, hg_sI_eq, hg_sH_ne _ _ h2, hg_sI_eq, hg_sH_ne _ _ h1]
            have hω7 : ω.1 57 = va_up (σ.1 57) a b := by rw [hω, hg_sI_eq, hg_sH_ne _ _ (by decide), hg_sI_eq, hg_sH_at]
            have hω8 : ω.1 58 = va_up (σ.1 58) a (if b = 0 then 0 else n) := by
              rw [hω, hg_sI_eq, hg_sH_at, hg_sI_eq, hg_sH_ne _ _ (show (58 : Nat) ≠ 57 by decide)]
              first
                | rw [if_neg c_73]
                | rw [if_pos c_73]
            clear hω
            refine hg_iconst (pc' := 83) cx (nI 0) dX6_sheet_82 (by decide) rfl ?_
            refine hg_istore4 (pc' := 85) cx rfl dX6_sheet_83 rfl ?_
            refine hg_nm (fun μ hμ => ?_)
            refine hg_loop (α := hg_Mem × Nat) (I := fun z => z.2 ≤ 40 ∧ z.1.1 = ω.1 ∧ (∀ x, x ≠ 59 → z.1.2 x = σ.2 x) ∧ (∀ k, k < z.2 → z.1.2 59 (40 * a + k) = 0) ∧ ∀ y, (y < 40 * a ∨ 40 * a + z.2 ≤ y) → z.1.2 59 y = σ.2 59 y) (P := fun z => hg_G E p l e { frames := 2, cells := 0, slots := 0, locals := 43 } s m args below meth c 5 (MQ below (hg_Qc E (hg_pi (fun r τ => mw_P σ (op_sheet S (nI a) b n) r τ))) args s 0 0 (hg_AW E)) z.1 85 [some (.ref (hg_ad E 50)), some (.int (nI a)), some (.int b), some (.int n), some (.int (nI z.2))] []) (fun z => 40 - z.2) ?_ (μ, 0) ?_
            rotate_left
            · subst hμ
              try dsimp only
              exact ⟨Nat.zero_le _, rfl, fun x _ => by rw [hω2], fun k hk => absurd hk (Nat.not_lt_zero k), fun y _ => by rw [hω2]⟩
            clear hμ μ
            rintro ⟨τ, i⟩ hI ih_85
            try dsimp only at hI ih_85 ⊢
            have hi40 := hI.1
            refine hg_iload4 (pc' := 87) cx dX6_sheet_85 rfl ?_
            refine hg_bipush (pc' := 89) cx (nI 40) dX6_sheet_87 (by decide) rfl ?_
            refine hg_icmp_ge (pc' := 92) cx 111 dX6_sheet_89 (by decide) rfl (fun c_89 => ?_) (fun c_89 => ?_)
            ·
              have hi := hg_ge (n := 40) (j := i) rfl (by omega) (by omega) c_89
              refine hg_aload0 (pc' := 112) cx dX6_sheet_111 rfl ?_
              refine gf_X6_31 (pc' := 115) cx dX6_sheet_112 rfl ?_
              refine hg_iload1 (pc' := 116) cx dX6_sheet_115 rfl ?_
              refine hg_iald2 (pc' := 117) cx (by decide) (hg_ceI58 E) (by first | assumption | omega | decide) (by decide) dX6_sheet_116 rfl ?_
              refine hg_iret cx dX6_sheet_117 ⟨_, rfl, ?_⟩
              simp only [op_sheet, d_4, hm0, if_neg (Int32.not_lt.mpr c_37), if_neg (Int32.not_lt.mpr c_50), not_true_eq_false, or_self, if_false, hca]
              refine ⟨?_, hc.sheet (by omega) b _ (fun x h1 h2 => by rw [hI.2.1]; exact hωo x h1 h2) (by rw [hI.2.1]; exact hω7) (by rw [hI.2.1]; exact hω8) hI.2.2.1 (fun k hk => hI.2.2.2.1 k (by omega)) (fun t ht hta k hk => hI.2.2.2.2 _ (by omega))⟩
              rw [hI.2.1, hω8, va_upE]
            ·
              have hi := hg_nge (n := 40) (j := i) rfl (by omega) (by omega) c_89
              refine hg_aload0 (pc' := 93) cx dX6_sheet_92 rfl ?_
              refine gf_X6_34 (pc' := 96) cx dX6_sheet_93 rfl ?_
              refine hg_bipush (pc' := 98) cx (nI 40) dX6_sheet_96 (by decide) rfl ?_
              refine hg_iload1 (pc' := 99) cx dX6_sheet_98 rfl ?_
              refine hg_imul (pc' := 100) cx dX6_sheet_99 rfl ?_
              refine hg_iload4 (pc' := 102) cx dX6_sheet_100 rfl ?_
              refine hg_iadd (pc' := 103) cx dX6_sheet_102 rfl ?_
              rw [pk_mul, nI_add]
              refine hg_lconst (pc' := 104) cx 0 dX6_sheet_103 (by decide) rfl ?_
              refine hg_last2 (pc' := 105) cx (by decide) (hg_ceL59 E) (by first | assumption | omega | decide) (by decide) dX6_sheet_104 rfl ?_
              refine hg_iinc4p (pc' := 108) cx rfl dX6_sheet_105 rfl ?_
              refine hg_goto cx 85 dX6_sheet_108 (by decide) ?_
              rw [nI_1]
              refine hg_nm (fun μ hμ => ?_)
              refine ih_85 (μ, i + 1) ?_ ?_
              · subst hμ
                try dsimp only
                rw [hg_sL_eq]
                refine ⟨by omega, hI.2.1, fun x hx => (hg_sM_ne _ _ hx).trans (hI.2.2.1 x hx), fun k hk => ?_, fun y hy => ?_⟩
                · rw [hg_sM_at]
                  by_cases q : k = i
                  · rw [q, va_upE]
                  · rw [va_upN _ _ (by omega)]; exact hI.2.2.2.1 k (by omega)
                · rw [hg_sM_at, va_upN _ _ (by omega)]; exact hI.2.2.2.2 y (by omega)
              · show 40 - (i + 1) < 40 - i
                omega
        ·
          refine hg_aload0 (pc' := 54) cx dX6_sheet_53 rfl ?_
          refine hg_ldc (pc' := 56) cx kc_X6_38 dX6_sheet_54 rfl ?_
          refine cv_X6_40 (pc' := 59) cx (K_X6_finds l E _ (-1000000001) 0 (by decide) (by decide)) ⟨rfl, rfl, Nat.le_of_ble_eq_true rfl, Nat.le_of_ble_eq_true rfl⟩ (Nat.le_of_ble_eq_true rfl) dX6_sheet_56 rfl (fun r_56 τ_56 h_56 => ?_)
          obtain ⟨rfl, rfl⟩ := h_56
          refine hg_iret cx dX6_sheet_59 ⟨_, rfl, ?_⟩
          simp only [op_sheet, d_4, hm0, if_neg (Int32.not_lt.mpr c_37), if_pos (Int32.not_le.mp c_50), not_true_eq_false, or_self, if_false]
          exact hc.find (by decide) (by decide)
      ·
        refine hg_aload0 (pc' := 41) cx dX6_sheet_40 rfl ?_
        refine hg_ldc (pc' := 43) cx kc_X6_205 dX6_sheet_41 rfl ?_
        refine cv_X6_40 (pc' := 46) cx (K_X6_finds l E _ (-1000000007) 6 (by decide) (by decide)) ⟨rfl, rfl, Nat.le_of_ble_eq_true rfl, Nat.le_of_ble_eq_true rfl⟩ (Nat.le_of_ble_eq_true rfl) dX6_sheet_43 rfl (fun r_43 τ_43 h_43 => ?_)
        obtain ⟨rfl, rfl⟩ := h_43
        refine hg_iret cx dX6_sheet_46 ⟨_, rfl, ?_⟩
        simp only [op_sheet, d_4, hm0, if_pos (Int32.not_le.mp c_37), not_true_eq_false, or_self, if_false]
        exact hc.find (by decide) (by decide)
    ·
      refine hg_iload2 (pc' := 12) cx dX6_sheet_11 rfl ?_
      refine hg_bipush (pc' := 14) cx 8 dX6_sheet_12 (by decide) rfl ?_
      refine hg_icmp_eq (pc' := 17) cx 36 dX6_sheet_14 (by decide) rfl (fun c_14 => ?_) (fun c_14 => ?_)
      ·
        have d_4 := hg_b1 c_4
        obtain ⟨a, -, ha3, rfl⟩ := sp_out_of 0 3 (by decide) (by decide) (by decide) (by decide) d_4
        have hca : (nI a).toNatClampNeg = a := nI_clamp (by omega)
        have hm : sp_may b = 1 := by unfold sp_may; rw [if_pos]; first | exact Or.inl c_8 | exact Or.inr (Or.inl c_14) | exact Or.inr (Or.inr (Or.inl c_20)) | exact Or.inr (Or.inr (Or.inr c_26))
        have hm0 : ¬ sp_may b = 0 := by rw [hm]; decide
        refine hg_iload3 (pc' := 37) cx dX6_sheet_36 rfl ?_
        refine hg_if_ge (pc' := 40) cx 47 dX6_sheet_37 (by decide) rfl (fun c_37 => ?_) (fun c_37 => ?_)
        ·
          refine hg_iload3 (pc' := 48) cx dX6_sheet_47 rfl ?_
          refine hg_bipush (pc' := 50) cx 40 dX6_sheet_48 (by decide) rfl ?_
          refine hg_icmp_le (pc' := 53) cx 60 dX6_sheet_50 (by decide) rfl (fun c_50 => ?_) (fun c_50 => ?_)
          ·
            refine hg_aload0 (pc' := 61) cx dX6_sheet_60 rfl ?_
            refine gf_X6_28 (pc' := 64) cx dX6_sheet_61 rfl ?_
            refine hg_iload1 (pc' := 65) cx dX6_sheet_64 rfl ?_
            refine hg_iload2 (pc' := 66) cx dX6_sheet_65 rfl ?_
            refine hg_iast2 (pc' := 67) cx (by decide) (hg_ceI57 E) (by first | assumption | omega | decide) (by decide) dX6_sheet_66 rfl ?_
            refine hg_aload0 (pc' := 68) cx dX6_sheet_67 rfl ?_
            refine gf_X6_31 (pc' := 71) cx dX6_sheet_68 rfl ?_
            refine hg_iload1 (pc' := 72) cx dX6_sheet_71 rfl ?_
            refine hg_iload2 (pc' := 73) cx dX6_sheet_72 rfl ?_
            refine hg_if_ne (pc' := 76) cx 80 dX6_sheet_73 (by decide) rfl (fun c_73 => ?_) (fun c_73 => ?_)
            ·
              refine hg_iload3 (pc' := 81) cx dX6_sheet_80 rfl ?_
              refine hg_iast2 (pc' := 82) cx (by decide) (hg_ceI58 E) (by first | assumption | omega | decide) (by decide) dX6_sheet_81 rfl ?_
              refine hg_nm (fun ω hω => ?_)
              have hω2 : ω.2 = σ.2 := by rw [hω]; rfl
              have hωo : ∀ x, x ≠ 57 → x ≠ 58 → ω.1 x = σ.1 x := fun x h1 h2 => by rw [hω, hg_sI_eq, hg_sH_ne _ _ h2, hg_sI_eq, hg_sH_ne _ _ h1]
              have hω7 : ω.1 57 = va_up (σ.1 57) a b := by rw [hω, hg_sI_eq, hg_sH_ne _ _ (by decide), hg_sI_eq, hg_sH_at]
              have hω8 : ω.1 58 = va_up (σ.1 58) a (if b = 0 then 0 else n) := by
                rw [hω, hg_sI_eq, hg_sH_at, hg_sI_eq, hg_sH_ne _ _ (show (58 : Nat) ≠ 57 by decide)]
                first
                  | rw [if_neg c_73]
                  | rw [if_pos c_73]
              clear hω
              refine hg_iconst (pc' := 83) cx (nI 0) dX6_sheet_82 (by decide) rfl ?_
              refine hg_istore4 (pc' := 85) cx rfl dX6_sheet_83 rfl ?_
              refine hg_nm (fun μ hμ => ?_)
              refine hg_loop (α := hg_Mem × Nat) (I := fun z => z.2 ≤ 40 ∧ z.1.1 = ω.1 ∧ (∀ x, x ≠ 59 → z.1.2 x = σ.2 x) ∧ (∀ k, k < z.2 → z.1.2 59 (40 * a + k) = 0) ∧ ∀ y, (y < 40 * a ∨ 40 * a + z.2 ≤ y) → z.1.2 59 y = σ.2 59 y) (P := fun z => hg_G E p l e { frames := 2, cells := 0, slots := 0, locals := 43 } s m args below meth c 5 (MQ below (hg_Qc E (hg_pi (fun r τ => mw_P σ (op_sheet S (nI a) b n) r τ))) args s 0 0 (hg_AW E)) z.1 85 [some (.ref (hg_ad E 50)), some (.int (nI a)), some (.int b), some (.int n), some (.int (nI z.2))] []) (fun z => 40 - z.2) ?_ (μ, 0) ?_
              rotate_left
              · subst hμ
                try dsimp only
                exact ⟨Nat.zero_le _, rfl, fun x _ => by rw [hω2], fun k hk => absurd hk (Nat.not_lt_zero k), fun y _ => by rw [hω2]⟩
              clear hμ μ
              rintro ⟨τ, i⟩ hI ih_85
              try dsimp only at hI ih_85 ⊢
              have hi40 := hI.1
              refine hg_iload4 (pc' := 87) cx dX6_sheet_85 rfl ?_
              refine hg_bipush (pc' := 89) cx (nI 40) dX6_sheet_87 (by decide) rfl ?_
              refine hg_icmp_ge (pc' := 92) cx 111 dX6_sheet_89 (by decide) rfl (fun c_89 => ?_) (fun c_89 => ?_)
              ·
                have hi := hg_ge (n := 40) (j := i) rfl (by omega) (by omega) c_89
                refine hg_aload0 (pc' := 112) cx dX6_sheet_111 rfl ?_
                refine gf_X6_31 (pc' := 115) cx dX6_sheet_112 rfl ?_
                refine hg_iload1 (pc' := 116) cx dX6_sheet_115 rfl ?_
                refine hg_iald2 (pc' := 117) cx (by decide) (hg_ceI58 E) (by first | assumption | omega | decide) (by decide) dX6_sheet_116 rfl ?_
                refine hg_iret cx dX6_sheet_117 ⟨_, rfl, ?_⟩
                simp only [op_sheet, d_4, hm0, if_neg (Int32.not_lt.mpr c_37), if_neg (Int32.not_lt.mpr c_50), not_true_eq_false, or_self, if_false, hca]
                refine ⟨?_, hc.sheet (by omega) b _ (fun x h1 h2 => by rw [hI.2.1]; exact hωo x h1 h2) (by rw [hI.2.1]; exact hω7) (by rw [hI.2.1]; exact hω8) hI.2.2.1 (fun k hk => hI.2.2.2.1 k (by omega)) (fun t ht hta k hk => hI.2.2.2.2 _ (by omega))⟩
                rw [hI.2.1, hω8, va_upE]
              ·
                have hi := hg_nge (n := 40) (j := i) rfl (by omega) (by omega) c_89
                refine hg_aload0 (pc' := 93) cx dX6_sheet_92 rfl ?_
                refine gf_X6_34 (pc' := 96) cx dX6_sheet_93 rfl ?_
                refine hg_bipush (pc' := 98) cx (nI 40) dX6_sheet_96 (by decide) rfl ?_
                refine hg_iload1 (pc' := 99) cx dX6_sheet_98 rfl ?_
                refine hg_imul (pc' := 100) cx dX6_sheet_99 rfl ?_
                refine hg_iload4 (pc' := 102) cx dX6_sheet_100 rfl ?_
                refine hg_iadd (pc' := 103) cx dX6_sheet_102 rfl ?_
                rw [pk_mul, nI_add]
                refine hg_lconst (pc' := 104) cx 0 dX6_sheet_103 (by decide) rfl ?_
                refine hg_last2 (pc' := 105) cx (by decide) (hg_ceL59 E) (by first | assumption | omega | decide) (by decide) dX6_sheet_104 rfl ?_
                refine hg_iinc4p (pc' := 108) cx rfl dX6_sheet_105 rfl ?_
                refine hg_goto cx 85 dX6_sheet_108 (by decide) ?_
                rw [nI_1]
                refine hg_nm (fun μ hμ => ?_)
                refine ih_85 (μ, i + 1) ?_ ?_
                · subst hμ
                  try dsimp only
                  rw [hg_sL_eq]
                  refine ⟨by omega, hI.2.1, fun x hx => (hg_sM_ne _ _ hx).trans (hI.2.2.1 x hx), fun k hk => ?_, fun y hy => ?_⟩
                  · rw [hg_sM_at]
                    by_cases q : k = i
                    · rw [q, va_upE]
                    · rw [va_upN _ _ (by omega)]; exact hI.2.2.2.1 k (by omega)
                  · rw [hg_sM_at, va_upN _ _ (by omega)]; exact hI.2.2.2.2 y (by omega)
                · show 40 - (i + 1) < 40 - i
                  omega
            ·
              refine hg_iconst (pc' := 77) cx 0 dX6_sheet_76 (by decide) rfl ?_
              refine hg_goto cx 81 dX6_sheet_77 (by decide) ?_
              refine hg_iast2 (pc' := 82) cx (by decide) (hg_ceI58 E) (by first | assumption | omega | decide) (by decide) dX6_sheet_81 rfl ?_
              refine hg_nm (fun ω hω => ?_)
              have hω2 : ω.2 = σ.2 := by rw [hω]; rfl
              have hωo : ∀ x, x ≠ 57 → x ≠ 58 → ω.1 x = σ.1 x := fun x h1 h2 => by rw [hω, hg_sI_eq, hg_sH_ne _ _ h2, hg_sI_eq, hg_sH_ne _ _ h1]
              have hω7 : ω.1 57 = va_up (σ.1 57) a b := by rw [hω, hg_sI_eq, hg_sH_ne _ _ (by decide), hg_sI_eq, hg_sH_at]
              have hω8 : ω.1 58 = va_up (σ.1 58) a (if b = 0 then 0 else n) := by
                rw [hω, hg_sI_eq, hg_sH_at, hg_sI_eq, hg_sH_ne _ _ (show (58 : Nat) ≠ 57 by decide)]
                first
                  | rw [if_neg c_73]
                  | rw [if_pos c_73]
              clear hω
              refine hg_iconst (pc' := 83) cx (nI 0) dX6_sheet_82 (by decide) rfl ?_
              refine hg_istore4 (pc' := 85) cx rfl dX6_sheet_83 rfl ?_
              refine hg_nm (fun μ hμ => ?_)
              refine hg_loop (α := hg_Mem × Nat) (I := fun z => z.2 ≤ 40 ∧ z.1.1 = ω.1 ∧ (∀ x, x ≠ 59 → z.1.2 x = σ.2 x) ∧ (∀ k, k < z.2 → z.1.2 59 (40 * a + k) = 0) ∧ ∀ y, (y < 40 * a ∨ 40 * a + z.2 ≤ y) → z.1.2 59 y = σ.2 59 y) (P := fun z => hg_G E p l e { frames := 2, cells := 0, slots := 0, locals := 43 } s m args below meth c 5 (MQ below (hg_Qc E (hg_pi (fun r τ => mw_P σ (op_sheet S (nI a) b n) r τ))) args s 0 0 (hg_AW E)) z.1 85 [some (.ref (hg_ad E 50)), some (.int (nI a)), some (.int b), some (.int n), some (.int (nI z.2))] []) (fun z => 40 - z.2) ?_ (μ, 0) ?_
              rotate_left
              · subst hμ
                try dsimp only
                exact ⟨Nat.zero_le _, rfl, fun x _ => by rw [hω2], fun k hk => absurd hk (Nat.not_lt_zero k), fun y _ => by rw [hω2]⟩
              clear hμ μ
              rintro ⟨τ, i⟩ hI ih_85
              try dsimp only at hI ih_85 ⊢
              have hi40 := hI.1
              refine hg_iload4 (pc' := 87) cx dX6_sheet_85 rfl ?_
              refine hg_bipush (pc' := 89) cx (nI 40) dX6_sheet_87 (by decide) rfl ?_
              refine hg_icmp_ge (pc' := 92) cx 111 dX6_sheet_89 (by decide) rfl (fun c_89 => ?_) (fun c_89 => ?_)
              ·
                have hi := hg_ge (n := 40) (j := i) rfl (by omega) (by omega) c_89
                refine hg_aload0 (pc' := 112) cx dX6_sheet_111 rfl ?_
                refine gf_X6_31 (pc' := 115) cx dX6_sheet_112 rfl ?_
                refine hg_iload1 (pc' := 116) cx dX6_sheet_115 rfl ?_
                refine hg_iald2 (pc' := 117) cx (by decide) (hg_ceI58 E) (by first | assumption | omega | decide) (by decide) dX6_sheet_116 rfl ?_
                refine hg_iret cx dX6_sheet_117 ⟨_, rfl, ?_⟩
                simp only [op_sheet, d_4, hm0, if_neg (Int32.not_lt.mpr c_37), if_neg (Int32.not_lt.mpr c_50), not_true_eq_false, or_self, if_false, hca]
                refine ⟨?_, hc.sheet (by omega) b _ (fun x h1 h2 => by rw [hI.2.1]; exact hωo x h1 h2) (by rw [hI.2.1]; exact hω7) (by rw [hI.2.1]; exact hω8) hI.2.2.1 (fun k hk => hI.2.2.2.1 k (by omega)) (fun t ht hta k hk => hI.2.2.2.2 _ (by omega))⟩
                rw [hI.2.1, hω8, va_upE]
              ·
                have hi := hg_nge (n := 40) (j := i) rfl (by omega) (by omega) c_89
                refine hg_aload0 (pc' := 93) cx dX6_sheet_92 rfl ?_
                refine gf_X6_34 (pc' := 96) cx dX6_sheet_93 rfl ?_
                refine hg_bipush (pc' := 98) cx (nI 40) dX6_sheet_96 (by decide) rfl ?_
                refine hg_iload1 (pc' := 99) cx dX6_sheet_98 rfl ?_
                refine hg_imul (pc' := 100) cx dX6_sheet_99 rfl ?_
                refine hg_iload4 (pc' := 102) cx dX6_sheet_100 rfl ?_
                refine hg_iadd (pc' := 103) cx dX6_sheet_102 rfl ?_
                rw [pk_mul, nI_add]
                refine hg_lconst (pc' := 104) cx 0 dX6_sheet_103 (by decide) rfl ?_
                refine hg_last2 (pc' := 105) cx (by decide) (hg_ceL59 E) (by first | assumption | omega | decide) (by decide) dX6_sheet_104 rfl ?_
                refine hg_iinc4p (pc' := 108) cx rfl dX6_sheet_105 rfl ?_
                refine hg_goto cx 85 dX6_sheet_108 (by decide) ?_
                rw [nI_1]
                refine hg_nm (fun μ hμ => ?_)
                refine ih_85 (μ, i + 1) ?_ ?_
                · subst hμ
                  try dsimp only
                  rw [hg_sL_eq]
                  refine ⟨by omega, hI.2.1, fun x hx => (hg_sM_ne _ _ hx).trans (hI.2.2.1 x hx), fun k hk => ?_, fun y hy => ?_⟩
                  · rw [hg_sM_at]
                    by_cases q : k = i
                    · rw [q, va_upE]
                    · rw [va_upN _ _ (by omega)]; exact hI.2.2.2.1 k (by omega)
                  · rw [hg_sM_at, va_upN _ _ (by omega)]; exact hI.2.2.2.2 y (by omega)
                · show 40 - (i + 1) < 40 - i
                  omega
          ·
            refine hg_aload0 (pc' := 54) cx dX6_sheet_53 rfl ?_
            refine hg_ldc (pc' := 56) cx kc_X6_38 dX6_sheet_54 rfl ?_
            refine cv_X6_40 (pc' := 59) cx (K_X6_finds l E _ (-1000000001) 0 (by decide) (by decide)) ⟨rfl, rfl, Nat.le_of_ble_eq_true rfl, Nat.le_of_ble_eq_true rfl⟩ (Nat.le_of_ble_eq_true rfl) dX6_sheet_56 rfl (fun r_56 τ_56 h_56 => ?_)
            obtain ⟨rfl, rfl⟩ := h_56
            refine hg_iret cx dX6_sheet_59 ⟨_, rfl, ?_⟩
            simp only [op_sheet, d_4, hm0, if_neg (Int32.not_lt.mpr c_37), if_pos (Int32.not_le.mp c_50), not_true_eq_false, or_self, if_false]
            exact hc.find (by decide) (by decide)
        ·
          refine hg_aload0 (pc' := 41) cx dX6_sheet_40 rfl ?_
          refine hg_ldc (pc' := 43) cx kc_X6_205 dX6_sheet_41 rfl ?_
          refine cv_X6_40 (pc' := 46) cx (K_X6_finds l E _ (-1000000007) 6 (by decide) (by decide)) ⟨rfl, rfl, Nat.le_of_ble_eq_true rfl, Nat.le_of_ble_eq_true rfl⟩ (Nat.le_of_ble_eq_true rfl) dX6_sheet_43 rfl (fun r_43 τ_43 h_43 => ?_)
          obtain ⟨rfl, rfl⟩ := h_43
          refine hg_iret cx dX6_sheet_46 ⟨_, rfl, ?_⟩
          simp only [op_sheet, d_4, hm0, if_pos (Int32.not_le.mp c_37), not_true_eq_false, or_self, if_false]
          exact hc.find (by decide) (by decide)
      ·
        refine hg_iload2 (pc' := 18) cx dX6_sheet_17 rfl ?_
        refine hg_bipush (pc' := 20) cx 16 dX6_sheet_18 (by decide) rfl ?_
        refine hg_icmp_eq (pc' := 23) cx 36 dX6_sheet_20 (by decide) rfl (fun c_20 => ?_) (fun c_20 => ?_)
        ·
          have d_4 := hg_b1 c_4
          obtain ⟨a, -, ha3, rfl⟩ := sp_out_of 0 3 (by decide) (by decide) (by decide) (by decide) d_4
          have hca : (nI a).toNatClampNeg = a := nI_clamp (by omega)
          have hm : sp_may b = 1 := by unfold sp_may; rw [if_pos]; first | exact Or.inl c_8 | exact Or.inr (Or.inl c_14) | exact Or.inr (Or.inr (Or.inl c_20)) | exact Or.inr (Or.inr (Or.inr c_26))
          have hm0 : ¬ sp_may b = 0 := by rw [hm]; decide
          refine hg_iload3 (pc' := 37) cx dX6_sheet_36 rfl ?_
          refine hg_if_ge (pc' := 40) cx 47 dX6_sheet_37 (by decide) rfl (fun c_37 => ?_) (fun c_37 => ?_)
          ·
            refine hg_iload3 (pc' := 48) cx dX6_sheet_47 rfl ?_
            refine hg_bipush (pc' := 50) cx 40 dX6_sheet_48 (by decide) rfl ?_
            refine hg_icmp_le (pc' := 53) cx 60 dX6_sheet_50 (by decide) rfl (fun c_50 => ?_) (fun c_50 => ?_)
            ·
              refine hg_aload0 (pc' := 61) cx dX6_sheet_60 rfl ?_
              refine gf_X6_28 (pc' := 64) cx dX6_sheet_61 rfl ?_
              refine hg_iload1 (pc' := 65) cx dX6_sheet_64 rfl ?_
              refine hg_iload2 (pc' := 66) cx dX6_sheet_65 rfl ?_
              refine hg_iast2 (pc' := 67) cx (by decide) (hg_ceI57 E) (by first | assumption | omega | decide) (by decide) dX6_sheet_66 rfl ?_
              refine hg_aload0 (pc' := 68) cx dX6_sheet_67 rfl ?_
              refine gf_X6_31 (pc' := 71) cx dX6_sheet_68 rfl ?_
              refine hg_iload1 (pc' := 72) cx dX6_sheet_71 rfl ?_
              refine hg_iload2 (pc' := 73) cx dX6_sheet_72 rfl ?_
              refine hg_if_ne (pc' := 76) cx 80 dX6_sheet_73 (by decide) rfl (fun c_73 => ?_) (fun c_73 => ?_)
              ·
                refine hg_iload3 (pc' := 81) cx dX6_sheet_80 rfl ?_
                refine hg_iast2 (pc' := 82) cx (by decide) (hg_ceI58 E) (by first | assumption | omega | decide) (by decide) dX6_sheet_81 rfl ?_
                refine hg_nm (fun ω hω => ?_)
                have hω2 : ω.2 = σ.2 := by rw [hω]; rfl
                have hωo : ∀ x, x ≠ 57 → x ≠ 58 → ω.1 x = σ.1 x := fun x h1 h2 => by rw [hω, hg_sI_eq, hg_sH_ne _ _ h2, hg_sI_eq, hg_sH_ne _ _ h1]
                have hω7 : ω.1 57 = va_up (σ.1 57) a b := by rw [hω, hg_sI_eq, hg_sH_ne _ _ (by decide), hg_sI_eq, hg_sH_at]
                have hω8 : ω.1 58 = va_up (σ.1 58) a (if b = 0 then 0 else n) := by
                  rw [hω, hg_sI_eq, hg_sH_at, hg_sI_eq, hg_sH_ne _ _ (show (58 : Nat) ≠ 57 by decide)]
                  first
                    | rw [if_neg c_73]
                    | rw [if_pos c_73]
                clear hω
                refine hg_iconst (pc' := 83) cx (nI 0) dX6_sheet_82 (by decide) rfl ?_
                refine hg_istore4 (pc' := 85) cx rfl dX6_sheet_83 rfl ?_
                refine hg_nm (fun μ hμ => ?_)
                refine hg_loop (α := hg_Mem × Nat) (I := fun z => z.2 ≤ 40 ∧ z.1.1 = ω.1 ∧ (∀ x, x ≠ 59 → z.1.2 x = σ.2 x) ∧ (∀ k, k < z.2 → z.1.2 59 (40 * a + k) = 0) ∧ ∀ y, (y < 40 * a ∨ 40 * a + z.2 ≤ y) → z.1.2 59 y = σ.2 59 y) (P := fun z => hg_G E p l e { frames := 2, cells := 0, slots := 0, locals := 43 } s m args below meth c 5 (MQ below (hg_Qc E (hg_pi (fun r τ => mw_P σ (op_sheet S (nI a) b n) r τ))) args s 0 0 (hg_AW E)) z.1 85 [some (.ref (hg_ad E 50)), some (.int (nI a)), some (.int b), some (.int n), some (.int (nI z.2))] []) (fun z => 40 - z.2) ?_ (μ, 0) ?_
                rotate_left
                · subst hμ
                  try dsimp only
                  exact ⟨Nat.zero_le _, rfl, fun x _ => by rw [hω2], fun k hk => absurd hk (Nat.not_lt_zero k), fun y _ => by rw [hω2]⟩
                clear hμ μ
                rintro ⟨τ, i⟩ hI ih_85
                try dsimp only at hI ih_85 ⊢
                have hi40 := hI.1
                refine hg_iload4 (pc' := 87) cx dX6_sheet_85 rfl ?_
                refine hg_bipush (pc' := 89) cx (nI 40) dX6_sheet_87 (by decide) rfl ?_
                refine hg_icmp_ge (pc' := 92) cx 111 dX6_sheet_89 (by decide) rfl (fun c_89 => ?_) (fun c_89 => ?_)
                ·
                  have hi := hg_ge (n := 40) (j := i) rfl (by omega) (by omega) c_89
                  refine hg_aload0 (pc' := 112) cx dX6_sheet_111 rfl ?_
                  refine gf_X6_31 (pc' := 115) cx dX6_sheet_112 rfl ?_
                  refine hg_iload1 (pc' := 116) cx dX6_sheet_115 rfl ?_
                  refine hg_iald2 (pc' := 117) cx (by decide) (hg_ceI58 E) (by first | assumption | omega | decide) (by decide) dX6_sheet_116 rfl ?_
                  refine hg_iret cx dX6_sheet_117 ⟨_, rfl, ?_⟩
                  simp only [op_sheet, d_4, hm0, if_neg (Int32.not_lt.mpr c_37), if_neg (Int32.not_lt.mpr c_50), not_true_eq_false, or_self, if_false, hca]
                  refine ⟨?_, hc.sheet (by omega) b _ (fun x h1 h2 => by rw [hI.2.1]; exact hωo x h1 h2) (by rw [hI.2.1]; exact hω7) (by rw [hI.2.1]; exact hω8) hI.2.2.1 (fun k hk => hI.2.2.2.1 k (by omega)) (fun t ht hta k hk => hI.2.2.2.2 _ (by omega))⟩
                  rw [hI.2.1, hω8, va_upE]
                ·
                  have hi := hg_nge (n := 40) (j := i) rfl (by omega) (by omega) c_89
                  refine hg_aload0 (pc' := 93) cx dX6_sheet_92 rfl ?_
                  refine gf_X6_34 (pc' := 96) cx dX6_sheet_93 rfl ?_
                  refine hg_bipush (pc' := 98) cx (nI 40) dX6_sheet_96 (by decide) rfl ?_
                  refine hg_iload1 (pc' := 99) cx dX6_sheet_98 rfl ?_
                  refine hg_imul (pc' := 100) cx dX6_sheet_99 rfl ?_
                  refine hg_iload4 (pc' := 102) cx dX6_sheet_100 rfl ?_
                  refine hg_iadd (pc' := 103) cx dX6_sheet_102 rfl ?_
                  rw [pk_mul, nI_add]
                  refine hg_lconst (pc' := 104) cx 0 dX6_sheet_103 (by decide) rfl ?_
                  refine hg_last2 (pc' := 105) cx (by decide) (hg_ceL59 E) (by first | assumption | omega | decide) (by decide) dX6_sheet_104 rfl ?_
                  refine hg_iinc4p (pc' := 108) cx rfl dX6_sheet_105 rfl ?_
                  refine hg_goto cx 85 dX6_sheet_108 (by decide) ?_
                  rw [nI_1]
                  refine hg_nm (fun μ hμ => ?_)
                  refine ih_85 (μ, i + 1) ?_ ?_
                  · subst hμ
                    try dsimp only
                    rw [hg_sL_eq]
                    refine ⟨by omega, hI.2.1, fun x hx => (hg_sM_ne _ _ hx).trans (hI.2.2.1 x hx), fun k hk => ?_, fun y hy => ?_⟩
                    · rw [hg_sM_at]
                      by_cases q : k = i
                      · rw [q, va_upE]
                      · rw [va_upN _ _ (by omega)]; exact hI.2.2.2.1 k (by omega)
                    · rw [hg_sM_at, va_upN _ _ (by omega)]; exact hI.2.2.2.2 y (by omega)
                  · show 40 - (i + 1) < 40 - i
                    omega
              ·
                refine hg_iconst (pc' := 77) cx 0 dX6_sheet_76 (by decide) rfl ?_
                refine hg_goto cx 81 dX6_sheet_77 (by decide) ?_
                refine hg_iast2 (pc' := 82) cx (by decide) (hg_ceI58 E) (by first | assumption | omega | decide) (by decide) dX6_sheet_81 rfl ?_
                refine hg_nm (fun ω hω => ?_)
                have hω2 : ω.2 = σ.2 := by rw [hω]; rfl
                have hωo : ∀ x, x ≠ 57 → x ≠ 58 → ω.1 x = σ.1 x := fun x h1 h2 => by rw [hω, hg_sI_eq, hg_sH_ne _ _ h2, hg_sI_eq, hg_sH_ne _ _ h1]
                have hω7 : ω.1 57 = va_up (σ.1 57) a b := by rw [hω, hg_sI_eq, hg_sH_ne _ _ (by decide), hg_sI_eq, hg_sH_at]
                have hω8 : ω.1 58 = va_up (σ.1 58) a (if b = 0 then 0 else n) := by
                  rw [hω, hg_sI_eq, hg_sH_at, hg_sI_eq, hg_sH_ne _ _ (show (58 : Nat) ≠ 57 by decide)]
                  first
                    | rw [if_neg c_73]
                    | rw [if_pos c_73]
                clear hω
                refine hg_iconst (pc' := 83) cx (nI 0) dX6_sheet_82 (by decide) rfl ?_
                refine hg_istore4 (pc' := 85) cx rfl dX6_sheet_83 rfl ?_
                refine hg_nm (fun μ hμ => ?_)
                refine hg_loop (α := hg_Mem × Nat) (I := fun z => z.2 ≤ 40 ∧ z.1.1 = ω.1 ∧ (∀ x, x ≠ 59 → z.1.2 x = σ.2 x) ∧ (∀ k, k < z.2 → z.1.2 59 (40 * a + k) = 0) ∧ ∀ y, (y < 40 * a ∨ 40 * a + z.2 ≤ y) → z.1.2 59 y = σ.2 59 y) (P := fun z => hg_G E p l e { frames := 2, cells := 0, slots := 0, locals := 43 } s m args below meth c 5 (MQ below (hg_Qc E (hg_pi (fun r τ => mw_P σ (op_sheet S (nI a) b n) r τ))) args s 0 0 (hg_AW E)) z.1 85 [some (.ref (hg_ad E 50)), some (.int (nI a)), some (.int b), some (.int n), some (.int (nI z.2))] []) (fun z => 40 - z.2) ?_ (μ, 0) ?_
                rotate_left
                · subst hμ
                  try dsimp only
                  exact ⟨Nat.zero_le _, rfl, fun x _ => by rw [hω2], fun k hk => absurd hk (Nat.not_lt_zero k), fun y _ => by rw [hω2]⟩
                clear hμ μ
                rintro ⟨τ, i⟩ hI ih_85
                try dsimp only at hI ih_85 ⊢
                have hi40 := hI.1
                refine hg_iload4 (pc' := 87) cx dX6_sheet_85 rfl ?_
                refine hg_bipush (pc' := 89) cx (nI 40) dX6_sheet_87 (by decide) rfl ?_
                refine hg_icmp_ge (pc' := 92) cx 111 dX6_sheet_89 (by decide) rfl (fun c_89 => ?_) (fun c_89 => ?_)
                ·
                  have hi := hg_ge (n := 40) (j := i) rfl (by omega) (by omega) c_89
                  refine hg_aload0 (pc' := 112) cx dX6_sheet_111 rfl ?_
                  refine gf_X6_31 (pc' := 115) cx dX6_sheet_112 rfl ?_
                  refine hg_iload1 (pc' := 116) cx dX6_sheet_115 rfl ?_
                  refine hg_iald2 (pc' := 117) cx (by decide) (hg_ceI58 E) (by first | assumption | omega | decide) (by decide) dX6_sheet_116 rfl ?_
                  refine hg_iret cx dX6_sheet_117 ⟨_, rfl, ?_⟩
                  simp only [op_sheet, d_4, hm0, if_neg (Int32.not_lt.mpr c_37), if_neg (Int32.not_lt.mpr c_50), not_true_eq_false, or_self, if_false, hca]
                  refine ⟨?_, hc.sheet (by omega) b _ (fun x h1 h2 => by rw [hI.2.1]; exact hωo x h1 h2) (by rw [hI.2.1]; exact hω7) (by rw [hI.2.1]; exact hω8) hI.2.2.1 (fun k hk => hI.2.2.2.1 k (by omega)) (fun t ht hta k hk => hI.2.2.2.2 _ (by omega))⟩
                  rw [hI.2.1, hω8, va_upE]
                ·
                  have hi := hg_nge (n := 40) (j := i) rfl (by omega) (by omega) c_89
                  refine hg_aload0 (pc' := 93) cx dX6_sheet_92 rfl ?_
                  refine gf_X6_34 (pc' := 96) cx dX6_sheet_93 rfl ?_
                  refine hg_bipush (pc' := 98) cx (nI 40) dX6_sheet_96 (by decide) rfl ?_
                  refine hg_iload1 (pc' := 99) cx dX6_sheet_98 rfl ?_
                  refine hg_imul (pc' := 100) cx dX6_sheet_99 rfl ?_
                  refine hg_iload4 (pc' := 102) cx dX6_sheet_100 rfl ?_
                  refine hg_iadd (pc' := 103) cx dX6_sheet_102 rfl ?_
                  rw [pk_mul, nI_add]
                  refine hg_lconst (pc' := 104) cx 0 dX6_sheet_103 (by decide) rfl ?_
                  refine hg_last2 (pc' := 105) cx (by decide) (hg_ceL59 E) (by first | assumption | omega | decide) (by decide) dX6_sheet_104 rfl ?_
                  refine hg_iinc4p (pc' := 108) cx rfl dX6_sheet_105 rfl ?_
                  refine hg_goto cx 85 dX6_sheet_108 (by decide) ?_
                  rw [nI_1]
                  refine hg_nm (fun μ hμ => ?_)
                  refine ih_85 (μ, i + 1) ?_ ?_
                  · subst hμ
                    try dsimp only
                    rw [hg_sL_eq]
                    refine ⟨by omega, hI.2.1, fun x hx => (hg_sM_ne _ _ hx).trans (hI.2.2.1 x hx), fun k hk => ?_, fun y hy => ?_⟩
                    · rw [hg_sM_at]
                      by_cases q : k = i
                      · rw [q, va_upE]
                      · rw [va_upN _ _ (by omega)]; exact hI.2.2.2.1 k (by omega)
                    · rw [hg_sM_at, va_upN _ _ (by omega)]; exact hI.2.2.2.2 y (by omega)
                  · show 40 - (i + 1) < 40 - i
                    omega
            ·
              refine hg_aload0 (pc' := 54) cx dX6_sheet_53 rfl ?_
              refine hg_ldc (pc' := 56) cx kc_X6_38 dX6_sheet_54 rfl ?_
              refine cv_X6_40 (pc' := 59) cx (K_X6_finds l E _ (-1000000001) 0 (by decide) (by decide)) ⟨rfl, rfl, Nat.le_of_ble_eq_true rfl, Nat.le_of_ble_eq_true rfl⟩ (Nat.le_of_ble_eq_true rfl) dX6_sheet_56 rfl (fun r_56 τ_56 h_56 => ?_)
              obtain ⟨rfl, rfl⟩ := h_56
              refine hg_iret cx dX6_sheet_59 ⟨_, rfl, ?_⟩
              simp only [op_sheet, d_4, hm0, if_neg (Int32.not_lt.mpr c_37), if_pos (Int32.not_le.mp c_50), not_true_eq_false, or_self, if_false]
              exact hc.find (by decide) (by decide)
          ·
            refine hg_aload0 (pc' := 41) cx dX6_sheet_40 rfl ?_
            refine hg_ldc (pc' := 43) cx kc_X6_205 dX6_sheet_41 rfl ?_
            refine cv_X6_40 (pc' := 46) cx (K_X6_finds l E _ (-1000000007) 6 (by decide) (by decide)) ⟨rfl, rfl, Nat.le_of_ble_eq_true rfl, Nat.le_of_ble_eq_true rfl⟩ (Nat.le_of_ble_eq_true rfl) dX6_sheet_43 rfl (fun r_43 τ_43 h_43 => ?_)
            obtain ⟨rfl, rfl⟩ := h_43
            refine hg_iret cx dX6_sheet_46 ⟨_, rfl, ?_⟩
            simp only [op_sheet, d_4, hm0, if_pos (Int32.not_le.mp c_37), not_true_eq_false, or_self, if_false]
            exact hc.find (by decide) (by decide)
        ·
          refine hg_iload2 (pc' := 24) cx dX6_sheet_23 rfl ?_
          refine hg_bipush (pc' := 26) cx 64 dX6_sheet_24 (by decide) rfl ?_
          refine hg_icmp_eq (pc' := 29) cx 36 dX6_sheet_26 (by decide) rfl (fun c_26 => ?_) (fun c_26 => ?_)
          ·
            have d_4 := hg_b1 c_4
            obtain ⟨a, -, ha3, rfl⟩ := sp_out_of 0 3 (by decide) (by decide) (by decide) (by decide) d_4
            have hca : (nI a).toNatClampNeg = a := nI_clamp (by omega)
            have hm : sp_may b = 1 := by unfold sp_may; rw [if_pos]; first | exact Or.inl c_8 | exact Or.inr (Or.inl c_14) | exact Or.inr (Or.inr (Or.inl c_20)) | exact Or.inr (Or.inr (Or.inr c_26))
            have hm0 : ¬ sp_may b = 0 := by rw [hm]; decide
            refine hg_iload3 (pc' := 37) cx dX6_sheet_36 rfl ?_
            refine hg_if_ge (pc' := 40) cx 47 dX6_sheet_37 (by decide) rfl (fun c_37 => ?_) (fun c_37 => ?_)
            ·
              refine hg_iload3 (pc' := 48) cx dX6_sheet_47 rfl ?_
              refine hg_bipush (pc' := 50) cx 40 dX6_sheet_48 (by decide) rfl ?_
              refine hg_icmp_le (pc' := 53) cx 60 dX6_sheet_50 (by decide) rfl (fun c_50 => ?_) (fun c_50 => ?_)
              ·
                refine hg_aload0 (pc' := 61) cx dX6_sheet_60 rfl ?_
                refine gf_X6_28 (pc' := 64) cx dX6_sheet_61 rfl ?_
                refine hg_iload1 (pc' := 65) cx dX6_sheet_64 rfl ?_
                refine hg_iload2 (pc' := 66) cx dX6_sheet_65 rfl ?_
                refine hg_iast2 (pc' := 67) cx (by decide) (hg_ceI57 E) (by first | assumption | omega | decide) (by decide) dX6_sheet_66 rfl ?_
                refine hg_aload0 (pc' := 68) cx dX6_sheet_67 rfl ?_
                refine gf_X6_31 (pc' := 71) cx dX6_sheet_68 rfl ?_
                refine hg_iload1 (pc' := 72) cx dX6_sheet_71 rfl ?_
                refine hg_iload2 (pc' := 73) cx dX6_sheet_72 rfl ?_
                refine hg_if_ne (pc' := 76) cx 80 dX6_sheet_73 (by decide) rfl (fun c_73 => ?_) (fun c_73 => ?_)
                ·
                  refine hg_iload3 (pc' := 81) cx dX6_sheet_80 rfl ?_
                  refine hg_iast2 (pc' := 82) cx (by decide) (hg_ceI58 E) (by first | assumption | omega | decide) (by decide) dX6_sheet_81 rfl ?_
                  refine hg_nm (fun ω hω => ?_)
                  have hω2 : ω.2 = σ.2 := by rw [hω]; rfl
                  have hωo : ∀ x, x ≠ 57 → x ≠ 58 → ω.1 x = σ.1 x := fun x h1 h2 => by rw [hω, hg_sI_eq, hg_sH_ne _ _ h2, hg_sI_eq, hg_sH_ne _ _ h1]
                  have hω7 : ω.1 57 = va_up (σ.1 57) a b := by rw [hω, hg_sI_eq, hg_sH_ne _ _ (by decide), hg_sI_eq, hg_sH_at]
                  have hω8 : ω.1 58 = va_up (σ.1 58) a (if b = 0 then 0 else n) := by
                    rw [hω, hg_sI_eq, hg_sH_at, hg_sI_eq, hg_sH_ne _ _ (show (58 : Nat) ≠ 57 by decide)]
                    first
                      | rw [if_neg c_73]
                      | rw [if_pos c_73]
                  clear hω
                  refine hg_iconst (pc' := 83) cx (nI 0) dX6_sheet_82 (by decide) rfl ?_
                  refine hg_istore4 (pc' := 85) cx rfl dX6_sheet_83 rfl ?_
                  refine hg_nm (fun μ hμ => ?_)
                  refine hg_loop (α := hg_Mem × Nat) (I := fun z => z.2 ≤ 40 ∧ z.1.1 = ω.1 ∧ (∀ x, x ≠ 59 → z.1.2 x = σ.2 x) ∧ (∀ k, k < z.2 → z.1.2 59 (40 * a + k) = 0) ∧ ∀ y, (y < 40 * a ∨ 40 * a + z.2 ≤ y) → z.1.2 59 y = σ.2 59 y) (P := fun z => hg_G E p l e { frames := 2, cells := 0, slots := 0, locals := 43 } s m args below meth c 5 (MQ below (hg_Qc E (hg_pi (fun r τ => mw_P σ (op_sheet S (nI a) b n) r τ))) args s 0 0 (hg_AW E)) z.1 85 [some (.ref (hg_ad E 50)), some (.int (nI a)), some (.int b), some (.int n), some (.int (nI z.2))] []) (fun z => 40 - z.2) ?_ (μ, 0) ?_
                  rotate_left
                  · subst hμ
                    try dsimp only
                    exact ⟨Nat.zero_le _, rfl, fun x _ => by rw [hω2], fun k hk => absurd hk (Nat.not_lt_zero k), fun y _ => by rw [hω2]⟩
                  clear hμ μ
                  rintro ⟨τ, i⟩ hI ih_85
                  try dsimp only at hI ih_85 ⊢
                  have hi40 := hI.1
                  refine hg_iload4 (pc' := 87) cx dX6_sheet_85 rfl ?_
                  refine hg_bipush (pc' := 89) cx (nI 40) dX6_sheet_87 (by decide) rfl ?_
                  refine hg_icmp_ge (pc' := 92) cx 111 dX6_sheet_89 (by decide) rfl (fun c_89 => ?_) (fun c_89 => ?_)
                  ·
                    have hi := hg_ge (n := 40) (j := i) rfl (by omega) (by omega) c_89
                    refine hg_aload0 (pc' := 112) cx dX6_sheet_111 rfl ?_
                    refine gf_X6_31 (pc' := 115) cx dX6_sheet_112 rfl ?_
                    refine hg_iload1 (pc' := 116) cx dX6_sheet_115 rfl ?_
                    refine hg_iald2 (pc' := 117) cx (by decide) (hg_ceI58 E) (by first | assumption | omega | decide) (by decide) dX6_sheet_116 rfl ?_
                    refine hg_iret cx dX6_sheet_117 ⟨_, rfl, ?_⟩
                    simp only [op_sheet, d_4, hm0, if_neg (Int32.not_lt.mpr c_37), if_neg (Int32.not_lt.mpr c_50), not_true_eq_false, or_self, if_false, hca]
                    refine ⟨?_, hc.sheet (by omega) b _ (fun x h1 h2 => by rw [hI.2.1]; exact hωo x h1 h2) (by rw [hI.2.1]; exact hω7) (by rw [hI.2.1]; exact hω8) hI.2.2.1 (fun k hk => hI.2.2.2.1 k (by omega)) (fun t ht hta k hk => hI.2.2.2.2 _ (by omega))⟩
                    rw [hI.2.1, hω8, va_upE]
                  ·
                    have hi := hg_nge (n := 40) (j := i) rfl (by omega) (by omega) c_89
                    refine hg_aload0 (pc' := 93) cx dX6_sheet_92 rfl ?_
                    refine gf_X6_34 (pc' := 96) cx dX6_sheet_93 rfl ?_
                    refine hg_bipush (pc' := 98) cx (nI 40) dX6_sheet_96 (by decide) rfl ?_
                    refine hg_iload1 (pc' := 99) cx dX6_sheet_98 rfl ?_
                    refine hg_imul (pc' := 100) cx dX6_sheet_99 rfl ?_
                    refine hg_iload4 (pc' := 102) cx dX6_sheet_100 rfl ?_
                    refine hg_iadd (pc' := 103) cx dX6_sheet_102 rfl ?_
                    rw [pk_mul, nI_add]
                    refine hg_lconst (pc' := 104) cx 0 dX6_sheet_103 (by decide) rfl ?_
                    refine hg_last2 (pc' := 105) cx (by decide) (hg_ceL59 E) (by first | assumption | omega | decide) (by decide) dX6_sheet_104 rfl ?_
                    refine hg_iinc4p (pc' := 108) cx rfl dX6_sheet_105 rfl ?_
                    refine hg_goto cx 85 dX6_sheet_108 (by decide) ?_
                    rw [nI_1]
                    refine hg_nm (fun μ hμ => ?_)
                    refine ih_85 (μ, i + 1) ?_ ?_
                    · subst hμ
                      try dsimp only
                      rw [hg_sL_eq]
                      refine ⟨by omega, hI.2.1, fun x hx => (hg_sM_ne _ _ hx).trans (hI.2.2.1 x hx), fun k hk => ?_, fun y hy => ?_⟩
                      · rw [hg_sM_at]
                        by_cases q : k = i
                        · rw [q, va_upE]
                        · rw [va_upN _ _ (by omega)]; exact hI.2.2.2.1 k (by omega)
                      · rw [hg_sM_at, va_upN _ _ (by omega)]; exact hI.2.2.2.2 y (by omega)
                    · show 40 - (i + 1) < 40 - i
                      omega
                ·
                  refine hg_iconst (pc' := 77) cx 0 dX6_sheet_76 (by decide) rfl ?_
                  refine hg_goto cx 81 dX6_sheet_77 (by decide) ?_
                  refine hg_iast2 (pc' := 82) cx (by decide) (hg_ceI58 E) (by first | assumption | omega | decide) (by decide) dX6_sheet_81 rfl ?_
                  refine hg_nm (fun ω hω => ?_)
                  have hω2 : ω.2 = σ.2 := by rw [hω]; rfl
                  have hωo : ∀ x, x ≠ 57 → x ≠ 58 → ω.1 x = σ.1 x := fun x h1 h2 => by rw [hω, hg_sI_eq, hg_sH_ne _ _ h2, hg_sI_eq, hg_sH_ne _ _ h1]
                  have hω7 : ω.1 57 = va_up (σ.1 57) a b := by rw [hω, hg_sI_eq, hg_sH_ne _ _ (by decide), hg_sI_eq, hg_sH_at]
                  have hω8 : ω.1 58 = va_up (σ.1 58) a (if b = 0 then 0 else n) := by
                    rw [hω, hg_sI_eq, hg_sH_at, hg_sI_eq, hg_sH_ne _ _ (show (58 : Nat) ≠ 57 by decide)]
                    first
                      | rw [if_neg c_73]
                      | rw [if_pos c_73]
                  clear hω
                  refine hg_iconst (pc' := 83) cx (nI 0) dX6_sheet_82 (by decide) rfl ?_
                  refine hg_istore4 (pc' := 85) cx rfl dX6_sheet_83 rfl ?_
                  refine hg_nm (fun μ hμ => ?_)
                  refine hg_loop (α := hg_Mem × Nat) (I := fun z => z.2 ≤ 40 ∧ z.1.1 = ω.1 ∧ (∀ x, x ≠ 59 → z.1.2 x = σ.2 x) ∧ (∀ k, k < z.2 → z.1.2 59 (40 * a + k) = 0) ∧ ∀ y, (y < 40 * a ∨ 40 * a + z.2 ≤ y) → z.1.2 59 y = σ.2 59 y) (P := fun z => hg_G E p l e { frames := 2, cells := 0, slots := 0, locals := 43 } s m args below meth c 5 (MQ below (hg_Qc E (hg_pi (fun r τ => mw_P σ (op_sheet S (nI a) b n) r τ))) args s 0 0 (hg_AW E)) z.1 85 [some (.ref (hg_ad E 50)), some (.int (nI a)), some (.int b), some (.int n), some (.int (nI z.2))] []) (fun z => 40 - z.2) ?_ (μ, 0) ?_
                  rotate_left
                  · subst hμ
                    try dsimp only
                    exact ⟨Nat.zero_le _, rfl, fun x _ => by rw [hω2], fun k hk => absurd hk (Nat.not_lt_zero k), fun y _ => by rw [hω2]⟩
                  clear hμ μ
                  rintro ⟨τ, i⟩ hI ih_85
                  try dsimp only at hI ih_85 ⊢
                  have hi40 := hI.1
                  refine hg_iload4 (pc' := 87) cx dX6_sheet_85 rfl ?_
                  refine hg_bipush (pc' := 89) cx (nI 40) dX6_sheet_87 (by decide) rfl ?_
                  refine hg_icmp_ge (pc' := 92) cx 111 dX6_sheet_89 (by decide) rfl (fun c_89 => ?_) (fun c_89 => ?_)
                  ·
                    have hi := hg_ge (n := 40) (j := i) rfl (by omega) (by omega) c_89
                    refine hg_aload0 (pc' := 112) cx dX6_sheet_111 rfl ?_
                    refine gf_X6_31 (pc' := 115) cx dX6_sheet_112 rfl ?_
                    refine hg_iload1 (pc' := 116) cx dX6_sheet_115 rfl ?_
                    refine hg_iald2 (pc' := 117) cx (by decide) (hg_ceI58 E) (by first | assumption | omega | decide) (by decide) dX6_sheet_116 rfl ?_
                    refine hg_iret cx dX6_sheet_117 ⟨_, rfl, ?_⟩
                    simp only [op_sheet, d_4, hm0, if_neg (Int32.not_lt.mpr c_37), if_neg (Int32.not_lt.mpr c_50), not_true_eq_false, or_self, if_false, hca]
                    refine ⟨?_, hc.sheet (by omega) b _ (fun x h1 h2 => by rw [hI.2.1]; exact hωo x h1 h2) (by rw [hI.2.1]; exact hω7) (by rw [hI.2.1]; exact hω8) hI.2.2.1 (fun k hk => hI.2.2.2.1 k (by omega)) (fun t ht hta k hk => hI.2.2.2.2 _ (by omega))⟩
                    rw [hI.2.1, hω8, va_upE]
                  ·
                    have hi := hg_nge (n := 40) (j := i) rfl (by omega) (by omega) c_89
                    refine hg_aload0 (pc' := 93) cx dX6_sheet_92 rfl ?_
                    refine gf_X6_34 (pc' := 96) cx dX6_sheet_93 rfl ?_
                    refine hg_bipush (pc' := 98) cx (nI 40) dX6_sheet_96 (by decide) rfl ?_
                    refine hg_iload1 (pc' := 99) cx dX6_sheet_98 rfl ?_
                    refine hg_imul (pc' := 100) cx dX6_sheet_99 rfl ?_
                    refine hg_iload4 (pc' := 102) cx dX6_sheet_100 rfl ?_
                    refine hg_iadd (pc' := 103) cx dX6_sheet_102 rfl ?_
                    rw [pk_mul, nI_add]
                    refine hg_lconst (pc' := 104) cx 0 dX6_sheet_103 (by decide) rfl ?_
                    refine hg_last2 (pc' := 105) cx (by decide) (hg_ceL59 E) (by first | assumption | omega | decide) (by decide) dX6_sheet_104 rfl ?_
                    refine hg_iinc4p (pc' := 108) cx rfl dX6_sheet_105 rfl ?_
                    refine hg_goto cx 85 dX6_sheet_108 (by decide) ?_
                    rw [nI_1]
                    refine hg_nm (fun μ hμ => ?_)
                    refine ih_85 (μ, i + 1) ?_ ?_
                    · subst hμ
                      try dsimp only
                      rw [hg_sL_eq]
                      refine ⟨by omega, hI.2.1, fun x hx => (hg_sM_ne _ _ hx).trans (hI.2.2.1 x hx), fun k hk => ?_, fun y hy => ?_⟩
                      · rw [hg_sM_at]
                        by_cases q : k = i
                        · rw [q, va_upE]
                        · rw [va_upN _ _ (by omega)]; exact hI.2.2.2.1 k (by omega)
                      · rw [hg_sM_at, va_upN _ _ (by omega)]; exact hI.2.2.2.2 y (by omega)
                    · show 40 - (i + 1) < 40 - i
                      omega
              ·
                refine hg_aload0 (pc' := 54) cx dX6_sheet_53 rfl ?_
                refine hg_ldc (pc' := 56) cx kc_X6_38 dX6_sheet_54 rfl ?_
                refine cv_X6_40 (pc' := 59) cx (K_X6_finds l E _ (-1000000001) 0 (by decide) (by decide)) ⟨rfl, rfl, Nat.le_of_ble_eq_true rfl, Nat.le_of_ble_eq_true rfl⟩ (Nat.le_of_ble_eq_true rfl) dX6_sheet_56 rfl (fun r_56 τ_56 h_56 => ?_)
                obtain ⟨rfl, rfl⟩ := h_56
                refine hg_iret cx dX6_sheet_59 ⟨_, rfl, ?_⟩
                simp only [op_sheet, d_4, hm0, if_neg (Int32.not_lt.mpr c_37), if_pos (Int32.not_le.mp c_50), not_true_eq_false, or_self, if_false]
                exact hc.find (by decide) (by decide)
            ·
              refine hg_aload0 (pc' := 41) cx dX6_sheet_40 rfl ?_
              refine hg_ldc (pc' := 43) cx kc_X6_205 dX6_sheet_41 rfl ?_
              refine cv_X6_40 (pc' := 46) cx (K_X6_finds l E _ (-1000000007) 6 (by decide) (by decide)) ⟨rfl, rfl, Nat.le_of_ble_eq_true rfl, Nat.le_of_ble_eq_true rfl⟩ (Nat.le_of_ble_eq_true rfl) dX6_sheet_43 rfl (fun r_43 τ_43 h_43 => ?_)
              obtain ⟨rfl, rfl⟩ := h_43
              refine hg_iret cx dX6_sheet_46 ⟨_, rfl, ?_⟩
              simp only [op_sheet, d_4, hm0, if_pos (Int32.not_le.mp c_37), not_true_eq_false, or_self, if_false]
              exact hc.find (by decide) (by decide)
          ·
            refine hg_aload0 (pc' := 30) cx dX6_sheet_29 rfl ?_
            refine hg_ldc (pc' := 32) cx kc_X6_38 dX6_sheet_30 rfl ?_
            refine cv_X6_40 (pc' := 35) cx (K_X6_finds l E _ (-1000000001) 0 (by decide) (by decide)) ⟨rfl, rfl, Nat.le_of_ble_eq_true rfl, Nat.le_of_ble_eq_true rfl⟩ (Nat.le_of_ble_eq_true rfl) dX6_sheet_32 rfl (fun r_32 τ_32 h_32 => ?_)
            obtain ⟨rfl, rfl⟩ := h_32
            refine hg_iret cx dX6_sheet_35 ⟨_, rfl, ?_⟩
            have hm0 : sp_may b = 0 := by unfold sp_may; rw [if_neg]; rintro (z | z | z | z) <;> contradiction
            simp only [op_sheet, hm0, or_true, if_true]
            exact hc.find (by decide) (by decide)
set_option maxHeartbeats 4000000 in
set_option maxRecDepth 100000 in
theorem K_X6_write (l : Launch) (E : hg_Wd) (σ : hg_Mem) (S : sp_S) (hc : cw_M σ S) (hv : vs_S S) (sh : Int32) (x : Int32) (v : Int64) : hg_C l E yX6_write cX6_write 8 (some .long) { frames := 3, cells := 0, slots := 0, locals := 64 } [.ref (hg_ad E 50), .int sh, .int x, .long v] σ (hg_pl (fun r τ => mw_PL σ (op_write S sh x v) r τ)) := by
  refine hg_intro (by decide) [some (.ref (hg_ad E 50)), some (.int sh), some (.int x), some (.long v), none, none, none, none] rfl (Nat.le_of_ble_eq_true rfl) ?_
  intro p e s m args below meth c cx
  have cx : hg_Cx E p s m args meth c cX6_write 8 RX6 (some .long) := cx
  obtain ⟨hn10, hn, g0, g1, g2, hag⟩ := hc.get
  refine hg_aload0 (pc' := 1) cx dX6_write_0 rfl ?_
  refine hg_iload1 (pc' := 2) cx dX6_write_1 rfl ?_
  refine cv_X6_207 (pc' := 5) cx (K_X6_notThere l E _ _) ⟨rfl, rfl, Nat.le_of_ble_eq_true rfl, Nat.le_of_ble_eq_true rfl⟩ (Nat.le_of_ble_eq_true rfl) dX6_write_2 rfl (fun r_2 τ_2 h_2 => ?_)
  obtain ⟨rfl, rfl⟩ := h_2
  refine hg_istore5 (pc' := 7) cx rfl dX6_write_5 rfl ?_
  refine hg_iload5 (pc' := 9) cx dX6_write_7 rfl ?_
  refine hg_if_ne (pc' := 12) cx 33 dX6_write_9 (by decide) rfl (fun c_9 => ?_) (fun c_9 => ?_)
  ·
    refine hg_iload5 (pc' := 35) cx dX6_write_33 rfl ?_
    refine hg_if_eq (pc' := 38) cx 46 dX6_write_35 (by decide) rfl (fun c_35 => ?_) (fun c_35 => ?_)
    ·
      exact absurd c_35 c_9
    ·
      refine hg_aload0 (pc' := 39) cx dX6_write_38 rfl ?_
      refine hg_iload5 (pc' := 41) cx dX6_write_39 rfl ?_
      refine cv_X6_40 (pc' := 44) cx (K_X6_finds l E _ (sp_nt (sp_out sh 0 3) (σ.1 57 sh.toNatClampNeg)) (sp_ntf (sp_out sh 0 3)) (sp_ntf_lt _) (sp_ntf_ok c_9)) ⟨rfl, rfl, Nat.le_of_ble_eq_true rfl, Nat.le_of_ble_eq_true rfl⟩ (Nat.le_of_ble_eq_true rfl) dX6_write_41 rfl (fun r_41 τ_41 h_41 => ?_)
      obtain ⟨rfl, rfl⟩ := h_41
      refine hg_i2l (pc' := 45) cx dX6_write_44 rfl ?_
      refine hg_lret cx dX6_write_45 ⟨_, rfl, ?_⟩
      have hb := c_9
      rcases sp_nt_cases hb with ⟨z1, z2, z3⟩ | ⟨z1, z2, z3, z4⟩
      · rw [z2, z3]
        simp only [op_write, z1, not_false_eq_true, if_true]
        exact hc.findL (by decide) (by decide)
      · rw [z3, z4]
        obtain ⟨a, -, ha3, rfl⟩ := sp_out_of 0 3 (by decide) (by decide) (by decide) (by decide) z1
        have hca : (nI a).toNatClampNeg = a := nI_clamp (by omega)
        rw [hca] at z2
        simp only [op_write, z1, hca, ← (hc.2.2.2.2.2.2 a (by omega)).1, z2, not_true_eq_false, if_false, if_true]
        exact hc.findL (by decide) (by decide)
  ·
    have nt := sp_nt0 c_9
    obtain ⟨a, -, ha3, rfl⟩ := sp_out_of 0 3 (by decide) (by decide) (by decide) (by decide) nt.1
    have hca : (nI a).toNatClampNeg = a := nI_clamp (by omega)
    rw [hca] at nt
    obtain ⟨s1a, s2a, s3a⟩ := hc.2.2.2.2.2.2 a (by omega)
    obtain ⟨lena, hlena, elena⟩ := (hv.2.2.2.2 a (by omega)).2
    have hcla : (nI lena).toNatClampNeg = lena := nI_clamp (by omega)
    refine hg_iload2 (pc' := 13) cx dX6_write_12 rfl ?_
    refine hg_i2l (pc' := 14) cx dX6_write_13 rfl ?_
    refine hg_iconst (pc' := 15) cx 0 dX6_write_14 (by decide) rfl ?_
    refine hg_aload0 (pc' := 16) cx dX6_write_15 rfl ?_
    refine gf_X6_31 (pc' := 19) cx dX6_write_16 rfl ?_
    refine hg_iload1 (pc' := 20) cx dX6_write_19 rfl ?_
    refine hg_iald2 (pc' := 21) cx (by decide) (hg_ceI58 E) (by first | assumption | omega | decide) (by decide) dX6_write_20 rfl ?_
    refine hg_iconst (pc' := 22) cx 1 dX6_write_21 (by decide) rfl ?_
    refine hg_isub (pc' := 23) cx dX6_write_22 rfl ?_
    refine cs_X6_44 (pc' := 26) cx (K_X6_in l E _ _ _ _) ⟨rfl, rfl, Nat.le_of_ble_eq_true rfl, Nat.le_of_ble_eq_true rfl⟩ (Nat.le_of_ble_eq_true rfl) dX6_write_23 rfl (fun r_23 τ_23 h_23 => ?_)
    obtain ⟨rfl, rfl⟩ := h_23
    rw [sp_inL_out]
    refine hg_if_ne (pc' := 29) cx 33 dX6_write_26 (by decide) rfl (fun c_26 => ?_) (fun c_26 => ?_)
    ·
      refine hg_iload5 (pc' := 35) cx dX6_write_33 rfl ?_
      refine hg_if_eq (pc' := 38) cx 46 dX6_write_35 (by decide) rfl (fun c_35 => ?_) (fun c_35 => ?_)
      ·
        have d_26 := hg_b1 c_26
        obtain ⟨j, hjl, rfl⟩ : ∃ j, j < lena ∧ x = nI j := by
          have h1 := hg_b0 d_26
          have hx0 : ¬ x < 0 := fun z => h1 (Or.inl z)
          obtain ⟨j, hj, rfl⟩ := nI_of hx0
          refine ⟨j, ?_, rfl⟩
          rcases Nat.lt_or_ge j lena with q | q
          · exact q
          · exfalso
            apply h1
            right
            rw [s2a, elena]
            rcases Nat.eq_zero_or_pos lena with z | z
            · rw [z]; exact Int32.lt_of_lt_of_le (show nI 0 - 1 < 0 by decide) (nI_pos' hj)
            · obtain ⟨len1, hl1⟩ : ∃ y, lena = y + 1 := ⟨lena - 1, by omega⟩
              rw [hl1, nI_pred]; exact nI_lt (by omega) hj
        have hcj : (nI j).toNatClampNeg = j := nI_clamp (by omega)
        refine hg_aload0 (pc' := 47) cx dX6_write_46 rfl ?_
        refine gf_X6_34 (pc' := 50) cx dX6_write_47 rfl ?_
        refine hg_bipush (pc' := 52) cx (nI 40) dX6_write_50 (by decide) rfl ?_
        refine hg_iload1 (pc' := 53) cx dX6_write_52 rfl ?_
        refine hg_imul (pc' := 54) cx dX6_write_53 rfl ?_
        refine hg_iload2 (pc' := 55) cx dX6_write_54 rfl ?_
        refine hg_iadd (pc' := 56) cx dX6_write_55 rfl ?_
        rw [pk_mul, nI_add]
        refine hg_lald2 (pc' := 57) cx (by decide) (hg_ceL59 E) (by first | assumption | omega | decide) (by decide) dX6_write_56 rfl ?_
        refine hg_lstore6 (pc' := 59) cx rfl dX6_write_57 rfl ?_
        refine hg_aload0 (pc' := 60) cx dX6_write_59 rfl ?_
        refine gf_X6_34 (pc' := 63) cx dX6_write_60 rfl ?_
        refine hg_bipush (pc' := 65) cx (nI 40) dX6_write_63 (by decide) rfl ?_
        refine hg_iload1 (pc' := 66) cx dX6_write_65 rfl ?_
        refine hg_imul (pc' := 67) cx dX6_write_66 rfl ?_
        refine hg_iload2 (pc' := 68) cx dX6_write_67 rfl ?_
        refine hg_iadd (pc' := 69) cx dX6_write_68 rfl ?_
        rw [pk_mul, nI_add]
        refine hg_aload0 (pc' := 70) cx dX6_write_69 rfl ?_
        refine gf_X6_28 (pc' := 73) cx dX6_write_70 rfl ?_
        refine hg_iload1 (pc' := 74) cx dX6_write_73 rfl ?_
        refine hg_iald2 (pc' := 75) cx (by decide) (hg_ceI57 E) (by first | assumption | omega | decide) (by decide) dX6_write_74 rfl ?_
        refine hg_lload3 (pc' := 76) cx dX6_write_75 rfl ?_
        refine cs_X6_210 (pc' := 79) cx (K_X6_cutTo l E _ _ _) ⟨rfl, rfl, Nat.le_of_ble_eq_true rfl, Nat.le_of_ble_eq_true rfl⟩ (Nat.le_of_ble_eq_true rfl) dX6_write_76 rfl (fun r_76 τ_76 h_76 => ?_)
        obtain ⟨rfl, rfl⟩ := h_76
        refine hg_last2 (pc' := 80) cx (by decide) (hg_ceL59 E) (by first | assumption | omega | decide) (by decide) dX6_write_79 rfl ?_
        refine hg_lload6 (pc' := 82) cx dX6_write_80 rfl ?_
        refine hg_lret cx dX6_write_82 ⟨_, rfl, ?_⟩
        simp only [op_write, nt.1, hca, hcj, ← s1a, nt.2, ← s2a, d_26, not_true_eq_false, if_false]
        refine ⟨s3a j (by omega), hc.cells (by omega) _ (fun _ _ _ _ => rfl) (fun _ _ => rfl) (fun y hy => by rw [hg_sL_eq, hg_sM_ne _ _ hy]) (fun k hk => ?_) (fun t ht hta k hk => ?_)⟩
        · rw [hg_sL_eq, hg_sM_at]
          by_cases q : k = j
          · rw [q, va_upE, va_upE]
          · rw [va_upN _ _ (by omega), va_upN _ _ q]; exact s3a k hk
        · rw [hg_sL_eq, hg_sM_at, va_upN _ _ (by omega)]
      ·
        exact absurd c_9 c_35
    ·
      refine hg_ldc (pc' := 31) cx kc_X6_38 dX6_write_29 rfl ?_
      refine hg_istore5 (pc' := 33) cx rfl dX6_write_31 rfl ?_
      refine hg_iload5 (pc' := 35) cx dX6_write_33 rfl ?_
      refine hg_if_eq (pc' := 38) cx 46 dX6_write_35 (by decide) rfl (fun c_35 => ?_) (fun c_35 => ?_)
      ·
        exact absurd c_35 (by decide)
      ·
        refine hg_aload0 (pc' := 39) cx dX6_write_38 rfl ?_
        refine hg_iload5 (pc' := 41) cx dX6_write_39 rfl ?_
        refine cv_X6_40 (pc' := 44) cx (K_X6_finds l E _ (-1000000001) 0 (by decide) (by decide)) ⟨rfl, rfl, Nat.le_of_ble_eq_true rfl, Nat.le_of_ble_eq_true rfl⟩ (Nat.le_of_ble_eq_true rfl) dX6_write_41 rfl (fun r_41 τ_41 h_41 => ?_)
        obtain ⟨rfl, rfl⟩ := h_41
        refine hg_i2l (pc' := 45) cx dX6_write_44 rfl ?_
        refine hg_lret cx dX6_write_45 ⟨_, rfl, ?_⟩
        simp only [op_write, nt.1, hca, ← s1a, nt.2, ← s2a, hg_b0 c_26, not_true_eq_false, not_false_eq_true, if_false, if_true]
        exact hc.findL (by decide) (by decide)
