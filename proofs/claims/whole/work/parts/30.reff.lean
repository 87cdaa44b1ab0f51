theorem sp_Th.back {σ ρ τ : hg_Mem} (h : sp_Th σ ρ) (h1 : τ.2 = ρ.2 ∧ ∀ i, i ≠ 51 → τ.1 i = ρ.1 i) (h2 : ∀ k, k < 64 → τ.1 51 k = ρ.1 53 k) : sp_Th σ τ ∧ ∀ k, k < 64 → τ.1 51 k = σ.1 51 k :=
  ⟨⟨h1.1.trans h.1, fun i a b c => (h1.2 i a).trans (h.2.1 i a b c), fun k hk => by rw [h1.2 53 (by decide)]; exact h.2.2 k hk⟩, fun k hk => (h2 k hk).trans (h.2.2 k hk)⟩
theorem sp_Th.back2 {σ ρ τ : hg_Mem} (h : sp_Th σ ρ) (h1 : τ.2 = ρ.2 ∧ ∀ i, i ≠ 51 → i ≠ 55 → τ.1 i = ρ.1 i) (h2 : ∀ k, k < 64 → τ.1 51 k = ρ.1 53 k) : sp_Th σ τ ∧ ∀ k, k < 64 → τ.1 51 k = σ.1 51 k :=
  ⟨⟨h1.1.trans h.1, fun i a b c => (h1.2 i a c).trans (h.2.1 i a b c), fun k hk => by rw [h1.2 53 (by decide) (by decide)]; exact h.2.2 k hk⟩, fun k hk => (h2 k hk).trans (h.2.2 k hk)⟩
theorem sp_ses_iff {k a : Nat} (hk : k ≤ 99999) (ha1 : 1 ≤ a) (ha : a ≤ 100) : nI k + nI a ≤ 99999 ↔ nI k ≤ 99999 - nI a := by
  rw [nI_add, show (99999 : Int32) - nI a = nI (99999 - a) from pk_sub (a := 99999) (by omega)]
  constructor
  · intro h
    have := (nI_leI (a := k + a) (b := 99999) (by omega) (by omega)).mp h
    exact nI_le (by omega) (by omega)
  · intro h
    have := (nI_leI (by omega) (by omega)).mp h
    exact nI_le (b := 99999) (by omega) (by omega)
theorem sp_bit_held : ∀ x, x < 256 → ∀ q, q < 8 → ∀ v, v < 2 → sp_bit ((nI x &&& (((1 : Int32) <<< (nI q &&& 31)) ^^^ (-1))) ||| (nI v <<< (nI q &&& 31))) (nI q) = nI v := by decide +kernel
theorem sp_verd_bit {B : Nat} {C : sp_C} {n : Nat} (hB : B < 200000) (v : vs_C B C n) : sp_bit ((sp_go1 C n).1 2) (sp_q (C.1 0)) = sp_verd C n := by
  obtain ⟨hn, h3, ⟨k0, b0, e0⟩, ⟨k1, b1, e1⟩, ⟨k2, b2, e2⟩, hh⟩ := v
  have eq : sp_q (C.1 0) = nI (k0 % 8) := by rw [e0]; exact sp_q8 (by omega)
  have h1 : (sp_go1 C n).1 2 = sp_heldN (C.1 2) (sp_q (C.1 0)) (sp_yes C.2 (sp_q (C.1 0)) (C.1 2) (C.1 0) n) (sp_no C.2 (sp_q (C.1 0)) (C.1 2) (C.1 0) n) := by
    simp [sp_go1, va_up]
  have h2 : ∃ w, w < 2 ∧ sp_verd C n = nI w := by
    unfold sp_verd sp_verdict
    split
    · rcases sp_bit01 (C.1 2) (sp_q (C.1 0)) with z | z
      · exact ⟨0, by decide, z⟩
      · exact ⟨1, by decide, z⟩
    · split
      · exact ⟨1, by decide, rfl⟩
      · exact ⟨0, by decide, rfl⟩
  obtain ⟨w, hw, ew⟩ := h2
  rw [h1, ew]
  unfold sp_verd at ew
  unfold sp_heldN
  rw [ew, e2, eq]
  exact sp_bit_held k2 (by omega) _ (by omega) w hw
theorem vs_hatF {B : Nat} {C : sp_C} {n x k : Nat} {v : Int32} (h : vs_C B C n) (hx : x < n) (hk : k ≠ 2 ∧ k ≠ 3) (hv : vs_H (va_up (C.2 x) k v)) : vs_C B (sp_hatF C x k v) n := by
  obtain ⟨a, b, c, d, e, f⟩ := h
  refine ⟨a, b, c, d, e, fun y hy => ?_⟩
  show vs_H (va_up C.2 x (va_up (C.2 x) k v) y)
  by_cases q : y = x
  · rw [q, va_upE]; exact hv
  · rw [va_upN _ _ q]; exact f y hy
theorem vs_upKind {h : Nat → Int32} (v : vs_H h) {k : Nat} (hk : k ≤ 5) : vs_H (va_up h 0 (nI k)) := ⟨⟨k, hk, rfl⟩, v.2⟩
theorem vs_upView {h : Nat → Int32} (v : vs_H h) {k : Nat} (hk : k ≤ 255) : vs_H (va_up h 1 (nI k)) := ⟨v.1, ⟨k, hk, rfl⟩, v.2.2⟩
theorem vs_upFaith {h : Nat → Int32} (v : vs_H h) {k : Nat} (hk : k ≤ 99) : vs_H (va_up h 4 (nI k)) := ⟨v.1, v.2.1, v.2.2.1, v.2.2.2.1, ⟨k, hk, rfl⟩, v.2.2.2.2.2⟩
theorem vs_upOn {h : Nat → Int32} (v : vs_H h) : vs_H (va_up h 5 0) := ⟨v.1, v.2.1, v.2.2.1, v.2.2.2.1, v.2.2.2.2.1, ⟨0, by decide, rfl⟩⟩
theorem sp_wrong_up {h : Nat → Int32} (v : vs_H h) : ∃ a b, a ≤ b ∧ b ≤ 9999 ∧ h 3 = nI a ∧ sp_right h 3 = nI a ∧ ∀ ses q truth, sp_wrong h ses q truth 3 = nI b := by
  obtain ⟨-, -, -, ⟨k3, b3, e3⟩, -, -⟩ := v
  by_cases c : k3 = 9999
  · refine ⟨9999, 9999, by omega, by omega, by rw [e3, c], by show h 3 = _; rw [e3, c], fun ses q truth => ?_⟩
    show sp_min (h 3 + 1) 9999 = _
    rw [e3, c]; rfl
  · refine ⟨k3, k3 + 1, by omega, by omega, e3, e3, fun ses q truth => ?_⟩
    show sp_min (h 3 + 1) 9999 = _
    rw [e3, nI_1, sp_min, if_neg]
    exact nI_nlt (a := 9999) (by omega) (by omega)
theorem sp_hatN_mono {h : Nat → Int32} (v : vs_H h) (q held truth ses : Int32) : ∃ a b, a ≤ b ∧ b ≤ 9999 ∧ h 3 = nI a ∧ sp_hatN h q held truth ses 3 = nI b := by
  obtain ⟨a, b, h1, h2, h3, h4, h5⟩ := sp_wrong_up v
  unfold sp_hatN
  split
  · exact ⟨a, a, by omega, by omega, h3, h3⟩
  · split
    · exact ⟨a, a, by omega, by omega, h3, h4⟩
    · exact ⟨a, b, h1, h2, h3, h5 _ _ _⟩
theorem sp_go_mono {B : Nat} {C : sp_C} {n x : Nat} (v : vs_C B C n) (hx : x < n) : ∀ k, B + k < 200000 → ∃ a b, a ≤ b ∧ b ≤ 9999 ∧ C.2 x 3 = nI a ∧ (sp_go C n k).2 x 3 = nI b := by
  intro k
  induction k with
  | zero => intro _; obtain ⟨k3, b3, e3⟩ := (v.2.2.2.2.2 x hx).2.2.2.1; exact ⟨k3, k3, by omega, b3, e3, e3⟩
  | succ k ih =>
    intro hk
    obtain ⟨a, b, h1, h2, h3, h4⟩ := ih (by omega)
    obtain ⟨c, d, g1, g2, g3, g4⟩ := sp_hatN_mono ((vs_go v k (by omega)).2.2.2.2.2 x hx) (sp_q ((sp_go C n k).1 0)) ((sp_go C n k).1 2) ((sp_go C n k).1 1) ((sp_go C n k).1 0)
    refine ⟨a, d, ?_, g2, h3, g4⟩
    have : b = c := by
      have := congrArg Int32.toNatClampNeg (h4.symm.trans g3)
      rw [nI_clamp (by omega), nI_clamp (by omega)] at this
      exact this
    omega
set_option maxHeartbeats 4000000 in
set_option maxRecDepth 100000 in
theorem K_X6_sessions (l : Launch) (E : hg_Wd) (σ : hg_Mem) (S : sp_S) (hc : cw_M σ S) (hv : vs_S S) (N : Int32) : hg_C l E yX6_sessions cX6_sessions 2 (some .int) { frames := 5, cells := 0, slots := 0, locals := 117 } [.ref (hg_ad E 50), .int N] σ (hg_pi (fun r τ => mw_P σ (op_sessions S N) r τ)) := by
  refine hg_intro (by decide) [some (.ref (hg_ad E 50)), some (.int N)] rfl (Nat.le_of_ble_eq_true rfl) ?_
  intro p e s m args below meth c cx
  have cx : hg_Cx E p s m args meth c cX6_sessions 2 RX6 (some .int) := cx
  obtain ⟨hn10, hn, g0, g1, g2, hag⟩ := hc.get
  refine hg_iload1 (pc' := 1) cx dX6_sessions_0 rfl ?_
  refine hg_i2l (pc' := 2) cx dX6_sessions_1 rfl ?_
  refine hg_iconst (pc' := 3) cx 1 dX6_sessions_2 (by decide) rfl ?_
  refine hg_bipush (pc' := 5) cx 100 dX6_sessions_3 (by decide) rfl ?_
  refine cs_X6_44 (pc' := 8) cx (K_X6_in l E _ _ _ _) ⟨rfl, rfl, Nat.le_of_ble_eq_true rfl, Nat.le_of_ble_eq_true rfl⟩ (Nat.le_of_ble_eq_true rfl) dX6_sessions_5 rfl (fun r_5 τ_5 h_5 => ?_)
  obtain ⟨rfl, rfl⟩ := h_5
  rw [sp_inL_out]
  refine hg_if_ne (pc' := 11) cx 18 dX6_sessions_8 (by decide) rfl (fun c_8 => ?_) (fun c_8 => ?_)
  ·
    replace c_8 := hg_b1 c_8
    obtain ⟨a, ha1, ha2, rfl⟩ := sp_out_of 1 100 (by decide) (by decide) (by decide) (by decide) c_8
    have hca : (nI a).toNatClampNeg = a := nI_clamp (by omega)
    obtain ⟨k0, b0, e0⟩ := hv.1.2.2.1
    refine hg_aload0 (pc' := 19) cx dX6_sessions_18 rfl ?_
    refine gf_X6_9 (pc' := 22) cx dX6_sessions_19 rfl ?_
    refine hg_iconst (pc' := 23) cx (nI 0) dX6_sessions_22 (by decide) rfl ?_
    refine hg_iald2 (pc' := 24) cx (by decide) (hg_ceI51 E) (by first | assumption | omega | decide) (by decide) dX6_sessions_23 rfl ?_
    refine hg_iload1 (pc' := 25) cx dX6_sessions_24 rfl ?_
    refine hg_iadd (pc' := 26) cx dX6_sessions_25 rfl ?_
    refine hg_ldc (pc' := 28) cx kc_X6_110 dX6_sessions_26 rfl ?_
    refine hg_icmp_le (pc' := 31) cx 38 dX6_sessions_28 (by decide) rfl (fun c_28 => ?_) (fun c_28 => ?_)
    ·
      refine hg_aload0 (pc' := 39) cx dX6_sessions_38 rfl ?_
      refine hg_iload1 (pc' := 40) cx dX6_sessions_39 rfl ?_
      refine cv_X6_112 (pc' := 43) cx (K_X6_goesFor l E _ (S.1 0).1 (S.1 0).2 hc.1 99999 a (by omega) (by omega) hv.1) ⟨rfl, rfl, Nat.le_of_ble_eq_true rfl, Nat.le_of_ble_eq_true rfl⟩ (Nat.le_of_ble_eq_true rfl) dX6_sessions_40 rfl (fun τ_40 h_40 => ?_)
      skip
      refine hg_aload0 (pc' := 44) cx dX6_sessions_43 rfl ?_
      refine gf_X6_9 (pc' := 47) cx dX6_sessions_44 rfl ?_
      refine hg_iconst (pc' := 48) cx (nI 2) dX6_sessions_47 (by decide) rfl ?_
      refine hg_iald2 (pc' := 49) cx (by decide) (hg_ceI51 E) (by first | assumption | omega | decide) (by decide) dX6_sessions_48 rfl ?_
      refine hg_iret cx dX6_sessions_49 ⟨_, rfl, ?_⟩
      rw [g0, e0] at c_28
      simp only [op_sessions, c_8, hca, not_true_eq_false, if_false, e0, (sp_ses_iff b0 ha1 ha2).mp c_28]
      exact ⟨h_40.1.2.2.1 2 (by decide), hc.setC _ _ h_40.2.1 (fun i h1 _ h3 => h_40.2.2 i h1 h3) h_40.1⟩
    ·
      refine hg_aload0 (pc' := 32) cx dX6_sessions_31 rfl ?_
      refine hg_ldc (pc' := 34) cx kc_X6_111 dX6_sessions_32 rfl ?_
      refine cv_X6_40 (pc' := 37) cx (K_X6_finds l E _ (-1000000005) 4 (by decide) (by decide)) ⟨rfl, rfl, Nat.le_of_ble_eq_true rfl, Nat.le_of_ble_eq_true rfl⟩ (Nat.le_of_ble_eq_true rfl) dX6_sessions_34 rfl (fun r_34 τ_34 h_34 => ?_)
      obtain ⟨rfl, rfl⟩ := h_34
      refine hg_iret cx dX6_sessions_37 ⟨_, rfl, ?_⟩
      rw [g0, e0] at c_28
      simp only [op_sessions, c_8, not_true_eq_false, if_false, e0, if_pos (fun z => c_28 ((sp_ses_iff b0 ha1 ha2).mpr z))]
      exact hc.find (by decide) (by decide)
  ·
    replace c_8 := hg_b0 c_8
    refine hg_aload0 (pc' := 12) cx dX6_sessions_11 rfl ?_
    refine hg_ldc (pc' := 14) cx kc_X6_38 dX6_sessions_12 rfl ?_
    refine cv_X6_40 (pc' := 17) cx (K_X6_finds l E _ (-1000000001) 0 (by decide) (by decide)) ⟨rfl, rfl, Nat.le_of_ble_eq_true rfl, Nat.le_of_ble_eq_true rfl⟩ (Nat.le_of_ble_eq_true rfl) dX6_sessions_14 rfl (fun r_14 τ_14 h_14 => ?_)
    obtain ⟨rfl, rfl⟩ := h_14
    refine hg_iret cx dX6_sessions_17 ⟨_, rfl, ?_⟩
    simp only [op_sessions, sp_hz, c_8, not_true_eq_false, not_false_eq_true, true_or, or_true, false_or, or_false, or_self, if_true, if_false, and_self]
    exact hc.find (by decide) (by decide)
set_option maxHeartbeats 4000000 in
set_option maxRecDepth 100000 in
theorem K_X6_on (l : Launch) (E : hg_Wd) (σ : hg_Mem) (S : sp_S) (hc : cw_M σ S) (hv : vs_S S) (x : Int32) (N : Int32) (w : Int32) : hg_C l E yX6_on cX6_on 5 (some .int) { frames := 5, cells := 0, slots := 0, locals := 117 } [.ref (hg_ad E 50), .int x, .int N, .int w] σ (hg_pi (fun r τ => mw_P σ (op_on S x N w) r τ)) := by
  refine hg_intro (by decide) [some (.ref (hg_ad E 50)), some (.int x), some (.int N), some (.int w), none] rfl (Nat.le_of_ble_eq_true rfl) ?_
  intro p e s m args below meth c cx
  have cx : hg_Cx E p s m args meth c cX6_on 5 RX6 (some .int) := cx
  obtain ⟨hn10, hn, g0, g1, g2, hag⟩ := hc.get
  refine hg_aload0 (pc' := 1) cx dX6_on_0 rfl ?_
  refine hg_iload1 (pc' := 2) cx dX6_on_1 rfl ?_
  refine cv_X6_83 (pc' := 5) cx (K_X6_isHat l E _ (S.1 0).2 hn10 hn _) ⟨rfl, rfl, Nat.le_of_ble_eq_true rfl, Nat.le_of_ble_eq_true rfl⟩ (Nat.le_of_ble_eq_true rfl) dX6_on_2 rfl (fun r_2 τ_2 h_2 => ?_)
  obtain ⟨rfl, rfl⟩ := h_2
  refine hg_if_eq (pc' := 8) cx 30 dX6_on_5 (by decide) rfl (fun c_5 => ?_) (fun c_5 => ?_)
  ·
    refine hg_aload0 (pc' := 31) cx dX6_on_30 rfl ?_
    refine hg_ldc (pc' := 33) cx kc_X6_38 dX6_on_31 rfl ?_
    refine cv_X6_40 (pc' := 36) cx (K_X6_finds l E _ (-1000000001) 0 (by decide) (by decide)) ⟨rfl, rfl, Nat.le_of_ble_eq_true rfl, Nat.le_of_ble_eq_true rfl⟩ (Nat.le_of_ble_eq_true rfl) dX6_on_33 rfl (fun r_33 τ_33 h_33 => ?_)
    obtain ⟨rfl, rfl⟩ := h_33
    refine hg_iret cx dX6_on_36 ⟨_, rfl, ?_⟩
    simp only [op_on, sp_hz, c_5, not_true_eq_false, not_false_eq_true, true_or, or_true, false_or, or_false, or_self, if_true, if_false, and_self]
    exact hc.find (by decide) (by decide)
  ·
    refine hg_iload2 (pc' := 9) cx dX6_on_8 rfl ?_
    refine hg_i2l (pc' := 10) cx dX6_on_9 rfl ?_
    refine hg_iconst (pc' := 11) cx 0 dX6_on_10 (by decide) rfl ?_
    refine hg_sipush (pc' := 14) cx 200 dX6_on_11 (by decide) rfl ?_
    refine cs_X6_44 (pc' := 17) cx (K_X6_in l E _ _ _ _) ⟨rfl, rfl, Nat.le_of_ble_eq_true rfl, Nat.le_of_ble_eq_true rfl⟩ (Nat.le_of_ble_eq_true rfl) dX6_on_14 rfl (fun r_14 τ_14 h_14 => ?_)
    obtain ⟨rfl, rfl⟩ := h_14
    rw [sp_inL_out]
    refine hg_if_eq (pc' := 20) cx 30 dX6_on_17 (by decide) rfl (fun c_17 => ?_) (fun c_17 => ?_)
    ·
      replace c_17 := hg_b0 c_17
      refine hg_aload0 (pc' := 31) cx dX6_on_30 rfl ?_
      refine hg_ldc (pc' := 33) cx kc_X6_38 dX6_on_31 rfl ?_
      refine cv_X6_40 (pc' := 36) cx (K_X6_finds l E _ (-1000000001) 0 (by decide) (by decide)) ⟨rfl, rfl, Nat.le_of_ble_eq_true rfl, Nat.le_of_ble_eq_true rfl⟩ (Nat.le_of_ble_eq_true rfl) dX6_on_33 rfl (fun r_33 τ_33 h_33 => ?_)
      obtain ⟨rfl, rfl⟩ := h_33
      refine hg_iret cx dX6_on_36 ⟨_, rfl, ?_⟩
      simp only [op_on, sp_hz, c_5, c_17, not_true_eq_false, not_false_eq_true, true_or, or_true, false_or, or_false, or_self, if_true, if_false, and_self]
      exact hc.find (by decide) (by decide)
    ·
      replace c_17 := hg_b1 c_17
      refine hg_iload3 (pc' := 21) cx dX6_on_20 rfl ?_
      refine hg_i2l (pc' := 22) cx dX6_on_21 rfl ?_
      refine hg_iconst (pc' := 23) cx 0 dX6_on_22 (by decide) rfl ?_
      refine hg_iconst (pc' := 24) cx 3 dX6_on_23 (by decide) rfl ?_
      refine cs_X6_44 (pc' := 27) cx (K_X6_in l E _ _ _ _) ⟨rfl, rfl, Nat.le_of_ble_eq_true rfl, Nat.le_of_ble_eq_true rfl⟩ (Nat.le_of_ble_eq_true rfl) dX6_on_24 rfl (fun r_24 τ_24 h_24 => ?_)
      obtain ⟨rfl, rfl⟩ := h_24
      rw [sp_inL_out]
      refine hg_if_ne (pc' := 30) cx 37 dX6_on_27 (by decide) rfl (fun c_27 => ?_) (fun c_27 => ?_)
      ·
        replace c_27 := hg_b1 c_27
        obtain ⟨j, hjn, rfl⟩ := sp_hz_of hn10 c_5
        have hcl : (nI j).toNatClampNeg = j := nI_clamp (by omega)
        have hj := hag j hjn
        obtain ⟨a, ha1, ha2, rfl⟩ := sp_out_of 0 200 (by decide) (by decide) (by decide) (by decide) c_17
        have hca : (nI a).toNatClampNeg = a := nI_clamp (by omega)
        obtain ⟨b, -, hb3, rfl⟩ := sp_out_of 0 3 (by decide) (by decide) (by decide) (by decide) c_27
        refine hg_aload0 (pc' := 38) cx dX6_on_37 rfl ?_
        refine cv_X6_120 (pc' := 41) cx (K_X6_thinks l E _ ) ⟨rfl, rfl, Nat.le_of_ble_eq_true rfl, Nat.le_of_ble_eq_true rfl⟩ (Nat.le_of_ble_eq_true rfl) dX6_on_38 rfl (fun τ_38 h_38 => ?_)
        obtain ⟨hT, hT1⟩ := h_38
        have hRt := hc.1.keep hT1
        refine hg_aload0 (pc' := 42) cx dX6_on_41 rfl ?_
        refine hg_iload2 (pc' := 43) cx dX6_on_42 rfl ?_
        refine cv_X6_112 (pc' := 46) cx (K_X6_goesFor l E _ (S.1 0).1 (S.1 0).2 hRt 99999 a (by omega) (by omega) hv.1) ⟨rfl, rfl, Nat.le_of_ble_eq_true rfl, Nat.le_of_ble_eq_true rfl⟩ (Nat.le_of_ble_eq_true rfl) dX6_on_43 rfl (fun τ_43 h_43 => ?_)
        skip
        refine hg_aload0 (pc' := 47) cx dX6_on_46 rfl ?_
        refine hg_iload1 (pc' := 48) cx dX6_on_47 rfl ?_
        refine hg_iconst (pc' := 49) cx (nI 1) dX6_on_48 (by decide) rfl ?_
        refine hg_iload3 (pc' := 50) cx dX6_on_49 rfl ?_
        refine hg_iadd (pc' := 51) cx dX6_on_50 rfl ?_
        rw [nI_add]
        refine cv_X6_48 (pc' := 54) cx (K_X6_it l E _ j (by omega) (1 + b) (by omega)) ⟨rfl, rfl, Nat.le_of_ble_eq_true rfl, Nat.le_of_ble_eq_true rfl⟩ (Nat.le_of_ble_eq_true rfl) dX6_on_51 rfl (fun r_51 τ_51 h_51 => ?_)
        obtain ⟨rfl, rfl⟩ := h_51
        refine hg_istore4 (pc' := 56) cx rfl dX6_on_54 rfl ?_
        refine hg_aload0 (pc' := 57) cx dX6_on_56 rfl ?_
        refine cv_X6_123 (pc' := 60) cx (K_X6_putsBack l E _ ) ⟨rfl, rfl, Nat.le_of_ble_eq_true rfl, Nat.le_of_ble_eq_true rfl⟩ (Nat.le_of_ble_eq_true rfl) dX6_on_57 rfl (fun τ_57 h_57 => ?_)
        obtain ⟨hT9, hT8⟩ := (hT.fr h_43.2).back h_57.1 h_57.2
        obtain ⟨q1, q2⟩ := hc.th hT9 hT8
        refine hg_iload4 (pc' := 62) cx dX6_on_60 rfl ?_
        refine hg_iret cx dX6_on_62 ⟨_, rfl, ?_⟩
        simp only [op_on, sp_hz, c_5, c_17, c_27, hcl, hca, not_true_eq_false, or_self, if_false]
        refine ⟨?_, q1, q2⟩
        rw [show (1 : Int32) + nI b = nI (1 + b) from nI_add 1 b, sp_trait_nI _ (by omega)]
        exact h_43.1.2.2.2 j hjn _ (by omega)
      ·
        replace c_27 := hg_b0 c_27
        refine hg_aload0 (pc' := 31) cx dX6_on_30 rfl ?_
        refine hg_ldc (pc' := 33) cx kc_X6_38 dX6_on_31 rfl ?_
        refine cv_X6_40 (pc' := 36) cx (K_X6_finds l E _ (-1000000001) 0 (by decide) (by decide)) ⟨rfl, rfl, Nat.le_of_ble_eq_true rfl, Nat.le_of_ble_eq_true rfl⟩ (Nat.le_of_ble_eq_true rfl) dX6_on_33 rfl (fun r_33 τ_33 h_33 => ?_)
        obtain ⟨rfl, rfl⟩ := h_33
        refine hg_iret cx dX6_on_36 ⟨_, rfl, ?_⟩
        simp only [op_on, sp_hz, c_5, c_17, c_27, not_true_eq_false, not_false_eq_true, true_or, or_true, false_or, or_false, or_self, if_true, if_false, and_self]
        exact hc.find (by decide) (by decide)
set_option maxHeartbeats 4000000 in
set_option maxRecDepth 100000 in
theorem K_X6_then (l : Launch) (E : hg_Wd) (σ : hg_Mem) (S : sp_S) (hc : cw_M σ S) (hv : vs_S S) (N : Int32) (w : Int32) : hg_C l E yX6_then cX6_then 4 (some .int) { frames := 5, cells := 0, slots := 0, locals := 117 } [.ref (hg_ad E 50), .int N, .int w] σ (hg_pi (fun r τ => mw_P σ (op_then S N w) r τ)) := by
  refine hg_intro (by decide) [some (.ref (hg_ad E 50)), some (.int N), some (.int w), none] rfl (Nat.le_of_ble_eq_true rfl) ?_
  intro p e s m args below meth c cx
  have cx : hg_Cx E p s m args meth c cX6_then 4 RX6 (some .int) := cx
  obtain ⟨hn10, hn, g0, g1, g2, hag⟩ := hc.get
  refine hg_iload1 (pc' := 1) cx dX6_then_0 rfl ?_
  refine hg_i2l (pc' := 2) cx dX6_then_1 rfl ?_
  refine hg_iconst (pc' := 3) cx 0 dX6_then_2 (by decide) rfl ?_
  refine hg_sipush (pc' := 6) cx 200 dX6_then_3 (by decide) rfl ?_
  refine cs_X6_44 (pc' := 9) cx (K_X6_in l E _ _ _ _) ⟨rfl, rfl, Nat.le_of_ble_eq_true rfl, Nat.le_of_ble_eq_true rfl⟩ (Nat.le_of_ble_eq_true rfl) dX6_then_6 rfl (fun r_6 τ_6 h_6 => ?_)
  obtain ⟨rfl, rfl⟩ := h_6
  rw [sp_inL_out]
  refine hg_if_eq (pc' := 12) cx 22 dX6_then_9 (by decide) rfl (fun c_9 => ?_) (fun c_9 => ?_)
  ·
    replace c_9 := hg_b0 c_9
    refine hg_aload0 (pc' := 23) cx dX6_then_22 rfl ?_
    refine hg_ldc (pc' := 25) cx kc_X6_38 dX6_then_23 rfl ?_
    refine cv_X6_40 (pc' := 28) cx (K_X6_finds l E _ (-1000000001) 0 (by decide) (by decide)) ⟨rfl, rfl, Nat.le_of_ble_eq_true rfl, Nat.le_of_ble_eq_true rfl⟩ (Nat.le_of_ble_eq_true rfl) dX6_then_25 rfl (fun r_25 τ_25 h_25 => ?_)
    obtain ⟨rfl, rfl⟩ := h_25
    refine hg_iret cx dX6_then_28 ⟨_, rfl, ?_⟩
    simp only [op_then, sp_hz, c_9, not_true_eq_false, not_false_eq_true, true_or, or_true, false_or, or_false, or_self, if_true, if_false, and_self]
    exact hc.find (by decide) (by decide)
  ·
    replace c_9 := hg_b1 c_9
    refine hg_iload2 (pc' := 13) cx dX6_then_12 rfl ?_
    refine hg_i2l (pc' := 14) cx dX6_then_13 rfl ?_
    refine hg_iconst (pc' := 15) cx 0 dX6_then_14 (by decide) rfl ?_
    refine hg_iconst (pc' := 16) cx 1 dX6_then_15 (by decide) rfl ?_
    refine cs_X6_44 (pc' := 19) cx (K_X6_in l E _ _ _ _) ⟨rfl, rfl, Nat.le_of_ble_eq_true rfl, Nat.le_of_ble_eq_true rfl⟩ (Nat.le_of_ble_eq_true rfl) dX6_then_16 rfl (fun r_16 τ_16 h_16 => ?_)
    obtain ⟨rfl, rfl⟩ := h_16
    rw [sp_inL_out]
    refine hg_if_ne (pc' := 22) cx 29 dX6_then_19 (by decide) rfl (fun c_19 => ?_) (fun c_19 => ?_)
    ·
      replace c_19 := hg_b1 c_19
      obtain ⟨a, ha1, ha2, rfl⟩ := sp_out_of 0 200 (by decide) (by decide) (by decide) (by decide) c_9
      have hca : (nI a).toNatClampNeg = a := nI_clamp (by omega)
      refine hg_aload0 (pc' := 30) cx dX6_then_29 rfl ?_
      refine cv_X6_120 (pc' := 33) cx (K_X6_thinks l E _ ) ⟨rfl, rfl, Nat.le_of_ble_eq_true rfl, Nat.le_of_ble_eq_true rfl⟩ (Nat.le_of_ble_eq_true rfl) dX6_then_30 rfl (fun τ_30 h_30 => ?_)
      obtain ⟨hT, hT1⟩ := h_30
      have hRt := hc.1.keep hT1
      refine hg_aload0 (pc' := 34) cx dX6_then_33 rfl ?_
      refine hg_iload1 (pc' := 35) cx dX6_then_34 rfl ?_
      refine cv_X6_112 (pc' := 38) cx (K_X6_goesFor l E _ (S.1 0).1 (S.1 0).2 hRt 99999 a (by omega) (by omega) hv.1) ⟨rfl, rfl, Nat.le_of_ble_eq_true rfl, Nat.le_of_ble_eq_true rfl⟩ (Nat.le_of_ble_eq_true rfl) dX6_then_35 rfl (fun τ_35 h_35 => ?_)
      skip
      refine hg_iload2 (pc' := 39) cx dX6_then_38 rfl ?_
      refine hg_if_ne (pc' := 42) cx 51 dX6_then_39 (by decide) rfl (fun c_39 => ?_) (fun c_39 => ?_)
      ·
        refine hg_aload0 (pc' := 52) cx dX6_then_51 rfl ?_
        refine cv_X6_71 (pc' := 55) cx (K_X6_trueOnes l E _ ) ⟨rfl, rfl, Nat.le_of_ble_eq_true rfl, Nat.le_of_ble_eq_true rfl⟩ (Nat.le_of_ble_eq_true rfl) dX6_then_52 rfl (fun r_52 τ_52 h_52 => ?_)
        obtain ⟨rfl, rfl⟩ := h_52
        refine hg_istore3 (pc' := 56) cx rfl dX6_then_55 rfl ?_
        refine hg_aload0 (pc' := 57) cx dX6_then_56 rfl ?_
        refine cv_X6_123 (pc' := 60) cx (K_X6_putsBack l E _ ) ⟨rfl, rfl, Nat.le_of_ble_eq_true rfl, Nat.le_of_ble_eq_true rfl⟩ (Nat.le_of_ble_eq_true rfl) dX6_then_57 rfl (fun τ_57 h_57 => ?_)
        obtain ⟨hT9, hT8⟩ := (hT.fr h_35.2).back h_57.1 h_57.2
        obtain ⟨q1, q2⟩ := hc.th hT9 hT8
        refine hg_iload3 (pc' := 61) cx dX6_then_60 rfl ?_
        refine hg_iret cx dX6_then_61 ⟨_, rfl, ?_⟩
        simp only [op_then, c_9, c_19, hca, c_39, not_true_eq_false, or_self, if_false, if_true]
        first
          | exact ⟨h_35.1.2.2.1 2 (by decide), q1, q2⟩
          | exact ⟨by rw [h_35.1.2.2.1 2 (by decide), h_35.1.2.2.1 1 (by decide)], q1, q2⟩
      ·
        refine hg_aload0 (pc' := 43) cx dX6_then_42 rfl ?_
        refine gf_X6_9 (pc' := 46) cx dX6_then_43 rfl ?_
        refine hg_iconst (pc' := 47) cx (nI 2) dX6_then_46 (by decide) rfl ?_
        refine hg_iald2 (pc' := 48) cx (by decide) (hg_ceI51 E) (by first | assumption | omega | decide) (by decide) dX6_then_47 rfl ?_
        refine hg_goto cx 55 dX6_then_48 (by decide) ?_
        refine hg_istore3 (pc' := 56) cx rfl dX6_then_55 rfl ?_
        refine hg_aload0 (pc' := 57) cx dX6_then_56 rfl ?_
        refine cv_X6_123 (pc' := 60) cx (K_X6_putsBack l E _ ) ⟨rfl, rfl, Nat.le_of_ble_eq_true rfl, Nat.le_of_ble_eq_true rfl⟩ (Nat.le_of_ble_eq_true rfl) dX6_then_57 rfl (fun τ_57 h_57 => ?_)
        obtain ⟨hT9, hT8⟩ := (hT.fr h_35.2).back h_57.1 h_57.2
        obtain ⟨q1, q2⟩ := hc.th hT9 hT8
        refine hg_iload3 (pc' := 61) cx dX6_then_60 rfl ?_
        refine hg_iret cx dX6_then_61 ⟨_, rfl, ?_⟩
        simp only [op_then, c_9, c_19, hca, c_39, not_true_eq_false, or_self, if_false, if_true]
        first
          | exact ⟨h_35.1.2.2.1 2 (by decide), q1, q2⟩
          | exact ⟨by rw [h_35.1.2.2.1 2 (by decide), h_35.1.2.2.1 1 (by decide)], q1, q2⟩
    ·
      replace c_19 := hg_b0 c_19
      refine hg_aload0 (pc' := 23) cx dX6_then_22 rfl ?_
      refine hg_ldc (pc' := 25) cx kc_X6_38 dX6_then_23 rfl ?_
      refine cv_X6_40 (pc' := 28) cx (K_X6_finds l E _ (-1000000001) 0 (by decide) (by decide)) ⟨rfl, rfl, Nat.le_of_ble_eq_true rfl, Nat.le_of_ble_eq_true rfl⟩ (Nat.le_of_ble_eq_true rfl) dX6_then_25 rfl (fun r_25 τ_25 h_25 => ?_)
      obtain ⟨rfl, rfl⟩ := h_25
      refine hg_iret cx dX6_then_28 ⟨_, rfl, ?_⟩
      simp only [op_then, sp_hz, c_9, c_19, not_true_eq_false, not_false_eq_true, true_or, or_true, false_or, or_false, or_self, if_true, if_false, and_self]
      exact hc.find (by decide) (by decide)
set_option maxHeartbeats 4000000 in
set_option maxRecDepth 100000 in
theorem K_X6_wiseOn (l : Launch) (E : hg_Wd) (σ : hg_Mem) (C : sp_C) (n : Nat) (hR : sp_RepM σ 51 C n) (B : Nat) (N : Nat) (hB : B + N < 200000) (hN : N ≤ 1000) (hv : vs_C B C n) : hg_C l E yX6_wiseOn cX6_wiseOn 3 (some .int) { frames := 5, cells := 0, slots := 0, locals := 117 } [.ref (hg_ad E 50), .int (nI N)] σ (hg_pi (fun r τ => r = sp_wiseN C n N ∧ (τ.2 = σ.2 ∧ ∀ i, i ≠ 51 → i ≠ 55 → τ.1 i = σ.1 i) ∧ ∀ k, k < 64 → τ.1 51 k = σ.1 53 k)) := by
  refine hg_intro (by decide) [some (.ref (hg_ad E 50)), some (.int (nI N)), none] rfl (Nat.le_of_ble_eq_true rfl) ?_
  intro p e s m args below meth c cx
  have cx : hg_Cx E p s m args meth c cX6_wiseOn 3 RX6 (some .int) := cx
  refine hg_aload0 (pc' := 1) cx dX6_wiseOn_0 rfl ?_
  refine hg_iload1 (pc' := 2) cx dX6_wiseOn_1 rfl ?_
  refine cv_X6_112 (pc' := 5) cx (K_X6_goesFor l E _ C n hR B N hB hN hv) ⟨rfl, rfl, Nat.le_of_ble_eq_true rfl, Nat.le_of_ble_eq_true rfl⟩ (Nat.le_of_ble_eq_true rfl) dX6_wiseOn_2 rfl (fun τ_2 h_2 => ?_)
  skip
  refine hg_aload0 (pc' := 6) cx dX6_wiseOn_5 rfl ?_
  refine cv_X6_71 (pc' := 9) cx (K_X6_trueOnes l E _ ) ⟨rfl, rfl, Nat.le_of_ble_eq_true rfl, Nat.le_of_ble_eq_true rfl⟩ (Nat.le_of_ble_eq_true rfl) dX6_wiseOn_6 rfl (fun r_6 τ_6 h_6 => ?_)
  obtain ⟨rfl, rfl⟩ := h_6
  obtain ⟨kk, hkk, ekk⟩ := sp_trueOnes_in (τ_2.1 51 2) (τ_2.1 51 1)
  rw [ekk]
  refine cs_X6_126 (pc' := 12) cx (K_X6_bits l E _ kk hkk) ⟨rfl, rfl, Nat.le_of_ble_eq_true rfl, Nat.le_of_ble_eq_true rfl⟩ (Nat.le_of_ble_eq_true rfl) dX6_wiseOn_9 rfl (fun r_9 τ_9 h_9 => ?_)
  obtain ⟨rfl, rfl⟩ := h_9
  refine hg_istore2 (pc' := 13) cx rfl dX6_wiseOn_12 rfl ?_
  refine hg_aload0 (pc' := 14) cx dX6_wiseOn_13 rfl ?_
  refine cv_X6_123 (pc' := 17) cx (K_X6_putsBack l E _ ) ⟨rfl, rfl, Nat.le_of_ble_eq_true rfl, Nat.le_of_ble_eq_true rfl⟩ (Nat.le_of_ble_eq_true rfl) dX6_wiseOn_14 rfl (fun τ_14 h_14 => ?_)
  skip
  refine hg_iload2 (pc' := 18) cx dX6_wiseOn_17 rfl ?_
  refine hg_iret cx dX6_wiseOn_18 ⟨_, rfl, ?_⟩
  refine ⟨?_, ⟨⟨h_14.1.1.trans h_2.2.1, fun i h1 h2 => (h_14.1.2 i h1).trans (h_2.2.2 i h1 h2)⟩, fun k hk => by rw [h_14.2 k hk, h_2.2.2 53 (by decide) (by decide)]⟩⟩
  rw [← ekk, h_2.1.2.2.1 2 (by decide), h_2.1.2.2.1 1 (by decide)]
  rfl
set_option maxHeartbeats 4000000 in
set_option maxRecDepth 100000 in
theorem K_X6_rightOn (l : Launch) (E : hg_Wd) (σ : hg_Mem) (C : sp_C) (n : Nat) (hR : sp_RepM σ 51 C n) (B : Nat) (N : Nat) (hB : B + N < 200000) (hN : N ≤ 1000) (hv : vs_C B C n) (x : Nat) (hx : x < n) : hg_C l E yX6_rightOn cX6_rightOn 4 (some .int) { frames := 5, cells := 0, slots := 0, locals := 117 } [.ref (hg_ad E 50), .int (nI x), .int (nI N)] σ (hg_pi (fun r τ => r = (sp_go C n N).2 x 2 ∧ (τ.2 = σ.2 ∧ ∀ i, i ≠ 51 → i ≠ 55 → τ.1 i = σ.1 i) ∧ ∀ k, k < 64 → τ.1 51 k = σ.1 53 k)) := by
  refine hg_intro (by decide) [some (.ref (hg_ad E 50)), some (.int (nI x)), some (.int (nI N)), none] rfl (Nat.le_of_ble_eq_true rfl) ?_
  intro p e s m args below meth c cx
  have cx : hg_Cx E p s m args meth c cX6_rightOn 4 RX6 (some .int) := cx
  refine hg_aload0 (pc' := 1) cx dX6_rightOn_0 rfl ?_
  refine hg_iload2 (pc' := 2) cx dX6_rightOn_1 rfl ?_
  refine cv_X6_112 (pc' := 5) cx (K_X6_goesFor l E _ C n hR B N hB hN hv) ⟨rfl, rfl, Nat.le_of_ble_eq_true rfl, Nat.le_of_ble_eq_true rfl⟩ (Nat.le_of_ble_eq_true rfl) dX6_rightOn_2 rfl (fun τ_2 h_2 => ?_)
  skip
  refine hg_aload0 (pc' := 6) cx dX6_rightOn_5 rfl ?_
  refine hg_iload1 (pc' := 7) cx dX6_rightOn_6 rfl ?_
  refine hg_iconst (pc' := 8) cx (nI 2) dX6_rightOn_7 (by decide) rfl ?_
  refine cv_X6_48 (pc' := 11) cx (K_X6_it l E _ x (by have := hR.1; omega) 2 (by decide)) ⟨rfl, rfl, Nat.le_of_ble_eq_true rfl, Nat.le_of_ble_eq_true rfl⟩ (Nat.le_of_ble_eq_true rfl) dX6_rightOn_8 rfl (fun r_8 τ_8 h_8 => ?_)
  obtain ⟨rfl, rfl⟩ := h_8
  refine hg_istore3 (pc' := 12) cx rfl dX6_rightOn_11 rfl ?_
  refine hg_aload0 (pc' := 13) cx dX6_rightOn_12 rfl ?_
  refine cv_X6_123 (pc' := 16) cx (K_X6_putsBack l E _ ) ⟨rfl, rfl, Nat.le_of_ble_eq_true rfl, Nat.le_of_ble_eq_true rfl⟩ (Nat.le_of_ble_eq_true rfl) dX6_rightOn_13 rfl (fun τ_13 h_13 => ?_)
  skip
  refine hg_iload3 (pc' := 17) cx dX6_rightOn_16 rfl ?_
  refine hg_iret cx dX6_rightOn_17 ⟨_, rfl, ?_⟩
  exact ⟨h_2.1.2.2.2 x hx 2 (by decide), ⟨⟨h_13.1.1.trans h_2.2.1, fun i h1 h2 => (h_13.1.2 i h1).trans (h_2.2.2 i h1 h2)⟩, fun k hk => by rw [h_13.2 k hk, h_2.2.2 53 (by decide) (by decide)]⟩⟩
set_option maxHeartbeats 4000000 in
set_option maxRecDepth 100000 in
theorem K_X6_heldThen (l : Launch) (E : hg_Wd) (σ : hg_Mem) (C : sp_C) (n : Nat) (hR : sp_RepM σ 51 C n) (B : Nat) (hB : B < 200000) (hv : vs_C B C n) : hg_C l E yX6_heldThen cX6_heldThen 3 (some .int) { frames := 4, cells := 0, slots := 0, locals := 95 } [.ref (hg_ad E 50)] σ (hg_pi (fun r τ => r = sp_verd C n ∧ (τ.2 = σ.2 ∧ ∀ i, i ≠ 51 → i ≠ 55 → τ.1 i = σ.1 i) ∧ ∀ k, k < 64 → τ.1 51 k = σ.1 53 k)) := by
  refine hg_intro (by decide) [some (.ref (hg_ad E 50)), none, none] rfl (Nat.le_of_ble_eq_true rfl) ?_
  intro p e s m args below meth c cx
  have cx : hg_Cx E p s m args meth c cX6_heldThen 3 RX6 (some .int) := cx
  refine hg_aload0 (pc' := 1) cx dX6_heldThen_0 rfl ?_
  refine cv_X6_61 (pc' := 4) cx (K_X6_asked l E _ ) ⟨rfl, rfl, Nat.le_of_ble_eq_true rfl, Nat.le_of_ble_eq_true rfl⟩ (Nat.le_of_ble_eq_true rfl) dX6_heldThen_1 rfl (fun r_1 τ_1 h_1 => ?_)
  obtain ⟨rfl, rfl⟩ := h_1
  refine hg_istore1 (pc' := 5) cx rfl dX6_heldThen_4 rfl ?_
  refine hg_aload0 (pc' := 6) cx dX6_heldThen_5 rfl ?_
  refine cv_X6_107 (pc' := 9) cx (K_X6_goes l E _ C n hR B hB hv) ⟨rfl, rfl, Nat.le_of_ble_eq_true rfl, Nat.le_of_ble_eq_true rfl⟩ (Nat.le_of_ble_eq_true rfl) dX6_heldThen_6 rfl (fun τ_6 h_6 => ?_)
  skip
  refine hg_aload0 (pc' := 10) cx dX6_heldThen_9 rfl ?_
  refine gf_X6_9 (pc' := 13) cx dX6_heldThen_10 rfl ?_
  refine hg_iconst (pc' := 14) cx (nI 2) dX6_heldThen_13 (by decide) rfl ?_
  refine hg_iald2 (pc' := 15) cx (by decide) (hg_ceI51 E) (by first | assumption | omega | decide) (by decide) dX6_heldThen_14 rfl ?_
  refine hg_iload1 (pc' := 16) cx dX6_heldThen_15 rfl ?_
  refine hg_ishr (pc' := 17) cx dX6_heldThen_16 rfl ?_
  refine hg_iconst (pc' := 18) cx 1 dX6_heldThen_17 (by decide) rfl ?_
  refine hg_iand (pc' := 19) cx dX6_heldThen_18 rfl ?_
  refine hg_istore2 (pc' := 20) cx rfl dX6_heldThen_19 rfl ?_
  refine hg_aload0 (pc' := 21) cx dX6_heldThen_20 rfl ?_
  refine cv_X6_123 (pc' := 24) cx (K_X6_putsBack l E _ ) ⟨rfl, rfl, Nat.le_of_ble_eq_true rfl, Nat.le_of_ble_eq_true rfl⟩ (Nat.le_of_ble_eq_true rfl) dX6_heldThen_21 rfl (fun τ_21 h_21 => ?_)
  skip
  refine hg_iload2 (pc' := 25) cx dX6_heldThen_24 rfl ?_
  refine hg_iret cx dX6_heldThen_25 ⟨_, rfl, ?_⟩
  refine ⟨?_, ⟨⟨h_21.1.1.trans h_6.2.1, fun i h1 h2 => (h_21.1.2 i h1).trans (h_6.2.2 i h1 h2)⟩, fun k hk => by rw [h_21.2 k hk, h_6.2.2 53 (by decide) (by decide)]⟩⟩
  rw [h_6.1.2.2.1 2 (by decide), hR.2.2.1 0 (by decide)]
  exact sp_verd_bit hB hv
set_option maxHeartbeats 4000000 in
set_option maxRecDepth 100000 in
theorem K_X6_comes (l : Launch) (E : hg_Wd) (σ : hg_Mem) (S : sp_S) (hc : cw_M σ S) (hv : vs_S S) (q : Int32) (v : Int32) : hg_C l E yX6_comes cX6_comes 4 (some .int) { frames := 4, cells := 0, slots := 0, locals := 95 } [.ref (hg_ad E 50), .int q, .int v] σ (hg_pi (fun r τ => mw_P σ (op_comes S q v) r τ)) := by
  refine hg_intro (by decide) [some (.ref (hg_ad E 50)), some (.int q), some (.int v), none] rfl (Nat.le_of_ble_eq_true rfl) ?_
  intro p e s m args below meth c cx
  have cx : hg_Cx E p s m args meth c cX6_comes 4 RX6 (some .int) := cx
  obtain ⟨hn10, hn, g0, g1, g2, hag⟩ := hc.get
  refine hg_iload1 (pc' := 1) cx dX6_comes_0 rfl ?_
  refine hg_i2l (pc' := 2) cx dX6_comes_1 rfl ?_
  refine hg_iconst (pc' := 3) cx 0 dX6_comes_2 (by decide) rfl ?_
  refine hg_bipush (pc' := 5) cx 7 dX6_comes_3 (by decide) rfl ?_
  refine cs_X6_44 (pc' := 8) cx (K_X6_in l E _ _ _ _) ⟨rfl, rfl, Nat.le_of_ble_eq_true rfl, Nat.le_of_ble_eq_true rfl⟩ (Nat.le_of_ble_eq_true rfl) dX6_comes_5 rfl (fun r_5 τ_5 h_5 => ?_)
  obtain ⟨rfl, rfl⟩ := h_5
  rw [sp_inL_out]
  refine hg_if_eq (pc' := 11) cx 21 dX6_comes_8 (by decide) rfl (fun c_8 => ?_) (fun c_8 => ?_)
  ·
    replace c_8 := hg_b0 c_8
    refine hg_aload0 (pc' := 22) cx dX6_comes_21 rfl ?_
    refine hg_ldc (pc' := 24) cx kc_X6_38 dX6_comes_22 rfl ?_
    refine cv_X6_40 (pc' := 27) cx (K_X6_finds l E _ (-1000000001) 0 (by decide) (by decide)) ⟨rfl, rfl, Nat.le_of_ble_eq_true rfl, Nat.le_of_ble_eq_true rfl⟩ (Nat.le_of_ble_eq_true rfl) dX6_comes_24 rfl (fun r_24 τ_24 h_24 => ?_)
    obtain ⟨rfl, rfl⟩ := h_24
    refine hg_iret cx dX6_comes_27 ⟨_, rfl, ?_⟩
    simp only [op_comes, sp_hz, c_8, not_true_eq_false, not_false_eq_true, true_or, or_true, false_or, or_false, or_self, if_true, if_false, and_self]
    exact hc.find (by decide) (by decide)
  ·
    replace c_8 := hg_b1 c_8
    refine hg_iload2 (pc' := 12) cx dX6_comes_11 rfl ?_
    refine hg_i2l (pc' := 13) cx dX6_comes_12 rfl ?_
    refine hg_iconst (pc' := 14) cx 0 dX6_comes_13 (by decide) rfl ?_
    refine hg_iconst (pc' := 15) cx 1 dX6_comes_14 (by decide) rfl ?_
    refine cs_X6_44 (pc' := 18) cx (K_X6_in l E _ _ _ _) ⟨rfl, rfl, Nat.le_of_ble_eq_true rfl, Nat.le_of_ble_eq_true rfl⟩ (Nat.le_of_ble_eq_true rfl) dX6_comes_15 rfl (fun r_15 τ_15 h_15 => ?_)
    obtain ⟨rfl, rfl⟩ := h_15
    rw [sp_inL_out]
    refine hg_if_ne (pc' := 21) cx 28 dX6_comes_18 (by decide) rfl (fun c_18 => ?_) (fun c_18 => ?_)
    ·
      replace c_18 := hg_b1 c_18
      refine hg_aload0 (pc' := 29) cx dX6_comes_28 rfl ?_
      refine cv_X6_120 (pc' := 32) cx (K_X6_thinks l E _ ) ⟨rfl, rfl, Nat.le_of_ble_eq_true rfl, Nat.le_of_ble_eq_true rfl⟩ (Nat.le_of_ble_eq_true rfl) dX6_comes_29 rfl (fun τ_29 h_29 => ?_)
      obtain ⟨hT, hT1⟩ := h_29
      have hRt := hc.1.keep hT1
      refine hg_iconst (pc' := 33) cx (nI 0) dX6_comes_32 (by decide) rfl ?_
      refine hg_istore3 (pc' := 34) cx rfl dX6_comes_33 rfl ?_
      refine hg_nm (fun μ hμ => ?_)
      refine hg_loop (α := hg_Mem × Nat) (I := fun z => z.2 ≤ 201 ∧ sp_Th σ z.1 ∧ sp_RepM z.1 51 (sp_go (S.1 0).1 (S.1 0).2 z.2) (S.1 0).2 ∧ sp_first (fun k => decide (sp_bit ((sp_go (S.1 0).1 (S.1 0).2 k).1 2) q = v)) 201 0 = sp_first (fun k => decide (sp_bit ((sp_go (S.1 0).1 (S.1 0).2 k).1 2) q = v)) (201 - z.2) z.2) (P := fun z => hg_G E p l e { frames := 4, cells := 0, slots := 0, locals := 95 } s m args below meth c 4 (MQ below (hg_Qc E (hg_pi (fun r τ => mw_P σ (op_comes S q v) r τ))) args s 0 0 (hg_AW E)) z.1 34 [some (.ref (hg_ad E 50)), some (.int q), some (.int v), some (.int (nI z.2))] []) (fun z => 201 - z.2) ?_ (μ, 0) ?_
      rotate_left
      · subst hμ
        try dsimp only
        exact ⟨by omega, hT, hRt, rfl⟩
      clear hμ μ
      rintro ⟨τ, j⟩ hI ih_34
      try dsimp only at hI ih_34 ⊢
      have hj201 := hI.1
      refine hg_iload3 (pc' := 35) cx dX6_comes_34 rfl ?_
      refine hg_sipush (pc' := 38) cx (nI 200) dX6_comes_35 (by decide) rfl ?_
      refine hg_icmp_gt (pc' := 41) cx 65 dX6_comes_38 (by decide) rfl (fun c_38 => ?_) (fun c_38 => ?_)
      ·
        have hj := hg_gt (a := 200) (b := j) (by omega) (by omega) c_38
        refine hg_aload0 (pc' := 66) cx dX6_comes_65 rfl ?_
        refine cv_X6_123 (pc' := 69) cx (K_X6_putsBack l E _ ) ⟨rfl, rfl, Nat.le_of_ble_eq_true rfl, Nat.le_of_ble_eq_true rfl⟩ (Nat.le_of_ble_eq_true rfl) dX6_comes_66 rfl (fun τ_66 h_66 => ?_)
        obtain ⟨hT9, hT8⟩ := hI.2.1.back h_66.1 h_66.2
        obtain ⟨q1, q2⟩ := hc.th hT9 hT8
        refine hg_iload3 (pc' := 70) cx dX6_comes_69 rfl ?_
        refine hg_sipush (pc' := 73) cx (nI 200) dX6_comes_70 (by decide) rfl ?_
        refine hg_icmp_le (pc' := 76) cx 85 dX6_comes_73 (by decide) rfl (fun c_73 => ?_) (fun c_73 => ?_)
        ·
          exact absurd c_73 (nI_ge (b := j) (a := 200) hj (by omega))
        ·
          refine hg_aload0 (pc' := 77) cx dX6_comes_76 rfl ?_
          refine hg_ldc (pc' := 79) cx kc_X6_39 dX6_comes_77 rfl ?_
          refine cv_X6_40 (pc' := 82) cx (K_X6_finds l E _ (-1000000004) 3 (by decide) (by decide)) ⟨rfl, rfl, Nat.le_of_ble_eq_true rfl, Nat.le_of_ble_eq_true rfl⟩ (Nat.le_of_ble_eq_true rfl) dX6_comes_79 rfl (fun r_79 τ_79 h_79 => ?_)
          obtain ⟨rfl, rfl⟩ := h_79
          refine hg_goto cx 86 dX6_comes_82 (by decide) ?_
          refine hg_iret cx dX6_comes_86 ⟨_, rfl, ?_⟩
          simp only [op_comes, c_8, c_18, not_true_eq_false, or_self, if_false]
          rw [hI.2.2.2, show 201 - j = 0 by omega]
          exact ⟨(q1.find (f := 3) (by decide) (by decide)).1, (q1.find (f := 3) (w := -1000000004) (by decide) (by decide)).2.1, q2.tr (q1.find (f := 3) (w := -1000000004) (by decide) (by decide)).2.2⟩
      ·
        have hj := hg_ngt (a := 200) (b := j) (by omega) (by omega) c_38
        refine hg_aload0 (pc' := 42) cx dX6_comes_41 rfl ?_
        refine gf_X6_9 (pc' := 45) cx dX6_comes_42 rfl ?_
        refine hg_iconst (pc' := 46) cx (nI 2) dX6_comes_45 (by decide) rfl ?_
        refine hg_iald2 (pc' := 47) cx (by decide) (hg_ceI51 E) (by first | assumption | omega | decide) (by decide) dX6_comes_46 rfl ?_
        refine hg_iload1 (pc' := 48) cx dX6_comes_47 rfl ?_
        refine hg_ishr (pc' := 49) cx dX6_comes_48 rfl ?_
        refine hg_iconst (pc' := 50) cx 1 dX6_comes_49 (by decide) rfl ?_
        refine hg_iand (pc' := 51) cx dX6_comes_50 rfl ?_
        refine hg_iload2 (pc' := 52) cx dX6_comes_51 rfl ?_
        refine hg_icmp_eq (pc' := 55) cx 65 dX6_comes_52 (by decide) rfl (fun c_52 => ?_) (fun c_52 => ?_)
        ·
          refine hg_aload0 (pc' := 66) cx dX6_comes_65 rfl ?_
          refine cv_X6_123 (pc' := 69) cx (K_X6_putsBack l E _ ) ⟨rfl, rfl, Nat.le_of_ble_eq_true rfl, Nat.le_of_ble_eq_true rfl⟩ (Nat.le_of_ble_eq_true rfl) dX6_comes_66 rfl (fun τ_66 h_66 => ?_)
          obtain ⟨hT9, hT8⟩ := hI.2.1.back h_66.1 h_66.2
          obtain ⟨q1, q2⟩ := hc.th hT9 hT8
          refine hg_iload3 (pc' := 70) cx dX6_comes_69 rfl ?_
          refine hg_sipush (pc' := 73) cx (nI 200) dX6_comes_70 (by decide) rfl ?_
          refine hg_icmp_le (pc' := 76) cx 85 dX6_comes_73 (by decide) rfl (fun c_73 => ?_) (fun c_73 => ?_)
          ·
            refine hg_iload3 (pc' := 86) cx dX6_comes_85 rfl ?_
            refine hg_iret cx dX6_comes_86 ⟨_, rfl, ?_⟩
            simp only [op_comes, c_8, c_18, not_true_eq_false, or_self, if_false]
            rw [hI.2.2.2, show 201 - j = (200 - j) + 1 by omega, sp_first_yes (decide_eq_true (by rw [← hI.2.2.1.2.2.1 2 (by decide)]; exact c_52))]
            exact ⟨rfl, q1, q2⟩
          ·
            exact absurd (nI_le (b := 200) hj (by omega)) c_73
        ·
          refine hg_aload0 (pc' := 56) cx dX6_comes_55 rfl ?_
          refine cv_X6_107 (pc' := 59) cx (K_X6_goes l E _ (sp_go (S.1 0).1 (S.1 0).2 j) (S.1 0).2 hI.2.2.1 (99999 + j) (by omega) (vs_go hv.1 j (by omega))) ⟨rfl, rfl, Nat.le_of_ble_eq_true rfl, Nat.le_of_ble_eq_true rfl⟩ (Nat.le_of_ble_eq_true rfl) dX6_comes_56 rfl (fun τ_56 h_56 => ?_)
          skip
          refine hg_iinc3p (pc' := 62) cx rfl dX6_comes_59 rfl ?_
          refine hg_goto cx 34 dX6_comes_62 (by decide) ?_
          rw [nI_1]
          refine hg_nm (fun μ hμ => ?_)
          refine ih_34 (μ, j + 1) ?_ ?_
          · subst hμ
            try dsimp only
            refine ⟨by omega, hI.2.1.fr h_56.2, h_56.1, ?_⟩
            rw [hI.2.2.2, show 201 - j = (201 - (j + 1)) + 1 by omega, sp_first_no (decide_eq_false (by rw [← hI.2.2.1.2.2.1 2 (by decide)]; exact c_52))]
          · show 201 - (j + 1) < 201 - j
            omega
    ·
      replace c_18 := hg_b0 c_18
      refine hg_aload0 (pc' := 22) cx dX6_comes_21 rfl ?_
      refine hg_ldc (pc' := 24) cx kc_X6_38 dX6_comes_22 rfl ?_
      refine cv_X6_40 (pc' := 27) cx (K_X6_finds l E _ (-1000000001) 0 (by decide) (by decide)) ⟨rfl, rfl, Nat.le_of_ble_eq_true rfl, Nat.le_of_ble_eq_true rfl⟩ (Nat.le_of_ble_eq_true rfl) dX6_comes_24 rfl (fun r_24 τ_24 h_24 => ?_)
      obtain ⟨rfl, rfl⟩ := h_24
      refine hg_iret cx dX6_comes_27 ⟨_, rfl, ?_⟩
      simp only [op_comes, sp_hz, c_8, c_18, not_true_eq_false, not_false_eq_true, true_or, or_true, false_or, or_false, or_self, if_true, if_false, and_self]
      exact hc.find (by decide) (by decide)
set_option maxHeartbeats 4000000 in
set_option maxRecDepth 100000 in
theorem K_X6_wise (l : Launch) (E : hg_Wd) (σ : hg_Mem) (S : sp_S) (hc : cw_M σ S) (hv : vs_S S) : hg_C l E yX6_wise cX6_wise 2 (some .int) { frames := 4, cells := 0, slots := 0, locals := 95 } [.ref (hg_ad E 50)] σ (hg_pi (fun r τ => mw_P σ (op_wise S ) r τ)) := by
  refine hg_intro (by decide) [some (.ref (hg_ad E 50)), none] rfl (Nat.le_of_ble_eq_true rfl) ?_
  intro p e s m args below meth c cx
  have cx : hg_Cx E p s m args meth c cX6_wise 2 RX6 (some .int) := cx
  obtain ⟨hn10, hn, g0, g1, g2, hag⟩ := hc.get
  refine hg_aload0 (pc' := 1) cx dX6_wise_0 rfl ?_
  refine cv_X6_120 (pc' := 4) cx (K_X6_thinks l E _ ) ⟨rfl, rfl, Nat.le_of_ble_eq_true rfl, Nat.le_of_ble_eq_true rfl⟩ (Nat.le_of_ble_eq_true rfl) dX6_wise_1 rfl (fun τ_1 h_1 => ?_)
  obtain ⟨hT, hT1⟩ := h_1
  have hRt := hc.1.keep hT1
  refine hg_iconst (pc' := 5) cx (nI 0) dX6_wise_4 (by decide) rfl ?_
  refine hg_istore1 (pc' := 6) cx rfl dX6_wise_5 rfl ?_
  refine hg_nm (fun μ hμ => ?_)
  refine hg_loop (α := hg_Mem × Nat) (I := fun z => z.2 ≤ 201 ∧ sp_Th σ z.1 ∧ sp_RepM z.1 51 (sp_go (S.1 0).1 (S.1 0).2 z.2) (S.1 0).2 ∧ sp_first (fun k => decide (sp_trueOnes ((sp_go (S.1 0).1 (S.1 0).2 k).1 2) ((sp_go (S.1 0).1 (S.1 0).2 k).1 1) = 255)) 201 0 = sp_first (fun k => decide (sp_trueOnes ((sp_go (S.1 0).1 (S.1 0).2 k).1 2) ((sp_go (S.1 0).1 (S.1 0).2 k).1 1) = 255)) (201 - z.2) z.2) (P := fun z => hg_G E p l e { frames := 4, cells := 0, slots := 0, locals := 95 } s m args below meth c 2 (MQ below (hg_Qc E (hg_pi (fun r τ => mw_P σ (op_wise S ) r τ))) args s 0 0 (hg_AW E)) z.1 6 [some (.ref (hg_ad E 50)), some (.int (nI z.2))] []) (fun z => 201 - z.2) ?_ (μ, 0) ?_
  rotate_left
  · subst hμ
    try dsimp only
    exact ⟨by omega, hT, hRt, rfl⟩
  clear hμ μ
  rintro ⟨τ, j⟩ hI ih_6
  try dsimp only at hI ih_6 ⊢
  have hj201 := hI.1
  refine hg_iload1 (pc' := 7) cx dX6_wise_6 rfl ?_
  refine hg_sipush (pc' := 10) cx (nI 200) dX6_wise_7 (by decide) rfl ?_
  refine hg_icmp_gt (pc' := 13) cx 33 dX6_wise_10 (by decide) rfl (fun c_10 => ?_) (fun c_10 => ?_)
  ·
    have hj := hg_gt (a := 200) (b := j) (by omega) (by omega) c_10
    refine hg_aload0 (pc' := 34) cx dX6_wise_33 rfl ?_
    refine cv_X6_123 (pc' := 37) cx (K_X6_putsBack l E _ ) ⟨rfl, rfl, Nat.le_of_ble_eq_true rfl, Nat.le_of_ble_eq_true rfl⟩ (Nat.le_of_ble_eq_true rfl) dX6_wise_34 rfl (fun τ_34 h_34 => ?_)
    obtain ⟨hT9, hT8⟩ := hI.2.1.back h_34.1 h_34.2
    obtain ⟨q1, q2⟩ := hc.th hT9 hT8
    refine hg_iload1 (pc' := 38) cx dX6_wise_37 rfl ?_
    refine hg_sipush (pc' := 41) cx (nI 200) dX6_wise_38 (by decide) rfl ?_
    refine hg_icmp_le (pc' := 44) cx 53 dX6_wise_41 (by decide) rfl (fun c_41 => ?_) (fun c_41 => ?_)
    ·
      exact absurd c_41 (nI_ge (b := j) (a := 200) hj (by omega))
    ·
      refine hg_aload0 (pc' := 45) cx dX6_wise_44 rfl ?_
      refine hg_ldc (pc' := 47) cx kc_X6_39 dX6_wise_45 rfl ?_
      refine cv_X6_40 (pc' := 50) cx (K_X6_finds l E _ (-1000000004) 3 (by decide) (by decide)) ⟨rfl, rfl, Nat.le_of_ble_eq_true rfl, Nat.le_of_ble_eq_true rfl⟩ (Nat.le_of_ble_eq_true rfl) dX6_wise_47 rfl (fun r_47 τ_47 h_47 => ?_)
      obtain ⟨rfl, rfl⟩ := h_47
      refine hg_goto cx 54 dX6_wise_50 (by decide) ?_
      refine hg_iret cx dX6_wise_54 ⟨_, rfl, ?_⟩
      simp only [op_wise]
      rw [hI.2.2.2, show 201 - j = 0 by omega]
      exact ⟨(q1.find (f := 3) (by decide) (by decide)).1, (q1.find (f := 3) (w := -1000000004) (by decide) (by decide)).2.1, q2.tr (q1.find (f := 3) (w := -1000000004) (by decide) (by decide)).2.2⟩
  ·
    have hj := hg_ngt (a := 200) (b := j) (by omega) (by omega) c_10
    refine hg_aload0 (pc' := 14) cx dX6_wise_13 rfl ?_
    refine cv_X6_71 (pc' := 17) cx (K_X6_trueOnes l E _ ) ⟨rfl, rfl, Nat.le_of_ble_eq_true rfl, Nat.le_of_ble_eq_true rfl⟩ (Nat.le_of_ble_eq_true rfl) dX6_wise_14 rfl (fun r_14 τ_14 h_14 => ?_)
    obtain ⟨rfl, rfl⟩ := h_14
    refine hg_sipush (pc' := 20) cx 255 dX6_wise_17 (by decide) rfl ?_
    refine hg_icmp_eq (pc' := 23) cx 33 dX6_wise_20 (by decide) rfl (fun c_20 => ?_) (fun c_20 => ?_)
    ·
      refine hg_aload0 (pc' := 34) cx dX6_wise_33 rfl ?_
      refine cv_X6_123 (pc' := 37) cx (K_X6_putsBack l E _ ) ⟨rfl, rfl, Nat.le_of_ble_eq_true rfl, Nat.le_of_ble_eq_true rfl⟩ (Nat.le_of_ble_eq_true rfl) dX6_wise_34 rfl (fun τ_34 h_34 => ?_)
      obtain ⟨hT9, hT8⟩ := hI.2.1.back h_34.1 h_34.2
      obtain ⟨q1, q2⟩ := hc.th hT9 hT8
      refine hg_iload1 (pc' := 38) cx dX6_wise_37 rfl ?_
      refine hg_sipush (pc' := 41) cx (nI 200) dX6_wise_38 (by decide) rfl ?_
      refine hg_icmp_le (pc' := 44) cx 53 dX6_wise_41 (by decide) rfl (fun c_41 => ?_) (fun c_41 => ?_)
      ·
        refine hg_iload1 (pc' := 54) cx dX6_wise_53 rfl ?_
        refine hg_iret cx dX6_wise_54 ⟨_, rfl, ?_⟩
        rw [hI.2.2.1.2.2.1 2 (by decide), hI.2.2.1.2.2.1 1 (by decide)] at c_20
        simp only [op_wise]
        rw [hI.2.2.2, show 201 - j = (200 - j) + 1 by omega, sp_first_yes (decide_eq_true c_20)]
        exact ⟨rfl, q1, q2⟩
      ·
        exact absurd (nI_le (b := 200) hj (by omega)) c_41
    ·
      refine hg_aload0 (pc' := 24) cx dX6_wise_23 rfl ?_
      refine cv_X6_107 (pc' := 27) cx (K_X6_goes l E _ (sp_go (S.1 0).1 (S.1 0).2 j) (S.1 0).2 hI.2.2.1 (99999 + j) (by omega) (vs_go hv.1 j (by omega))) ⟨rfl, rfl, Nat.le_of_ble_eq_true rfl, Nat.le_of_ble_eq_true rfl⟩ (Nat.le_of_ble_eq_true rfl) dX6_wise_24 rfl (fun τ_24 h_24 => ?_)
      skip
      refine hg_iinc1p (pc' := 30) cx rfl dX6_wise_27 rfl ?_
      refine hg_goto cx 6 dX6_wise_30 (by decide) ?_
      rw [nI_1]
      refine hg_nm (fun μ hμ => ?_)
      refine ih_6 (μ, j + 1) ?_ ?_
      · subst hμ
        try dsimp only
        rw [hI.2.2.1.2.2.1 2 (by decide), hI.2.2.1.2.2.1 1 (by decide)] at c_20
        refine ⟨by omega, hI.2.1.fr h_24.2, h_24.1, ?_⟩
        rw [hI.2.2.2, show 201 - j = (201 - (j + 1)) + 1 by omega, sp_first_no (decide_eq_false c_20)]
      · show 201 - (j + 1) < 201 - j
        omega
set_option maxHeartbeats 4000000 in
set_option maxRecDepth 100000 in
theorem K_X6_errs (l : Launch) (E : hg_Wd) (σ : hg_Mem) (S : sp_S) (hc : cw_M σ S) (hv : vs_S S) (x : Int32) : hg_C l E yX6_errs cX6_errs 4 (some .int) { frames := 4, cells := 0, slots := 0, locals := 95 } [.ref (hg_ad E 50), .int x] σ (hg_pi (fun r τ => mw_P σ (op_errs S x) r τ)) := by
  refine hg_intro (by decide) [some (.ref (hg_ad E 50)), some (.int x), none, none] rfl (Nat.le_of_ble_eq_true rfl) ?_
  intro p e s m args below meth c cx
  have cx : hg_Cx E p s m args meth c cX6_errs 4 RX6 (some .int) := cx
  obtain ⟨hn10, hn, g0, g1, g2, hag⟩ := hc.get
  refine hg_aload0 (pc' := 1) cx dX6_errs_0 rfl ?_
  refine hg_iload1 (pc' := 2) cx dX6_errs_1 rfl ?_
  refine cv_X6_83 (pc' := 5) cx (K_X6_isHat l E _ (S.1 0).2 hn10 hn _) ⟨rfl, rfl, Nat.le_of_ble_eq_true rfl, Nat.le_of_ble_eq_true rfl⟩ (Nat.le_of_ble_eq_true rfl) dX6_errs_2 rfl (fun r_2 τ_2 h_2 => ?_)
  obtain ⟨rfl, rfl⟩ := h_2
  refine hg_if_ne (pc' := 8) cx 15 dX6_errs_5 (by decide) rfl (fun c_5 => ?_) (fun c_5 => ?_)
  ·
    obtain ⟨j, hjn, rfl⟩ := sp_hz_of hn10 c_5
    have hcl : (nI j).toNatClampNeg = j := nI_clamp (by omega)
    have hj := hag j hjn
    refine hg_aload0 (pc' := 16) cx dX6_errs_15 rfl ?_
    refine cv_X6_120 (pc' := 19) cx (K_X6_thinks l E _ ) ⟨rfl, rfl, Nat.le_of_ble_eq_true rfl, Nat.le_of_ble_eq_true rfl⟩ (Nat.le_of_ble_eq_true rfl) dX6_errs_16 rfl (fun τ_16 h_16 => ?_)
    obtain ⟨hT, hT1⟩ := h_16
    have hRt := hc.1.keep hT1
    refine hg_aload0 (pc' := 20) cx dX6_errs_19 rfl ?_
    refine hg_iload1 (pc' := 21) cx dX6_errs_20 rfl ?_
    refine hg_iconst (pc' := 22) cx (nI 3) dX6_errs_21 (by decide) rfl ?_
    refine cv_X6_48 (pc' := 25) cx (K_X6_it l E _ j (by omega) 3 (by omega)) ⟨rfl, rfl, Nat.le_of_ble_eq_true rfl, Nat.le_of_ble_eq_true rfl⟩ (Nat.le_of_ble_eq_true rfl) dX6_errs_22 rfl (fun r_22 τ_22 h_22 => ?_)
    obtain ⟨rfl, rfl⟩ := h_22
    refine hg_istore2 (pc' := 26) cx rfl dX6_errs_25 rfl ?_
    refine hg_iconst (pc' := 27) cx (nI 1) dX6_errs_26 (by decide) rfl ?_
    refine hg_istore3 (pc' := 28) cx rfl dX6_errs_27 rfl ?_
    refine hg_aload0 (pc' := 29) cx dX6_errs_28 rfl ?_
    refine cv_X6_107 (pc' := 32) cx (K_X6_goes l E _ (sp_go (S.1 0).1 (S.1 0).2 0) (S.1 0).2 hRt (99999 + 0) (by omega) (vs_go hv.1 0 (by omega))) ⟨rfl, rfl, Nat.le_of_ble_eq_true rfl, Nat.le_of_ble_eq_true rfl⟩ (Nat.le_of_ble_eq_true rfl) dX6_errs_29 rfl (fun τ_29 h_29 => ?_)
    skip
    refine hg_nm (fun μ hμ => ?_)
    refine hg_loop (α := hg_Mem × Nat) (I := fun z => z.2 ≤ 200 ∧ sp_Th σ z.1 ∧ sp_RepM z.1 51 (sp_go (S.1 0).1 (S.1 0).2 (z.2 + 1)) (S.1 0).2 ∧ sp_first (fun k => decide ((S.1 0).1.2 j 3 < (sp_go (S.1 0).1 (S.1 0).2 k).2 j 3)) 200 1 = sp_first (fun k => decide ((S.1 0).1.2 j 3 < (sp_go (S.1 0).1 (S.1 0).2 k).2 j 3)) (200 - z.2) (z.2 + 1)) (P := fun z => hg_G E p l e { frames := 4, cells := 0, slots := 0, locals := 95 } s m args below meth c 4 (MQ below (hg_Qc E (hg_pi (fun r τ => mw_P σ (op_errs S (nI j)) r τ))) args s 0 0 (hg_AW E)) z.1 32 [some (.ref (hg_ad E 50)), some (.int (nI j)), some (.int (τ_16.1 51 (4 + 6 * j + 3))), some (.int (nI (z.2 + 1)))] []) (fun z => 200 - z.2) ?_ (μ, 0) ?_
    rotate_left
    · subst hμ
      try dsimp only
      exact ⟨by omega, hT.fr h_29.2, h_29.1, rfl⟩
    clear hμ μ
    rintro ⟨τ, i⟩ hI ih_32
    try dsimp only at hI ih_32 ⊢
    have hi200 := hI.1
    refine hg_iload3 (pc' := 33) cx dX6_errs_32 rfl ?_
    refine hg_sipush (pc' := 36) cx (nI 200) dX6_errs_33 (by decide) rfl ?_
    refine hg_icmp_gt (pc' := 39) cx 59 dX6_errs_36 (by decide) rfl (fun c_36 => ?_) (fun c_36 => ?_)
    ·
      have hj2 := hg_gt (a := 200) (b := i + 1) (by omega) (by omega) c_36
      refine hg_aload0 (pc' := 60) cx dX6_errs_59 rfl ?_
      refine cv_X6_123 (pc' := 63) cx (K_X6_putsBack l E _ ) ⟨rfl, rfl, Nat.le_of_ble_eq_true rfl, Nat.le_of_ble_eq_true rfl⟩ (Nat.le_of_ble_eq_true rfl) dX6_errs_60 rfl (fun τ_60 h_60 => ?_)
      obtain ⟨hT9, hT8⟩ := hI.2.1.back h_60.1 h_60.2
      obtain ⟨q1, q2⟩ := hc.th hT9 hT8
      refine hg_iload3 (pc' := 64) cx dX6_errs_63 rfl ?_
      refine hg_sipush (pc' := 67) cx (nI 200) dX6_errs_64 (by decide) rfl ?_
      refine hg_icmp_le (pc' := 70) cx 79 dX6_errs_67 (by decide) rfl (fun c_67 => ?_) (fun c_67 => ?_)
      ·
        exact absurd c_67 (nI_ge (b := i + 1) (a := 200) hj2 (by omega))
      ·
        refine hg_aload0 (pc' := 71) cx dX6_errs_70 rfl ?_
        refine hg_ldc (pc' := 73) cx kc_X6_39 dX6_errs_71 rfl ?_
        refine cv_X6_40 (pc' := 76) cx (K_X6_finds l E _ (-1000000004) 3 (by decide) (by decide)) ⟨rfl, rfl, Nat.le_of_ble_eq_true rfl, Nat.le_of_ble_eq_true rfl⟩ (Nat.le_of_ble_eq_true rfl) dX6_errs_73 rfl (fun r_73 τ_73 h_73 => ?_)
        obtain ⟨rfl, rfl⟩ := h_73
        refine hg_goto cx 80 dX6_errs_76 (by decide) ?_
        refine hg_iret cx dX6_errs_80 ⟨_, rfl, ?_⟩
        simp only [op_errs, sp_hz, c_5, hcl, if_false]
        rw [hI.2.2.2, show 200 - i = 0 by omega]
        exact ⟨(q1.find (f := 3) (by decide) (by decide)).1, (q1.find (f := 3) (w := -1000000004) (by decide) (by decide)).2.1, q2.tr (q1.find (f := 3) (w := -1000000004) (by decide) (by decide)).2.2⟩
    ·
      have hj2 := hg_ngt (a := 200) (b := i + 1) (by omega) (by omega) c_36
      refine hg_aload0 (pc' := 40) cx dX6_errs_39 rfl ?_
      refine hg_iload1 (pc' := 41) cx dX6_errs_40 rfl ?_
      refine hg_iconst (pc' := 42) cx (nI 3) dX6_errs_41 (by decide) rfl ?_
      refine cv_X6_48 (pc' := 45) cx (K_X6_it l E _ j (by omega) 3 (by omega)) ⟨rfl, rfl, Nat.le_of_ble_eq_true rfl, Nat.le_of_ble_eq_true rfl⟩ (Nat.le_of_ble_eq_true rfl) dX6_errs_42 rfl (fun r_42 τ_42 h_42 => ?_)
      obtain ⟨rfl, rfl⟩ := h_42
      have hw : τ.1 51 (4 + 6 * j + 3) = (sp_go (S.1 0).1 (S.1 0).2 (i + 1)).2 j 3 := hI.2.2.1.2.2.2 j hjn 3 (by decide)
      have hw0 : τ_16.1 51 (4 + 6 * j + 3) = (S.1 0).1.2 j 3 := hRt.2.2.2 j hjn 3 (by decide)
      obtain ⟨ma, mb, m1, m2, m3, m4⟩ := sp_go_mono hv.1 hjn (i + 1) (by omega)
      refine hg_iload2 (pc' := 46) cx dX6_errs_45 rfl ?_
      refine hg_icmp_ne (pc' := 49) cx 59 dX6_errs_46 (by decide) rfl (fun c_46 => ?_) (fun c_46 => ?_)
      ·
        refine hg_aload0 (pc' := 60) cx dX6_errs_59 rfl ?_
        refine cv_X6_123 (pc' := 63) cx (K_X6_putsBack l E _ ) ⟨rfl, rfl, Nat.le_of_ble_eq_true rfl, Nat.le_of_ble_eq_true rfl⟩ (Nat.le_of_ble_eq_true rfl) dX6_errs_60 rfl (fun τ_60 h_60 => ?_)
        obtain ⟨hT9, hT8⟩ := hI.2.1.back h_60.1 h_60.2
        obtain ⟨q1, q2⟩ := hc.th hT9 hT8
        refine hg_iload3 (pc' := 64) cx dX6_errs_63 rfl ?_
        refine hg_sipush (pc' := 67) cx (nI 200) dX6_errs_64 (by decide) rfl ?_
        refine hg_icmp_le (pc' := 70) cx 79 dX6_errs_67 (by decide) rfl (fun c_67 => ?_) (fun c_67 => ?_)
        ·
          refine hg_iload3 (pc' := 80) cx dX6_errs_79 rfl ?_
          refine hg_iret cx dX6_errs_80 ⟨_, rfl, ?_⟩
          rw [hw, hw0, m3, m4] at c_46
          have hne : ma ≠ mb := fun z => c_46 (by rw [z])
          simp only [op_errs, sp_hz, c_5, hcl, if_false]
          rw [hI.2.2.2, show 200 - i = (199 - i) + 1 by omega, sp_first_yes (decide_eq_true (by rw [m3, m4]; exact nI_lt (by omega) (by omega)))]
          exact ⟨rfl, q1, q2⟩
        ·
          exact absurd (nI_le (b := 200) hj2 (by omega)) c_67
      ·
        refine hg_aload0 (pc' := 50) cx dX6_errs_49 rfl ?_
        refine cv_X6_107 (pc' := 53) cx (K_X6_goes l E _ (sp_go (S.1 0).1 (S.1 0).2 (i + 1)) (S.1 0).2 hI.2.2.1 (99999 + (i + 1)) (by omega) (vs_go hv.1 (i + 1) (by omega))) ⟨rfl, rfl, Nat.le_of_ble_eq_true rfl, Nat.le_of_ble_eq_true rfl⟩ (Nat.le_of_ble_eq_true rfl) dX6_errs_50 rfl (fun τ_50 h_50 => ?_)
        skip
        refine hg_iinc3p (pc' := 56) cx rfl dX6_errs_53 rfl ?_
        refine hg_goto cx 32 dX6_errs_56 (by decide) ?_
        rw [nI_1]
        refine hg_nm (fun μ hμ => ?_)
        refine ih_32 (μ, i + 1) ?_ ?_
        · subst hμ
          try dsimp only
          rw [hw, hw0, m3, m4] at c_46
          refine ⟨by omega, hI.2.1.fr h_50.2, h_50.1, ?_⟩
          have : ma = mb := by
            have := congrArg Int32.toNatClampNeg c_46
            rw [nI_clamp (by omega), nI_clamp (by omega)] at this
            omega
          rw [hI.2.2.2, show 200 - i = (200 - (i + 1)) + 1 by omega, sp_first_no (decide_eq_false (by rw [m3, m4, this]; exact Int32.lt_irrefl))]
        · show 200 - (i + 1) < 200 - i
          omega
  ·
    refine hg_aload0 (pc' := 9) cx dX6_errs_8 rfl ?_
    refine hg_ldc (pc' := 11) cx kc_X6_38 dX6_errs_9 rfl ?_
    refine cv_X6_40 (pc' := 14) cx (K_X6_finds l E _ (-1000000001) 0 (by decide) (by decide)) ⟨rfl, rfl, Nat.le_of_ble_eq_true rfl, Nat.le_of_ble_eq_true rfl⟩ (Nat.le_of_ble_eq_true rfl) dX6_errs_11 rfl (fun r_11 τ_11 h_11 => ?_)
    obtain ⟨rfl, rfl⟩ := h_11
    refine hg_iret cx dX6_errs_14 ⟨_, rfl, ?_⟩
    simp only [op_errs, sp_hz, c_5, not_true_eq_false, not_false_eq_true, true_or, or_true, false_or, or_false, or_self, if_true, if_false, and_self]
    exact hc.find (by decide) (by decide)
