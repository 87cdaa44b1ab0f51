def ck_T (σ : hg_Mem) (f : Nat → Int32) (L : Nat) : Prop := σ.1 7 1 = nI L ∧ ∀ k, k < 120 → σ.1 8 k = f k
def ck_At (σ : hg_Mem) (f : Nat → Int32) (L b : Nat) : Prop := σ.1 9 1 = nI (sp_c f L b) ∧ σ.1 9 2 = nI b ∧ σ.1 9 3 = nI (sp_e f L b) ∧ (sp_c f L b = 2 → σ.1 9 4 = sp_v f L b)
def ck_Fr (σ τ : hg_Mem) : Prop := τ.2 = σ.2 ∧ ∀ i, i ≠ 9 → τ.1 i = σ.1 i
def ck_Fr2 (σ τ : hg_Mem) : Prop := τ.2 = σ.2 ∧ ∀ i, i ≠ 9 → i ≠ 2 → (i < 30 ∨ 40 ≤ i) → τ.1 i = σ.1 i
theorem ck_Fr2.rf (σ : hg_Mem) : ck_Fr2 σ σ := ⟨rfl, fun _ _ _ _ => rfl⟩
theorem ck_Fr2.tr {σ τ ρ : hg_Mem} (a : ck_Fr2 σ τ) (b : ck_Fr2 τ ρ) : ck_Fr2 σ ρ := ⟨b.1.trans a.1, fun i h1 h2 h3 => (b.2 i h1 h2 h3).trans (a.2 i h1 h2 h3)⟩
theorem ck_Fr.two {σ τ : hg_Mem} (a : ck_Fr σ τ) : ck_Fr2 σ τ := ⟨a.1, fun i h1 _ _ => a.2 i h1⟩
theorem ck_T.fr {σ τ : hg_Mem} {f : Nat → Int32} {L : Nat} (h : ck_T σ f L) (hF : ck_Fr2 σ τ) : ck_T τ f L := by
  refine ⟨?_, fun k hk => ?_⟩
  · rw [hF.2 7 (by decide) (by decide) (by decide)]; exact h.1
  · rw [hF.2 8 (by decide) (by decide) (by decide)]; exact h.2 k hk
theorem ck_get (σ : hg_Mem) (i k : Nat) (v : Int32) (j : Nat) : (hg_sI σ i k v).1 i j = if j = k then v else σ.1 i j := by
  rw [hg_sI_eq, hg_sH_at]; rfl
theorem ck_oth (σ : hg_Mem) {i j : Nat} (k : Nat) (v : Int32) (h : j ≠ i) : (hg_sI σ i k v).1 j = σ.1 j := by rw [hg_sI_eq, hg_sH_ne _ _ h]
theorem ck_put9 (σ : hg_Mem) (k : Nat) (v : Int32) : ck_Fr σ (hg_sI σ 9 k v) := ⟨rfl, fun i hi => ck_oth σ k v hi⟩
theorem ck_Rep {σ τ : hg_Mem} {C : sp_C} {n : Nat} (h : sp_Rep σ 2 C n) (hF : ck_Fr σ τ) : sp_Rep τ 2 C n := h.keep (fun k _ => by rw [hF.2 2 (by decide)]) (fun x _ k _ => by rw [hF.2 _ (by omega)])
theorem ck_At.oth {σ : hg_Mem} {f : Nat → Int32} {L b : Nat} (h : ck_At σ f L b) {τ : hg_Mem} (h9 : τ.1 9 = σ.1 9) : ck_At τ f L b := by
  unfold ck_At at *; rw [h9]; exact h
theorem sp_c_le (f : Nat → Int32) (L b : Nat) : sp_c f L b ≤ 4 := by
  rcases sp_TC f L b with ⟨h1, -⟩ | ⟨h1, -⟩ | ⟨h1, -⟩ | ⟨h1, -⟩ | ⟨h1, -⟩ <;> rw [h1] <;> decide
/-- an item's end -/
def ck_It (σ τ : hg_Mem) (r : Int32) (f : Nat → Int32) (L : Nat) (w : Bool × Nat × sp_C × Nat) : Prop :=
  ck_Fr2 σ τ ∧ ((w.1 = true ∧ r = 1 ∧ ck_At τ f L w.2.1 ∧ sp_Rep τ 2 w.2.2.1 w.2.2.2) ∨ (w.1 = false ∧ r = 0 ∧ τ.1 9 2 = nI w.2.1))
theorem ck_It.z {σ τ : hg_Mem} {r : Int32} {f : Nat → Int32} {L : Nat} {w : Bool × Nat × sp_C × Nat} (h : ck_It σ τ r f L w) : narrow .boolean (.int r) = .int r :=
  hg_zor (h.2.elim (fun z => Or.inr z.2.1) (fun z => Or.inl z.2.1))
theorem ck_It.fr {σ τ ρ : hg_Mem} {r : Int32} {f : Nat → Int32} {L : Nat} {w : Bool × Nat × sp_C × Nat} (hF : ck_Fr2 σ τ) (h : ck_It τ ρ r f L w) : ck_It σ ρ r f L w := ⟨hF.tr h.1, h.2⟩
theorem sp_num_lt {f : Nat → Int32} {L b n : Nat} (hn : n ≤ 10) (h : sp_num f L b (nI n - 1)) : ∃ j, j < n ∧ sp_v f L b = nI j := by
  obtain ⟨w, hw, ew⟩ := sp_v_nat h.1
  have h2 := h.2
  rw [ew] at h2
  rcases Nat.eq_zero_or_pos n with rfl | hp
  · exact absurd (Int32.lt_of_le_of_lt h2 (by decide)) (nI_pos (by omega))
  · obtain ⟨k, rfl⟩ : ∃ k, n = k + 1 := ⟨n - 1, by omega⟩
    rw [nI_pred] at h2
    have := (nI_leI (by omega) (by omega)).mp h2
    exact ⟨w, by omega, ew⟩
def sp_iw (k : Nat) : Nat := if k = 0 then 5 else k - 1
theorem sp_iw_ok : ∀ k, k < 6 → sp_iw k < 14 ∧ sp_wi (sp_iw k) = k := by decide +kernel
theorem sp_lob_it (f : Nat → Int32) {L : Nat} : ∀ k i b C n, b ≤ L → (sp_lob f L k i b C n).2.1 ≤ L ∧ (sp_lob f L k i b C n).2.2.1 ≤ i + k := by
  intro k
  induction k with
  | zero => intro i b C n hb; exact ⟨hb, Nat.le_refl _⟩
  | succ k ih =>
    intro i b C n hb
    obtain ⟨-, q2, -⟩ := sp_item_ge f C n hb
    rw [sp_lob]
    split
    · exact ⟨q2, by dsimp only; omega⟩
    · split
      · exact ⟨q2, by dsimp only; omega⟩
      · split
        · obtain ⟨a1, a2⟩ := ih (i + 1) _ (sp_item f L b C n).2.2.1 (sp_item f L b C n).2.2.2 (sp_nx_le f q2)
          exact ⟨a1, by omega⟩
        · exact ⟨q2, by dsimp only; omega⟩
theorem cw_C.ck {σ τ : hg_Mem} {S : sp_S} (h : cw_C σ S) (hF : ck_Fr2 σ τ) : cw_C τ S ∧ cw_Fr σ τ := by
  obtain ⟨a, b, c, d, e, g, i⟩ := h
  have ne := hF.2
  refine ⟨⟨a.keep (fun k _ => by rw [ne 1 (by omega) (by omega) (by omega)]) (fun x _ k _ => by rw [ne _ (by omega) (by omega) (by omega)]), fun hk => (b hk).keep (fun k _ => by rw [ne 3 (by omega) (by omega) (by omega)]) (fun x _ k _ => by rw [ne _ (by omega) (by omega) (by omega)]), ?_, ?_, fun k hk => ?_, fun k hk => ?_, fun s hs => ?_⟩, fun j hj => ⟨ne j (by omega) (by omega) (by omega), by rw [hF.1]⟩⟩
  · rw [ne _ (by omega) (by omega) (by omega)]; exact c
  · rw [ne _ (by omega) (by omega) (by omega)]; exact d
  · rw [ne _ (by omega) (by omega) (by omega)]; exact e k hk
  · rw [ne _ (by omega) (by omega) (by omega)]; exact g k hk
  · rw [ne (12 + s) (by omega) (by omega) (by omega), hF.1]; exact i s hs
set_option maxHeartbeats 4000000 in
set_option maxRecDepth 100000 in
theorem K_X4_isAt (l : Launch) (E : hg_Wd) (σ : hg_Mem) (f : Nat → Int32) (L : Nat) (hL : L ≤ 120) (ht : ck_T σ f L) (q : Nat) (hq : q < 1000) (lo : Int32) (hi : Int32) : hg_C l E yX4_isAt cX4_isAt 4 (some .boolean) { frames := 0, cells := 0, slots := 0, locals := 0 } [.ref (hg_ad E 7), .int (nI q), .int lo, .int hi] σ (hg_pi (fun r τ => r = (if q < L ∧ lo ≤ f q ∧ f q ≤ hi then 1 else 0) ∧ σ = τ)) := by
  refine hg_intro (by decide) [some (.ref (hg_ad E 7)), some (.int (nI q)), some (.int lo), some (.int hi)] rfl (Nat.le_of_ble_eq_true rfl) ?_
  intro p e s m args below meth c cx
  have cx : hg_Cx E p s m args meth c cX4_isAt 4 RX4 (some .boolean) := cx
  refine hg_iload1 (pc' := 1) cx dX4_isAt_0 rfl ?_
  refine hg_if_lt (pc' := 4) cx 36 dX4_isAt_1 (by decide) rfl (fun c_1 => ?_) (fun c_1 => ?_)
  ·
    exact absurd c_1 (nI_pos (by omega))
  ·
    refine hg_iload1 (pc' := 5) cx dX4_isAt_4 rfl ?_
    refine hg_aload0 (pc' := 6) cx dX4_isAt_5 rfl ?_
    refine gf_X4_15 (pc' := 9) cx dX4_isAt_6 rfl ?_
    refine hg_icmp_ge (pc' := 12) cx 36 dX4_isAt_9 (by decide) rfl (fun c_9 => ?_) (fun c_9 => ?_)
    ·
      have hk := hg_ge ht.1 (by omega) (by omega) c_9
      refine hg_iconst (pc' := 37) cx 0 dX4_isAt_36 (by decide) rfl ?_
      refine hg_zret cx rfl dX4_isAt_37 ⟨_, rfl, ?_⟩
      exact ⟨by rw [if_neg (fun z => by omega)], rfl⟩
    ·
      have hk := hg_nge ht.1 (by omega) (by omega) c_9
      refine hg_aload0 (pc' := 13) cx dX4_isAt_12 rfl ?_
      refine gf_X4_9 (pc' := 16) cx dX4_isAt_13 rfl ?_
      refine hg_iload1 (pc' := 17) cx dX4_isAt_16 rfl ?_
      refine hg_iald2 (pc' := 18) cx (by decide) (hg_ceI8 E) (by first | assumption | omega | decide) (by decide) dX4_isAt_17 rfl ?_
      rw [ht.2 q (by omega)]
      refine hg_iload2 (pc' := 19) cx dX4_isAt_18 rfl ?_
      refine hg_icmp_lt (pc' := 22) cx 36 dX4_isAt_19 (by decide) rfl (fun c_19 => ?_) (fun c_19 => ?_)
      ·
        refine hg_iconst (pc' := 37) cx 0 dX4_isAt_36 (by decide) rfl ?_
        refine hg_zret cx rfl dX4_isAt_37 ⟨_, rfl, ?_⟩
        exact ⟨by rw [if_neg (fun z => Int32.not_lt.mpr z.2.1 c_19)], rfl⟩
      ·
        refine hg_aload0 (pc' := 23) cx dX4_isAt_22 rfl ?_
        refine gf_X4_9 (pc' := 26) cx dX4_isAt_23 rfl ?_
        refine hg_iload1 (pc' := 27) cx dX4_isAt_26 rfl ?_
        refine hg_iald2 (pc' := 28) cx (by decide) (hg_ceI8 E) (by first | assumption | omega | decide) (by decide) dX4_isAt_27 rfl ?_
        rw [ht.2 q (by omega)]
        refine hg_iload3 (pc' := 29) cx dX4_isAt_28 rfl ?_
        refine hg_icmp_gt (pc' := 32) cx 36 dX4_isAt_29 (by decide) rfl (fun c_29 => ?_) (fun c_29 => ?_)
        ·
          refine hg_iconst (pc' := 37) cx 0 dX4_isAt_36 (by decide) rfl ?_
          refine hg_zret cx rfl dX4_isAt_37 ⟨_, rfl, ?_⟩
          exact ⟨by rw [if_neg (fun z => Int32.not_lt.mpr z.2.2 c_29)], rfl⟩
        ·
          refine hg_iconst (pc' := 33) cx 1 dX4_isAt_32 (by decide) rfl ?_
          refine hg_goto cx 37 dX4_isAt_33 (by decide) ?_
          refine hg_zret cx rfl dX4_isAt_37 ⟨_, rfl, ?_⟩
          exact ⟨by rw [if_pos ⟨hk, Int32.not_lt.mp c_19, Int32.not_lt.mp c_29⟩], rfl⟩
set_option maxHeartbeats 4000000 in
set_option maxRecDepth 100000 in
theorem K_X4_endOfRun (l : Launch) (E : hg_Wd) (σ : hg_Mem) (f : Nat → Int32) (L : Nat) (hL : L ≤ 120) (ht : ck_T σ f L) (q : Nat) (hq : q ≤ L) (lo : Int32) (hi : Int32) : hg_C l E yX4_endOfRun cX4_endOfRun 5 (some .int) { frames := 0, cells := 0, slots := 0, locals := 0 } [.ref (hg_ad E 7), .int (nI q), .int lo, .int hi] σ (hg_pi (fun r τ => r = nI (sp_eor f lo hi (L - q) q) ∧ σ = τ)) := by
  refine hg_intro (by decide) [some (.ref (hg_ad E 7)), some (.int (nI q)), some (.int lo), some (.int hi), none] rfl (Nat.le_of_ble_eq_true rfl) ?_
  intro p e s m args below meth c cx
  have cx : hg_Cx E p s m args meth c cX4_endOfRun 5 RX4 (some .int) := cx
  refine hg_iload1 (pc' := 1) cx dX4_endOfRun_0 rfl ?_
  refine hg_if_ge (pc' := 4) cx 8 dX4_endOfRun_1 (by decide) rfl (fun c_1 => ?_) (fun c_1 => ?_)
  ·
    refine hg_iload1 (pc' := 9) cx dX4_endOfRun_8 rfl ?_
    refine hg_istore4 (pc' := 11) cx rfl dX4_endOfRun_9 rfl ?_
    refine hg_loop (α := Nat) (I := fun z => q ≤ z ∧ z ≤ L ∧ sp_eor f lo hi (L - q) q = sp_eor f lo hi (L - z) z) (P := fun z => hg_G E p l e { frames := 0, cells := 0, slots := 0, locals := 0 } s m args below meth c 5 (MQ below (hg_Qc E (hg_pi (fun r τ => r = nI (sp_eor f lo hi (L - q) q) ∧ σ = τ))) args s 0 0 (hg_AW E)) σ 11 [some (.ref (hg_ad E 7)), some (.int (nI q)), some (.int lo), some (.int hi), some (.int (nI z))] []) (fun z => L - z) ?_ (q) ?_
    rotate_left
    · try dsimp only
      exact ⟨Nat.le_refl _, hq, rfl⟩
    rintro i hI ih_11
    try dsimp only at hI ih_11 ⊢
    have hiL := hI.2.1
    refine hg_iload4 (pc' := 13) cx dX4_endOfRun_11 rfl ?_
    refine hg_aload0 (pc' := 14) cx dX4_endOfRun_13 rfl ?_
    refine gf_X4_15 (pc' := 17) cx dX4_endOfRun_14 rfl ?_
    refine hg_icmp_ge (pc' := 20) cx 48 dX4_endOfRun_17 (by decide) rfl (fun c_17 => ?_) (fun c_17 => ?_)
    ·
      have hk := hg_ge ht.1 (by omega) (by omega) c_17
      refine hg_iload4 (pc' := 50) cx dX4_endOfRun_48 rfl ?_
      refine hg_iret cx dX4_endOfRun_50 ⟨_, rfl, ?_⟩
      exact ⟨by rw [hI.2.2, show L - i = 0 by omega, sp_eor], rfl⟩
    ·
      have hk := hg_nge ht.1 (by omega) (by omega) c_17
      refine hg_aload0 (pc' := 21) cx dX4_endOfRun_20 rfl ?_
      refine gf_X4_9 (pc' := 24) cx dX4_endOfRun_21 rfl ?_
      refine hg_iload4 (pc' := 26) cx dX4_endOfRun_24 rfl ?_
      refine hg_iald2 (pc' := 27) cx (by decide) (hg_ceI8 E) (by first | assumption | omega | decide) (by decide) dX4_endOfRun_26 rfl ?_
      rw [ht.2 i (by omega)]
      refine hg_iload2 (pc' := 28) cx dX4_endOfRun_27 rfl ?_
      refine hg_icmp_lt (pc' := 31) cx 48 dX4_endOfRun_28 (by decide) rfl (fun c_28 => ?_) (fun c_28 => ?_)
      ·
        refine hg_iload4 (pc' := 50) cx dX4_endOfRun_48 rfl ?_
        refine hg_iret cx dX4_endOfRun_50 ⟨_, rfl, ?_⟩
        exact ⟨by rw [hI.2.2, show L - i = (L - (i + 1)) + 1 by omega, sp_eor, if_neg (fun z => Int32.not_lt.mpr z.1 c_28)], rfl⟩
      ·
        refine hg_aload0 (pc' := 32) cx dX4_endOfRun_31 rfl ?_
        refine gf_X4_9 (pc' := 35) cx dX4_endOfRun_32 rfl ?_
        refine hg_iload4 (pc' := 37) cx dX4_endOfRun_35 rfl ?_
        refine hg_iald2 (pc' := 38) cx (by decide) (hg_ceI8 E) (by first | assumption | omega | decide) (by decide) dX4_endOfRun_37 rfl ?_
        rw [ht.2 i (by omega)]
        refine hg_iload3 (pc' := 39) cx dX4_endOfRun_38 rfl ?_
        refine hg_icmp_gt (pc' := 42) cx 48 dX4_endOfRun_39 (by decide) rfl (fun c_39 => ?_) (fun c_39 => ?_)
        ·
          refine hg_iload4 (pc' := 50) cx dX4_endOfRun_48 rfl ?_
          refine hg_iret cx dX4_endOfRun_50 ⟨_, rfl, ?_⟩
          exact ⟨by rw [hI.2.2, show L - i = (L - (i + 1)) + 1 by omega, sp_eor, if_neg (fun z => Int32.not_lt.mpr z.2 c_39)], rfl⟩
        ·
          refine hg_iinc4p (pc' := 45) cx rfl dX4_endOfRun_42 rfl ?_
          refine hg_goto cx 11 dX4_endOfRun_45 (by decide) ?_
          rw [nI_1]
          refine ih_11 (i + 1) ?_ ?_
          · try dsimp only
            refine ⟨by omega, by omega, ?_⟩
            rw [hI.2.2, show L - i = (L - (i + 1)) + 1 by omega, sp_eor, if_pos ⟨Int32.not_lt.mp c_28, Int32.not_lt.mp c_39⟩]
          · omega
  ·
    exact absurd (nI_pos' (by omega)) c_1
set_option maxHeartbeats 4000000 in
set_option maxRecDepth 100000 in
theorem K_X0_valueOfDigits (l : Launch) (E : hg_Wd) (σ : hg_Mem) (f : Nat → Int32) (L : Nat) (hL : L ≤ 120) (ht : ck_T σ f L) (b : Nat) (en : Nat) (hbe : b ≤ en) (hel : en ≤ L) (h3 : σ.1 9 2 = nI b) (h4 : σ.1 9 3 = nI en) : hg_C l E yX0_valueOfDigits cX0_valueOfDigits 3 (some .int) { frames := 0, cells := 0, slots := 0, locals := 0 } [.ref (hg_ad E 9)] σ (hg_pi (fun r τ => r = sp_val f (en - b) b 0 ∧ σ = τ)) := by
  refine hg_intro (by decide) [some (.ref (hg_ad E 9)), none, none] rfl (Nat.le_of_ble_eq_true rfl) ?_
  intro p e s m args below meth c cx
  have cx : hg_Cx E p s m args meth c cX0_valueOfDigits 3 RX0 (some .int) := cx
  refine hg_iconst (pc' := 1) cx 0 dX0_valueOfDigits_0 (by decide) rfl ?_
  refine hg_istore1 (pc' := 2) cx rfl dX0_valueOfDigits_1 rfl ?_
  refine hg_aload0 (pc' := 3) cx dX0_valueOfDigits_2 rfl ?_
  refine gf_X0_29 (pc' := 6) cx dX0_valueOfDigits_3 rfl ?_
  rw [h3]
  refine hg_istore2 (pc' := 7) cx rfl dX0_valueOfDigits_6 rfl ?_
  refine hg_loop (α := Int32 × Nat) (I := fun z => b ≤ z.2 ∧ z.2 ≤ en ∧ sp_val f (en - b) b 0 = sp_val f (en - z.2) z.2 z.1) (P := fun z => hg_G E p l e { frames := 0, cells := 0, slots := 0, locals := 0 } s m args below meth c 3 (MQ below (hg_Qc E (hg_pi (fun r τ => r = sp_val f (en - b) b 0 ∧ σ = τ))) args s 0 0 (hg_AW E)) σ 7 [some (.ref (hg_ad E 9)), some (.int z.1), some (.int (nI z.2))] []) (fun z => en - z.2) ?_ (0, b) ?_
  rotate_left
  · try dsimp only
    exact ⟨Nat.le_refl _, hbe, rfl⟩
  rintro ⟨v, i⟩ hI ih_7
  try dsimp only at hI ih_7 ⊢
  have hiL := hI.2.1
  refine hg_iload2 (pc' := 8) cx dX0_valueOfDigits_7 rfl ?_
  refine hg_aload0 (pc' := 9) cx dX0_valueOfDigits_8 rfl ?_
  refine gf_X0_18 (pc' := 12) cx dX0_valueOfDigits_9 rfl ?_
  refine hg_icmp_ge (pc' := 15) cx 57 dX0_valueOfDigits_12 (by decide) rfl (fun c_12 => ?_) (fun c_12 => ?_)
  ·
    have hk := hg_ge h4 (by omega) (by omega) c_12
    refine hg_iload1 (pc' := 58) cx dX0_valueOfDigits_57 rfl ?_
    refine hg_iret cx dX0_valueOfDigits_58 ⟨_, rfl, ?_⟩
    exact ⟨by rw [hI.2.2, show en - i = 0 by omega, sp_val], rfl⟩
  ·
    have hk := hg_nge h4 (by omega) (by omega) c_12
    refine hg_iload2 (pc' := 16) cx dX0_valueOfDigits_15 rfl ?_
    refine hg_aload0 (pc' := 17) cx dX0_valueOfDigits_16 rfl ?_
    refine gf_X0_12 (pc' := 20) cx dX0_valueOfDigits_17 rfl ?_
    refine gf_X0_35 (pc' := 23) cx dX0_valueOfDigits_20 rfl ?_
    refine hg_icmp_ge (pc' := 26) cx 57 dX0_valueOfDigits_23 (by decide) rfl (fun c_23 => ?_) (fun c_23 => ?_)
    ·
      have hk2 := hg_ge ht.1 (by omega) (by omega) c_23
      refine hg_iload1 (pc' := 58) cx dX0_valueOfDigits_57 rfl ?_
      refine hg_iret cx dX0_valueOfDigits_58 ⟨_, rfl, ?_⟩
      exact ⟨by omega, rfl⟩
    ·
      refine hg_iload1 (pc' := 27) cx dX0_valueOfDigits_26 rfl ?_
      refine hg_sipush (pc' := 30) cx 1000 dX0_valueOfDigits_27 (by decide) rfl ?_
      refine hg_icmp_ge (pc' := 33) cx 57 dX0_valueOfDigits_30 (by decide) rfl (fun c_30 => ?_) (fun c_30 => ?_)
      ·
        refine hg_iload1 (pc' := 58) cx dX0_valueOfDigits_57 rfl ?_
        refine hg_iret cx dX0_valueOfDigits_58 ⟨_, rfl, ?_⟩
        exact ⟨by rw [hI.2.2, sp_val_big f (Int32.not_lt.mpr c_30)], rfl⟩
      ·
        refine hg_iload1 (pc' := 34) cx dX0_valueOfDigits_33 rfl ?_
        refine hg_bipush (pc' := 36) cx 10 dX0_valueOfDigits_34 (by decide) rfl ?_
        refine hg_imul (pc' := 37) cx dX0_valueOfDigits_36 rfl ?_
        refine hg_aload0 (pc' := 38) cx dX0_valueOfDigits_37 rfl ?_
        refine gf_X0_12 (pc' := 41) cx dX0_valueOfDigits_38 rfl ?_
        refine gf_X0_154 (pc' := 44) cx dX0_valueOfDigits_41 rfl ?_
        refine hg_iload2 (pc' := 45) cx dX0_valueOfDigits_44 rfl ?_
        refine hg_iald2 (pc' := 46) cx (by decide) (hg_ceI8 E) (by first | assumption | omega | decide) (by decide) dX0_valueOfDigits_45 rfl ?_
        rw [ht.2 i (by omega)]
        refine hg_iadd (pc' := 47) cx dX0_valueOfDigits_46 rfl ?_
        refine hg_bipush (pc' := 49) cx 48 dX0_valueOfDigits_47 (by decide) rfl ?_
        refine hg_isub (pc' := 50) cx dX0_valueOfDigits_49 rfl ?_
        refine hg_istore1 (pc' := 51) cx rfl dX0_valueOfDigits_50 rfl ?_
        refine hg_iinc2p (pc' := 54) cx rfl dX0_valueOfDigits_51 rfl ?_
        refine hg_goto cx 7 dX0_valueOfDigits_54 (by decide) ?_
        rw [nI_1]
        refine ih_7 (_, i + 1) ?_ ?_
        · try dsimp only
          refine ⟨by omega, by omega, ?_⟩
          rw [hI.2.2, show en - i = (en - (i + 1)) + 1 by omega, sp_val, if_pos (Int32.not_le.mp c_30)]
        · show en - (i + 1) < en - i
          omega
set_option maxHeartbeats 4000000 in
set_option maxRecDepth 100000 in
theorem K_X0_next (l : Launch) (E : hg_Wd) (σ : hg_Mem) (f : Nat → Int32) (L : Nat) (hL : L ≤ 120) (ht : ck_T σ f L) (en : Nat) (hen : en ≤ L) (h4 : σ.1 9 3 = nI en) : hg_C l E yX0_next cX0_next 1 none { frames := 1, cells := 0, slots := 0, locals := 24 } [.ref (hg_ad E 9)] σ (hg_pv (fun τ => ck_At τ f L (sp_b f L en) ∧ ck_Fr σ τ)) := by
  refine hg_intro (by decide) [some (.ref (hg_ad E 9))] rfl (Nat.le_of_ble_eq_true rfl) ?_
  intro p e s m args below meth c cx
  have cx : hg_Cx E p s m args meth c cX0_next 1 RX0 none := cx
  refine hg_aload0 (pc' := 1) cx dX0_next_0 rfl ?_
  refine hg_aload0 (pc' := 2) cx dX0_next_1 rfl ?_
  refine gf_X0_12 (pc' := 5) cx dX0_next_2 rfl ?_
  refine hg_aload0 (pc' := 6) cx dX0_next_5 rfl ?_
  refine gf_X0_18 (pc' := 9) cx dX0_next_6 rfl ?_
  rw [h4]
  refine hg_bipush (pc' := 11) cx 32 dX0_next_9 (by decide) rfl ?_
  refine hg_bipush (pc' := 13) cx 32 dX0_next_11 (by decide) rfl ?_
  refine cv_X0_147 (pc' := 16) cx (K_X4_endOfRun l E _ f L hL ht en hen 32 32) ⟨rfl, rfl, Nat.le_of_ble_eq_true rfl, Nat.le_of_ble_eq_true rfl⟩ (Nat.le_of_ble_eq_true rfl) dX0_next_13 rfl (fun r_13 τ_13 h_13 => ?_)
  obtain ⟨rfl, rfl⟩ := h_13
  have hbL := sp_b_le f hen
  rw [show sp_eor f 32 32 (L - en) en = sp_b f L en from rfl]
  generalize sp_b f L en = b at hbL ⊢
  refine pf_X0_29 (pc' := 19) cx dX0_next_16 rfl ?_
  refine hg_aload0 (pc' := 20) cx dX0_next_19 rfl ?_
  refine hg_aload0 (pc' := 21) cx dX0_next_20 rfl ?_
  refine gf_X0_29 (pc' := 24) cx dX0_next_21 rfl ?_
  rw [ck_get, if_pos rfl]
  refine pf_X0_18 (pc' := 27) cx dX0_next_24 rfl ?_
  refine hg_nm (fun ω hω => ?_)
  have w3 : ω.1 9 2 = nI b := by rw [hω]; simp (decide := true) only [ck_get, if_true, if_false]
  have w4 : ω.1 9 3 = nI b := by rw [hω]; simp (decide := true) only [ck_get, if_true, if_false]
  have hωF : ck_Fr σ ω := by rw [hω]; exact ⟨rfl, fun i hi => by simp only [ck_oth _ _ _ hi]⟩
  have htω := ht.fr hωF.two
  clear hω
  refine hg_aload0 (pc' := 28) cx dX0_next_27 rfl ?_
  refine gf_X0_29 (pc' := 31) cx dX0_next_28 rfl ?_
  rw [w3]
  refine hg_aload0 (pc' := 32) cx dX0_next_31 rfl ?_
  refine gf_X0_12 (pc' := 35) cx dX0_next_32 rfl ?_
  refine gf_X0_35 (pc' := 38) cx dX0_next_35 rfl ?_
  rw [htω.1]
  refine hg_icmp_lt (pc' := 41) cx 49 dX0_next_38 (by decide) rfl (fun c_38 => ?_) (fun c_38 => ?_)
  ·
    have hbl : b < L := (nI_ltI (by omega) (by omega)).mp c_38
    refine hg_aload0 (pc' := 50) cx dX0_next_49 rfl ?_
    refine gf_X0_12 (pc' := 53) cx dX0_next_50 rfl ?_
    refine hg_aload0 (pc' := 54) cx dX0_next_53 rfl ?_
    refine gf_X0_29 (pc' := 57) cx dX0_next_54 rfl ?_
    rw [w3]
    refine hg_bipush (pc' := 59) cx 97 dX0_next_57 (by decide) rfl ?_
    refine hg_bipush (pc' := 61) cx 122 dX0_next_59 (by decide) rfl ?_
    refine cv_X0_143 (pc' := 64) cx (K_X4_isAt l E _ f L hL htω b (by omega) 97 122) ⟨rfl, rfl, Nat.le_of_ble_eq_true rfl, Nat.le_of_ble_eq_true rfl⟩ (Nat.le_of_ble_eq_true rfl) dX0_next_61 rfl (fun r_61 τ_61 h_61 => ?_)
    obtain ⟨rfl, rfl⟩ := h_61
    refine hg_if_eq (pc' := 67) cx 94 dX0_next_64 (by decide) rfl (fun c_64 => ?_) (fun c_64 => ?_)
    ·
      have n1 : ¬ (97 ≤ f b ∧ f b ≤ 122) := fun z => hg_b0 c_64 ⟨hbl, z⟩
      refine hg_aload0 (pc' := 95) cx dX0_next_94 rfl ?_
      refine gf_X0_12 (pc' := 98) cx dX0_next_95 rfl ?_
      refine hg_aload0 (pc' := 99) cx dX0_next_98 rfl ?_
      refine gf_X0_29 (pc' := 102) cx dX0_next_99 rfl ?_
      rw [w3]
      refine hg_bipush (pc' := 104) cx 48 dX0_next_102 (by decide) rfl ?_
      refine hg_bipush (pc' := 106) cx 57 dX0_next_104 (by decide) rfl ?_
      refine cv_X0_143 (pc' := 109) cx (K_X4_isAt l E _ f L hL htω b (by omega) 48 57) ⟨rfl, rfl, Nat.le_of_ble_eq_true rfl, Nat.le_of_ble_eq_true rfl⟩ (Nat.le_of_ble_eq_true rfl) dX0_next_106 rfl (fun r_106 τ_106 h_106 => ?_)
      obtain ⟨rfl, rfl⟩ := h_106
      refine hg_if_eq (pc' := 112) cx 147 dX0_next_109 (by decide) rfl (fun c_109 => ?_) (fun c_109 => ?_)
      ·
        have n2 : ¬ (48 ≤ f b ∧ f b ≤ 57) := fun z => hg_b0 c_109 ⟨hbl, z⟩
        refine hg_aload0 (pc' := 148) cx dX0_next_147 rfl ?_
        refine hg_aload0 (pc' := 149) cx dX0_next_148 rfl ?_
        refine gf_X0_12 (pc' := 152) cx dX0_next_149 rfl ?_
        refine hg_aload0 (pc' := 153) cx dX0_next_152 rfl ?_
        refine gf_X0_29 (pc' := 156) cx dX0_next_153 rfl ?_
        rw [w3]
        refine hg_bipush (pc' := 158) cx 59 dX0_next_156 (by decide) rfl ?_
        refine hg_bipush (pc' := 160) cx 59 dX0_next_158 (by decide) rfl ?_
        refine cv_X0_143 (pc' := 163) cx (K_X4_isAt l E _ f L hL htω b (by omega) 59 59) ⟨rfl, rfl, Nat.le_of_ble_eq_true rfl, Nat.le_of_ble_eq_true rfl⟩ (Nat.le_of_ble_eq_true rfl) dX0_next_160 rfl (fun r_160 τ_160 h_160 => ?_)
        obtain ⟨rfl, rfl⟩ := h_160
        refine hg_if_eq (pc' := 166) cx 170 dX0_next_163 (by decide) rfl (fun c_163 => ?_) (fun c_163 => ?_)
        ·
          have n3 : ¬ (59 ≤ f b ∧ f b ≤ 59) := fun z => hg_b0 c_163 ⟨hbl, z⟩
          refine hg_iconst (pc' := 171) cx (nI 4) dX0_next_170 (by decide) rfl ?_
          refine pf_X0_32 (pc' := 174) cx dX0_next_171 rfl ?_
          refine hg_aload0 (pc' := 175) cx dX0_next_174 rfl ?_
          refine hg_aload0 (pc' := 176) cx dX0_next_175 rfl ?_
          refine gf_X0_29 (pc' := 179) cx dX0_next_176 rfl ?_
          rw [ck_get, if_neg (by decide), w3]
          refine hg_iconst (pc' := 180) cx 1 dX0_next_179 (by decide) rfl ?_
          refine hg_iadd (pc' := 181) cx dX0_next_180 rfl ?_
          rw [nI_1]
          refine pf_X0_18 (pc' := 184) cx dX0_next_181 rfl ?_
          refine hg_vret cx dX0_next_184 ⟨rfl, ?_⟩
          have ec : sp_c f L b = 4 := by unfold sp_c; rw [if_neg (show ¬ L ≤ b by omega), if_neg n1, if_neg n2, if_neg n3]
          have ee : sp_e f L b = b + 1 := by unfold sp_e; rw [if_neg (show ¬ L ≤ b by omega), if_neg n1, if_neg n2]
          refine ⟨⟨?_, ?_, ?_, fun z => by omega⟩, ?_⟩
          · rw [ec]; simp (decide := true) only [ck_get, if_true, if_false]
          · simp (decide := true) only [ck_get, if_true, if_false]; exact w3
          · rw [ee]; simp (decide := true) only [ck_get, if_true, if_false]; first | done | exact w4
          · exact ⟨hωF.1, fun i hi => by simp only [ck_oth _ _ _ hi]; exact hωF.2 i hi⟩
        ·
          have y3 : 59 ≤ f b ∧ f b ≤ 59 := (hg_b1 c_163).2
          refine hg_iconst (pc' := 167) cx (nI 3) dX0_next_166 (by decide) rfl ?_
          refine hg_goto cx 171 dX0_next_167 (by decide) ?_
          refine pf_X0_32 (pc' := 174) cx dX0_next_171 rfl ?_
          refine hg_aload0 (pc' := 175) cx dX0_next_174 rfl ?_
          refine hg_aload0 (pc' := 176) cx dX0_next_175 rfl ?_
          refine gf_X0_29 (pc' := 179) cx dX0_next_176 rfl ?_
          rw [ck_get, if_neg (by decide), w3]
          refine hg_iconst (pc' := 180) cx 1 dX0_next_179 (by decide) rfl ?_
          refine hg_iadd (pc' := 181) cx dX0_next_180 rfl ?_
          rw [nI_1]
          refine pf_X0_18 (pc' := 184) cx dX0_next_181 rfl ?_
          refine hg_vret cx dX0_next_184 ⟨rfl, ?_⟩
          have ec : sp_c f L b = 3 := by unfold sp_c; rw [if_neg (show ¬ L ≤ b by omega), if_neg n1, if_neg n2, if_pos y3]
          have ee : sp_e f L b = b + 1 := by unfold sp_e; rw [if_neg (show ¬ L ≤ b by omega), if_neg n1, if_neg n2]
          refine ⟨⟨?_, ?_, ?_, fun z => by omega⟩, ?_⟩
          · rw [ec]; simp (decide := true) only [ck_get, if_true, if_false]
          · simp (decide := true) only [ck_get, if_true, if_false]; exact w3
          · rw [ee]; simp (decide := true) only [ck_get, if_true, if_false]; first | done | exact w4
          · exact ⟨hωF.1, fun i hi => by simp only [ck_oth _ _ _ hi]; exact hωF.2 i hi⟩
      ·
        have y2 : 48 ≤ f b ∧ f b ≤ 57 := (hg_b1 c_109).2
        refine hg_aload0 (pc' := 113) cx dX0_next_112 rfl ?_
        refine hg_iconst (pc' := 114) cx (nI 2) dX0_next_113 (by decide) rfl ?_
        refine pf_X0_32 (pc' := 117) cx dX0_next_114 rfl ?_
        refine hg_aload0 (pc' := 118) cx dX0_next_117 rfl ?_
        refine hg_aload0 (pc' := 119) cx dX0_next_118 rfl ?_
        refine gf_X0_12 (pc' := 122) cx dX0_next_119 rfl ?_
        refine hg_aload0 (pc' := 123) cx dX0_next_122 rfl ?_
        refine gf_X0_29 (pc' := 126) cx dX0_next_123 rfl ?_
        rw [ck_get, if_neg (by decide), w3]
        refine hg_bipush (pc' := 128) cx 48 dX0_next_126 (by decide) rfl ?_
        refine hg_bipush (pc' := 130) cx 57 dX0_next_128 (by decide) rfl ?_
        refine cv_X0_147 (pc' := 133) cx (K_X4_endOfRun l E _ f L hL (htω.fr (ck_put9 _ _ _).two) b (by omega) 48 57) ⟨rfl, rfl, Nat.le_of_ble_eq_true rfl, Nat.le_of_ble_eq_true rfl⟩ (Nat.le_of_ble_eq_true rfl) dX0_next_130 rfl (fun r_130 τ_130 h_130 => ?_)
        obtain ⟨rfl, rfl⟩ := h_130
        refine pf_X0_18 (pc' := 136) cx dX0_next_133 rfl ?_
        refine hg_aload0 (pc' := 137) cx dX0_next_136 rfl ?_
        refine hg_aload0 (pc' := 138) cx dX0_next_137 rfl ?_
        refine cv_X0_151 (pc' := 141) cx (K_X0_valueOfDigits l E _ f L hL ((htω.fr (ck_put9 _ _ _).two).fr (ck_put9 _ _ _).two) b (sp_eor f 48 57 (L - b) b) (sp_eor_ge _ _ _ _ _) (by have := sp_eor_le f 48 57 (L - b) b; omega) (by simp (decide := true) only [ck_get, if_true, if_false]; exact w3) (by simp (decide := true) only [ck_get, if_true, if_false])) ⟨rfl, rfl, Nat.le_of_ble_eq_true rfl, Nat.le_of_ble_eq_true rfl⟩ (Nat.le_of_ble_eq_true rfl) dX0_next_138 rfl (fun r_138 τ_138 h_138 => ?_)
        obtain ⟨rfl, rfl⟩ := h_138
        refine pf_X0_88 (pc' := 144) cx dX0_next_141 rfl ?_
        refine hg_goto cx 184 dX0_next_144 (by decide) ?_
        refine hg_vret cx dX0_next_184 ⟨rfl, ?_⟩
        have ec : sp_c f L b = 2 := by unfold sp_c; rw [if_neg (show ¬ L ≤ b by omega), if_neg n1, if_pos y2]
        have ee : sp_e f L b = sp_eor f 48 57 (L - b) b := by unfold sp_e; rw [if_neg (show ¬ L ≤ b by omega), if_neg n1, if_pos y2]
        refine ⟨⟨?_, ?_, ?_, fun _ => ?_⟩, ?_⟩
        · rw [ec]; simp (decide := true) only [ck_get, if_true, if_false]
        · simp (decide := true) only [ck_get, if_true, if_false]; exact w3
        · rw [ee]; simp (decide := true) only [ck_get, if_true, if_false]; first | done | exact w4
        · simp (decide := true) only [ck_get, if_true, if_false]
          unfold sp_v
          rw [ee]
        · exact ⟨hωF.1, fun i hi => by simp only [ck_oth _ _ _ hi]; exact hωF.2 i hi⟩
    ·
      have y1 : 97 ≤ f b ∧ f b ≤ 122 := (hg_b1 c_64).2
      refine hg_aload0 (pc' := 68) cx dX0_next_67 rfl ?_
      refine hg_iconst (pc' := 69) cx (nI 1) dX0_next_68 (by decide) rfl ?_
      refine pf_X0_32 (pc' := 72) cx dX0_next_69 rfl ?_
      refine hg_aload0 (pc' := 73) cx dX0_next_72 rfl ?_
      refine hg_aload0 (pc' := 74) cx dX0_next_73 rfl ?_
      refine gf_X0_12 (pc' := 77) cx dX0_next_74 rfl ?_
      refine hg_aload0 (pc' := 78) cx dX0_next_77 rfl ?_
      refine gf_X0_29 (pc' := 81) cx dX0_next_78 rfl ?_
      rw [ck_get, if_neg (by decide), w3]
      refine hg_bipush (pc' := 83) cx 97 dX0_next_81 (by decide) rfl ?_
      refine hg_bipush (pc' := 85) cx 122 dX0_next_83 (by decide) rfl ?_
      refine cv_X0_147 (pc' := 88) cx (K_X4_endOfRun l E _ f L hL (htω.fr (ck_put9 _ _ _).two) b (by omega) 97 122) ⟨rfl, rfl, Nat.le_of_ble_eq_true rfl, Nat.le_of_ble_eq_true rfl⟩ (Nat.le_of_ble_eq_true rfl) dX0_next_85 rfl (fun r_85 τ_85 h_85 => ?_)
      obtain ⟨rfl, rfl⟩ := h_85
      refine pf_X0_18 (pc' := 91) cx dX0_next_88 rfl ?_
      refine hg_goto cx 184 dX0_next_91 (by decide) ?_
      refine hg_vret cx dX0_next_184 ⟨rfl, ?_⟩
      have ec : sp_c f L b = 1 := by unfold sp_c; rw [if_neg (show ¬ L ≤ b by omega), if_pos y1]
      have ee : sp_e f L b = sp_eor f 97 122 (L - b) b := by unfold sp_e; rw [if_neg (show ¬ L ≤ b by omega), if_pos y1]
      refine ⟨⟨?_, ?_, ?_, fun z => by omega⟩, ?_⟩
      · rw [ec]; simp (decide := true) only [ck_get, if_true, if_false]
      · simp (decide := true) only [ck_get, if_true, if_false]; exact w3
      · rw [ee]; simp (decide := true) only [ck_get, if_true, if_false]; first | done | exact w4
      · exact ⟨hωF.1, fun i hi => by simp only [ck_oth _ _ _ hi]; exact hωF.2 i hi⟩
  ·
    have hbl : L ≤ b := hg_ngt (by omega) (by omega) c_38
    refine hg_aload0 (pc' := 42) cx dX0_next_41 rfl ?_
    refine hg_iconst (pc' := 43) cx (nI 0) dX0_next_42 (by decide) rfl ?_
    refine pf_X0_32 (pc' := 46) cx dX0_next_43 rfl ?_
    refine hg_goto cx 184 dX0_next_46 (by decide) ?_
    refine hg_vret cx dX0_next_184 ⟨rfl, ?_⟩
    have ec : sp_c f L b = 0 := by unfold sp_c; rw [if_pos hbl]
    have ee : sp_e f L b = b := by unfold sp_e; rw [if_pos hbl]
    refine ⟨⟨?_, ?_, ?_, fun z => by omega⟩, ?_⟩
    · rw [ec]; simp (decide := true) only [ck_get, if_true, if_false]
    · simp (decide := true) only [ck_get, if_true, if_false]; exact w3
    · rw [ee]; simp (decide := true) only [ck_get, if_true, if_false]; first | done | exact w4
    · exact ⟨hωF.1, fun i hi => by simp only [ck_oth _ _ _ hi]; exact hωF.2 i hi⟩
set_option maxHeartbeats 4000000 in
set_option maxRecDepth 100000 in
theorem K_X0_isNumberUpTo (l : Launch) (E : hg_Wd) (σ : hg_Mem) (f : Nat → Int32) (L : Nat) (hL : L ≤ 120) (ht : ck_T σ f L) (b : Nat) (hb : b ≤ L) (hA : ck_At σ f L b) (most : Int32) : hg_C l E yX0_isNumberUpTo cX0_isNumberUpTo 2 (some .boolean) { frames := 0, cells := 0, slots := 0, locals := 0 } [.ref (hg_ad E 9), .int most] σ (hg_pi (fun r τ => r = (if sp_num f L b most then 1 else 0) ∧ σ = τ)) := by
  refine hg_intro (by decide) [some (.ref (hg_ad E 9)), some (.int most)] rfl (Nat.le_of_ble_eq_true rfl) ?_
  intro p e s m args below meth c cx
  have cx : hg_Cx E p s m args meth c cX0_isNumberUpTo 2 RX0 (some .boolean) := cx
  refine hg_aload0 (pc' := 1) cx dX0_isNumberUpTo_0 rfl ?_
  refine gf_X0_32 (pc' := 4) cx dX0_isNumberUpTo_1 rfl ?_
  rw [hA.1]
  refine hg_iconst (pc' := 5) cx (nI 2) dX0_isNumberUpTo_4 (by decide) rfl ?_
  refine hg_icmp_ne (pc' := 8) cx 20 dX0_isNumberUpTo_5 (by decide) rfl (fun c_5 => ?_) (fun c_5 => ?_)
  ·
    refine hg_iconst (pc' := 21) cx 0 dX0_isNumberUpTo_20 (by decide) rfl ?_
    refine hg_zret cx rfl dX0_isNumberUpTo_21 ⟨_, rfl, ?_⟩
    exact ⟨by rw [if_neg (fun z => c_5 (by rw [z.1]))], rfl⟩
  ·
    have hc2 : sp_c f L b = 2 := (nI_eq (by have := sp_c_le f L b; omega) (by decide)).mp c_5
    refine hg_aload0 (pc' := 9) cx dX0_isNumberUpTo_8 rfl ?_
    refine gf_X0_88 (pc' := 12) cx dX0_isNumberUpTo_9 rfl ?_
    rw [hA.2.2.2 hc2]
    refine hg_iload1 (pc' := 13) cx dX0_isNumberUpTo_12 rfl ?_
    refine hg_icmp_gt (pc' := 16) cx 20 dX0_isNumberUpTo_13 (by decide) rfl (fun c_13 => ?_) (fun c_13 => ?_)
    ·
      refine hg_iconst (pc' := 21) cx 0 dX0_isNumberUpTo_20 (by decide) rfl ?_
      refine hg_zret cx rfl dX0_isNumberUpTo_21 ⟨_, rfl, ?_⟩
      exact ⟨by rw [if_neg (fun z => Int32.not_lt.mpr z.2 c_13)], rfl⟩
    ·
      refine hg_iconst (pc' := 17) cx 1 dX0_isNumberUpTo_16 (by decide) rfl ?_
      refine hg_goto cx 21 dX0_isNumberUpTo_17 (by decide) ?_
      refine hg_zret cx rfl dX0_isNumberUpTo_21 ⟨_, rfl, ?_⟩
      exact ⟨by rw [if_pos ⟨hc2, Int32.not_lt.mp c_13⟩], rfl⟩
set_option maxHeartbeats 4000000 in
set_option maxRecDepth 100000 in
theorem K_X0_isWord (l : Launch) (E : hg_Wd) (σ : hg_Mem) (f : Nat → Int32) (L : Nat) (hL : L ≤ 120) (ht : ck_T σ f L) (b : Nat) (hb : b ≤ L) (hA : ck_At σ f L b) (i : Nat) (hi : i < 14) : hg_C l E yX0_isWord cX0_isWord 4 (some .boolean) { frames := 5, cells := 0, slots := 0, locals := 106 } [.ref (hg_ad E 9), .ref (hg_sa E (1 + i))] σ (hg_pi (fun r τ => r = (if sp_T f L b = sp_wi i then 1 else 0) ∧ σ = τ)) := by
  refine hg_intro (by decide) [some (.ref (hg_ad E 9)), some (.ref (hg_sa E (1 + i))), none, none] rfl (Nat.le_of_ble_eq_true rfl) ?_
  intro p e s m args below meth c cx
  have cx : hg_Cx E p s m args meth c cX0_isWord 4 RX0 (some .boolean) := cx
  obtain ⟨hw, el, eb⟩ := sp_wi_ok i hi
  have hl7 := hg_sl7 i hi
  have hge := sp_e_ge f L b
  have hle := sp_e_le f hb
  refine hg_aload0 (pc' := 1) cx dX0_isWord_0 rfl ?_
  refine gf_X0_32 (pc' := 4) cx dX0_isWord_1 rfl ?_
  rw [hA.1]
  refine hg_iconst (pc' := 5) cx (nI 1) dX0_isWord_4 (by decide) rfl ?_
  refine hg_icmp_ne (pc' := 8) cx 24 dX0_isWord_5 (by decide) rfl (fun c_5 => ?_) (fun c_5 => ?_)
  ·
    refine hg_iconst (pc' := 25) cx 0 dX0_isWord_24 (by decide) rfl ?_
    refine hg_zret cx rfl dX0_isWord_25 ⟨_, rfl, ?_⟩
    exact ⟨by rw [if_neg (fun z => c_5 (by rw [((sp_T_word hw).mp z).1]))], rfl⟩
  ·
    have hc1 : sp_c f L b = 1 := (nI_eq (by have := sp_c_le f L b; omega) (by decide)).mp c_5
    refine hg_aload0 (pc' := 9) cx dX0_isWord_8 rfl ?_
    refine gf_X0_18 (pc' := 12) cx dX0_isWord_9 rfl ?_
    rw [hA.2.2.1]
    refine hg_aload0 (pc' := 13) cx dX0_isWord_12 rfl ?_
    refine gf_X0_29 (pc' := 16) cx dX0_isWord_13 rfl ?_
    rw [hA.2.1]
    refine hg_isub (pc' := 17) cx dX0_isWord_16 rfl ?_
    rw [pk_sub hge]
    refine hg_aload1 (pc' := 18) cx dX0_isWord_17 rfl ?_
    refine cv_X0_135 (pc' := 21) cx (by first | assumption | omega | decide) (by first | assumption | omega | decide) (K_J0_length_8abf5 l E _ i hi) ⟨rfl, rfl, Nat.le_of_ble_eq_true rfl, Nat.le_of_ble_eq_true rfl⟩ (Nat.le_of_ble_eq_true rfl) dX0_isWord_18 rfl (fun r_18 τ_18 h_18 => ?_)
    obtain ⟨rfl, rfl⟩ := h_18
    refine hg_icmp_eq (pc' := 24) cx 26 dX0_isWord_21 (by decide) rfl (fun c_21 => ?_) (fun c_21 => ?_)
    ·
      have hln : sp_e f L b - b = hg_sl i := (nI_eq (by omega) (by omega)).mp c_21
      refine hg_iconst (pc' := 27) cx (nI 0) dX0_isWord_26 (by decide) rfl ?_
      refine hg_istore2 (pc' := 28) cx rfl dX0_isWord_27 rfl ?_
      refine hg_drop3 ?_
      refine hg_loop (α := Nat) (I := fun z => z ≤ hg_sl i ∧ ∀ k, k < z → f (b + k) = hg_sb i k) (P := fun z => hg_G E p l e { frames := 5, cells := 0, slots := 0, locals := 106 } s m args below meth c 4 (MQ below (hg_Qc E (hg_pi (fun r τ => r = (if sp_T f L b = sp_wi i then 1 else 0) ∧ σ = τ))) args s 0 0 (hg_AW E)) σ 28 [some (.ref (hg_ad E 9)), some (.ref (hg_sa E (1 + i))), some (.int (nI z)), none] []) (fun z => hg_sl i - z) ?_ (0) ?_
      rotate_left
      · try dsimp only
        exact ⟨Nat.zero_le _, fun k hk => absurd hk (Nat.not_lt_zero _)⟩
      rintro j hI ih_28
      try dsimp only at hI ih_28 ⊢
      have hjl := hI.1
      refine hg_iload2 (pc' := 29) cx dX0_isWord_28 rfl ?_
      refine hg_aload1 (pc' := 30) cx dX0_isWord_29 rfl ?_
      refine cv_X0_135 (pc' := 33) cx (by first | assumption | omega | decide) (by first | assumption | omega | decide) (K_J0_length_8abf5 l E _ i hi) ⟨rfl, rfl, Nat.le_of_ble_eq_true rfl, Nat.le_of_ble_eq_true rfl⟩ (Nat.le_of_ble_eq_true rfl) dX0_isWord_30 rfl (fun r_30 τ_30 h_30 => ?_)
      obtain ⟨rfl, rfl⟩ := h_30
      refine hg_icmp_ge (pc' := 36) cx 68 dX0_isWord_33 (by decide) rfl (fun c_33 => ?_) (fun c_33 => ?_)
      ·
        have hj := hg_ge (n := hg_sl i) (j := j) rfl (by omega) (by omega) c_33
        refine hg_iconst (pc' := 69) cx 1 dX0_isWord_68 (by decide) rfl ?_
        refine hg_zret cx rfl dX0_isWord_69 ⟨_, rfl, ?_⟩
        exact ⟨by rw [if_pos ((sp_T_word hw).mpr ⟨hc1, by omega, fun k hk => by rw [hI.2 k (by omega), eb k (by omega)]⟩)], rfl⟩
      ·
        have hj := hg_nge (n := hg_sl i) (j := j) rfl (by omega) (by omega) c_33
        refine hg_aload1 (pc' := 37) cx dX0_isWord_36 rfl ?_
        refine hg_iload2 (pc' := 38) cx dX0_isWord_37 rfl ?_
        refine cv_X0_139 (pc' := 41) cx (by first | assumption | omega | decide) (by first | assumption | omega | decide) (K_J0_charAt_5068e l E _ i hi j hj) ⟨rfl, rfl, Nat.le_of_ble_eq_true rfl, Nat.le_of_ble_eq_true rfl⟩ (Nat.le_of_ble_eq_true rfl) dX0_isWord_38 rfl (fun r_38 τ_38 h_38 => ?_)
        obtain ⟨rfl, rfl⟩ := h_38
        refine hg_istore3 (pc' := 42) cx rfl dX0_isWord_41 rfl ?_
        refine hg_aload0 (pc' := 43) cx dX0_isWord_42 rfl ?_
        refine gf_X0_12 (pc' := 46) cx dX0_isWord_43 rfl ?_
        refine hg_aload0 (pc' := 47) cx dX0_isWord_46 rfl ?_
        refine gf_X0_29 (pc' := 50) cx dX0_isWord_47 rfl ?_
        rw [hA.2.1]
        refine hg_iload2 (pc' := 51) cx dX0_isWord_50 rfl ?_
        refine hg_iadd (pc' := 52) cx dX0_isWord_51 rfl ?_
        rw [nI_add]
        refine hg_iload3 (pc' := 53) cx dX0_isWord_52 rfl ?_
        refine hg_iload3 (pc' := 54) cx dX0_isWord_53 rfl ?_
        refine cv_X0_143 (pc' := 57) cx (K_X4_isAt l E _ f L hL ht (b + j) (by omega) _ _) ⟨rfl, rfl, Nat.le_of_ble_eq_true rfl, Nat.le_of_ble_eq_true rfl⟩ (Nat.le_of_ble_eq_true rfl) dX0_isWord_54 rfl (fun r_54 τ_54 h_54 => ?_)
        obtain ⟨rfl, rfl⟩ := h_54
        refine hg_if_ne (pc' := 60) cx 62 dX0_isWord_57 (by decide) rfl (fun c_57 => ?_) (fun c_57 => ?_)
        ·
          have q57 := hg_b1 c_57
          refine hg_iinc2p (pc' := 65) cx rfl dX0_isWord_62 rfl ?_
          refine hg_goto cx 28 dX0_isWord_65 (by decide) ?_
          refine hg_drop3 ?_
          rw [nI_1]
          refine ih_28 (j + 1) ?_ ?_
          · try dsimp only
            refine ⟨hj, fun k hk => ?_⟩
            by_cases q : k = j
            · rw [q]; exact Int32.le_antisymm q57.2.2 q57.2.1
            · exact hI.2 k (by omega)
          · omega
        ·
          have q57 := hg_b0 c_57
          refine hg_iconst (pc' := 61) cx 0 dX0_isWord_60 (by decide) rfl ?_
          refine hg_zret cx rfl dX0_isWord_61 ⟨_, rfl, ?_⟩
          exact ⟨by rw [if_neg (fun z => q57 ⟨by omega, by rw [((sp_T_word hw).mp z).2.2 j (by omega), eb j hj]; exact ⟨Int32.le_refl _, Int32.le_refl _⟩⟩)], rfl⟩
    ·
      refine hg_iconst (pc' := 25) cx 0 dX0_isWord_24 (by decide) rfl ?_
      refine hg_zret cx rfl dX0_isWord_25 ⟨_, rfl, ?_⟩
      exact ⟨by rw [if_neg (fun z => c_21 (by rw [((sp_T_word hw).mp z).2.1, Nat.add_sub_cancel_left, el]))], rfl⟩
set_option maxHeartbeats 4000000 in
set_option maxRecDepth 100000 in
theorem K_X0_takes (l : Launch) (E : hg_Wd) (σ : hg_Mem) (f : Nat → Int32) (L : Nat) (hL : L ≤ 120) (ht : ck_T σ f L) (b : Nat) (hb : b ≤ L) (hA : ck_At σ f L b) (i : Nat) (hi : i < 14) : hg_C l E yX0_takes cX0_takes 2 (some .boolean) { frames := 6, cells := 0, slots := 0, locals := 129 } [.ref (hg_ad E 9), .ref (hg_sa E (1 + i))] σ (hg_pi (fun r τ => (sp_T f L b = sp_wi i ∧ r = 1 ∧ ck_At τ f L (sp_nx f L b) ∧ ck_Fr σ τ) ∨ (¬ sp_T f L b = sp_wi i ∧ r = 0 ∧ σ = τ))) := by
  refine hg_intro (by decide) [some (.ref (hg_ad E 9)), some (.ref (hg_sa E (1 + i)))] rfl (Nat.le_of_ble_eq_true rfl) ?_
  intro p e s m args below meth c cx
  have cx : hg_Cx E p s m args meth c cX0_takes 2 RX0 (some .boolean) := cx
  refine hg_aload0 (pc' := 1) cx dX0_takes_0 rfl ?_
  refine hg_aload1 (pc' := 2) cx dX0_takes_1 rfl ?_
  refine cv_X0_120 (pc' := 5) cx (K_X0_isWord l E _ f L hL ht b hb hA i hi) ⟨rfl, rfl, Nat.le_of_ble_eq_true rfl, Nat.le_of_ble_eq_true rfl⟩ (Nat.le_of_ble_eq_true rfl) dX0_takes_2 rfl (fun r_2 τ_2 h_2 => ?_)
  obtain ⟨rfl, rfl⟩ := h_2
  refine hg_if_ne (pc' := 8) cx 10 dX0_takes_5 (by decide) rfl (fun c_5 => ?_) (fun c_5 => ?_)
  ·
    refine hg_aload0 (pc' := 11) cx dX0_takes_10 rfl ?_
    refine cv_X0_22 (pc' := 14) cx (K_X0_next l E _ f L hL ht (sp_e f L b) (sp_e_le f hb) hA.2.2.1) ⟨rfl, rfl, Nat.le_of_ble_eq_true rfl, Nat.le_of_ble_eq_true rfl⟩ (Nat.le_of_ble_eq_true rfl) dX0_takes_11 rfl (fun τ_11 h_11 => ?_)
    skip
    refine hg_iconst (pc' := 15) cx 1 dX0_takes_14 (by decide) rfl ?_
    refine hg_zret cx rfl dX0_takes_15 ⟨_, rfl, ?_⟩
    exact Or.inl ⟨hg_b1 c_5, rfl, h_11.1, h_11.2⟩
  ·
    refine hg_iconst (pc' := 9) cx 0 dX0_takes_8 (by decide) rfl ?_
    refine hg_zret cx rfl dX0_takes_9 ⟨_, rfl, ?_⟩
    exact Or.inr ⟨hg_b0 c_5, rfl, rfl⟩
set_option maxHeartbeats 4000000 in
set_option maxRecDepth 100000 in
theorem K_X0_nameOf (l : Launch) (E : hg_Wd) (σ : hg_Mem) (k : Nat) (hk : k < 6) : hg_C l E yX0_nameOf cX0_nameOf 1 (some (.object "java/lang/String")) { frames := 0, cells := 0, slots := 0, locals := 0 } [.int (nI k)] σ (hg_pr (fun r τ => r = hg_sa E (1 + sp_iw k) ∧ σ = τ)) := by
  refine hg_intro (by decide) [some (.int (nI k))] rfl (Nat.le_of_ble_eq_true rfl) ?_
  intro p e s m args below meth c cx
  have cx : hg_Cx E p s m args meth c cX0_nameOf 1 RX0 (some (.object "java/lang/String")) := cx
  refine hg_iload0 (pc' := 1) cx dX0_nameOf_0 rfl ?_
  refine hg_tsw cx [1, 2, 3, 4, 5] [36, 39, 42, 45, 48] 51 dX0_nameOf_1 (by decide) (by decide) (fun c_1 => ?_) (fun i v t hk ht c_1 => ?_)
  ·
    simp only [List.mem_cons, List.not_mem_nil, or_false, forall_eq_or_imp, forall_eq] at c_1
    refine hg_ldcS (pc' := 53) (i := 5) (tx := "hat") cx rfl dX0_nameOf_51 rfl ?_
    refine hg_aret cx dX0_nameOf_53 ⟨_, rfl, ?_⟩
    obtain rfl : k = 0 := by
      obtain ⟨n1, n2, n3, n4, n5⟩ := c_1
      rcases (show k = 0 ∨ k = 1 ∨ k = 2 ∨ k = 3 ∨ k = 4 ∨ k = 5 by omega) with h | h | h | h | h | h
      · exact h
      · subst h; exact absurd rfl n1
      · subst h; exact absurd rfl n2
      · subst h; exact absurd rfl n3
      · subst h; exact absurd rfl n4
      · subst h; exact absurd rfl n5
    exact ⟨rfl, rfl⟩
  ·
    match i, hk, ht with
    | 0, hk, ht =>
      cases hk; cases ht
      refine hg_ldcS (pc' := 38) (i := 0) (tx := "bowler") cx rfl dX0_nameOf_36 rfl ?_
      refine hg_aret cx dX0_nameOf_38 ⟨_, rfl, ?_⟩
      obtain rfl : k = 1 := (nI_eq (b := 1) (by omega) (by decide)).mp c_1
      exact ⟨rfl, rfl⟩
    | 1, hk, ht =>
      cases hk; cases ht
      refine hg_ldcS (pc' := 41) (i := 1) (tx := "cap") cx rfl dX0_nameOf_39 rfl ?_
      refine hg_aret cx dX0_nameOf_41 ⟨_, rfl, ?_⟩
      obtain rfl : k = 2 := (nI_eq (b := 2) (by omega) (by decide)).mp c_1
      exact ⟨rfl, rfl⟩
    | 2, hk, ht =>
      cases hk; cases ht
      refine hg_ldcS (pc' := 44) (i := 2) (tx := "topper") cx rfl dX0_nameOf_42 rfl ?_
      refine hg_aret cx dX0_nameOf_44 ⟨_, rfl, ?_⟩
      obtain rfl : k = 3 := (nI_eq (b := 3) (by omega) (by decide)).mp c_1
      exact ⟨rfl, rfl⟩
    | 3, hk, ht =>
      cases hk; cases ht
      refine hg_ldcS (pc' := 47) (i := 3) (tx := "derby") cx rfl dX0_nameOf_45 rfl ?_
      refine hg_aret cx dX0_nameOf_47 ⟨_, rfl, ?_⟩
      obtain rfl : k = 4 := (nI_eq (b := 4) (by omega) (by decide)).mp c_1
      exact ⟨rfl, rfl⟩
    | 4, hk, ht =>
      cases hk; cases ht
      refine hg_ldcS (pc' := 50) (i := 4) (tx := "beret") cx rfl dX0_nameOf_48 rfl ?_
      refine hg_aret cx dX0_nameOf_50 ⟨_, rfl, ?_⟩
      obtain rfl : k = 5 := (nI_eq (b := 5) (by omega) (by decide)).mp c_1
      exact ⟨rfl, rfl⟩
    | j + 5, hk, ht => exact absurd hk (by simp)
set_option maxHeartbeats 4000000 in
set_option maxRecDepth 100000 in
theorem K_X0_kindNamed (l : Launch) (E : hg_Wd) (σ : hg_Mem) (f : Nat → Int32) (L : Nat) (hL : L ≤ 120) (ht : ck_T σ f L) (b : Nat) (hb : b ≤ L) (hA : ck_At σ f L b) : hg_C l E yX0_kindNamed cX0_kindNamed 2 (some .int) { frames := 6, cells := 0, slots := 0, locals := 129 } [.ref (hg_ad E 9)] σ (hg_pi (fun r τ => r = (if sp_T f L b < 6 then nI (sp_T f L b) else -1) ∧ σ = τ)) := by
  refine hg_intro (by decide) [some (.ref (hg_ad E 9)), none] rfl (Nat.le_of_ble_eq_true rfl) ?_
  intro p e s m args below meth c cx
  have cx : hg_Cx E p s m args meth c cX0_kindNamed 2 RX0 (some .int) := cx
  refine hg_iconst (pc' := 1) cx (nI 0) dX0_kindNamed_0 (by decide) rfl ?_
  refine hg_istore1 (pc' := 2) cx rfl dX0_kindNamed_1 rfl ?_
  refine hg_loop (α := Nat) (I := fun z => z ≤ 6 ∧ ∀ v, v < z → ¬ sp_T f L b = v) (P := fun z => hg_G E p l e { frames := 6, cells := 0, slots := 0, locals := 129 } s m args below meth c 2 (MQ below (hg_Qc E (hg_pi (fun r τ => r = (if sp_T f L b < 6 then nI (sp_T f L b) else -1) ∧ σ = τ))) args s 0 0 (hg_AW E)) σ 2 [some (.ref (hg_ad E 9)), some (.int (nI z))] []) (fun z => 6 - z) ?_ (0) ?_
  rotate_left
  · try dsimp only
    exact ⟨Nat.zero_le _, fun v hv => absurd hv (Nat.not_lt_zero _)⟩
  rintro k hI ih_2
  try dsimp only at hI ih_2 ⊢
  have hk6 := hI.1
  refine hg_iload1 (pc' := 3) cx dX0_kindNamed_2 rfl ?_
  refine hg_bipush (pc' := 5) cx (nI 6) dX0_kindNamed_3 (by decide) rfl ?_
  refine hg_icmp_ge (pc' := 8) cx 27 dX0_kindNamed_5 (by decide) rfl (fun c_5 => ?_) (fun c_5 => ?_)
  ·
    have hk := hg_ge (n := 6) (j := k) rfl (by omega) (by omega) c_5
    refine hg_iconst (pc' := 28) cx (-1) dX0_kindNamed_27 (by decide) rfl ?_
    refine hg_iret cx dX0_kindNamed_28 ⟨_, rfl, ?_⟩
    exact ⟨by rw [if_neg (fun z => hI.2 (sp_T f L b) (by omega) rfl)], rfl⟩
  ·
    have hk := hg_nge (n := 6) (j := k) rfl (by omega) (by omega) c_5
    refine hg_aload0 (pc' := 9) cx dX0_kindNamed_8 rfl ?_
    refine hg_iload1 (pc' := 10) cx dX0_kindNamed_9 rfl ?_
    refine cs_X0_116 (pc' := 13) cx (K_X0_nameOf l E _ k hk) ⟨rfl, rfl, Nat.le_of_ble_eq_true rfl, Nat.le_of_ble_eq_true rfl⟩ (Nat.le_of_ble_eq_true rfl) dX0_kindNamed_10 rfl (fun r_10 τ_10 h_10 => ?_)
    obtain ⟨rfl, rfl⟩ := h_10
    refine cv_X0_120 (pc' := 16) cx (K_X0_isWord l E _ f L hL ht b hb hA (sp_iw k) (sp_iw_ok k hk).1) ⟨rfl, rfl, Nat.le_of_ble_eq_true rfl, Nat.le_of_ble_eq_true rfl⟩ (Nat.le_of_ble_eq_true rfl) dX0_kindNamed_13 rfl (fun r_13 τ_13 h_13 => ?_)
    obtain ⟨rfl, rfl⟩ := h_13
    rw [(sp_iw_ok k hk).2]
    refine hg_if_eq (pc' := 19) cx 21 dX0_kindNamed_16 (by decide) rfl (fun c_16 => ?_) (fun c_16 => ?_)
    ·
      refine hg_iinc1p (pc' := 24) cx rfl dX0_kindNamed_21 rfl ?_
      refine hg_goto cx 2 dX0_kindNamed_24 (by decide) ?_
      rw [nI_1]
      refine ih_2 (k + 1) ?_ ?_
      · try dsimp only
        refine ⟨hk, fun v hv => ?_⟩
        by_cases q : v = k
        · rw [q]; exact hg_b0 c_16
        · exact hI.2 v (by omega)
      · omega
    ·
      refine hg_iload1 (pc' := 20) cx dX0_kindNamed_19 rfl ?_
      refine hg_iret cx dX0_kindNamed_20 ⟨_, rfl, ?_⟩
      have q := hg_b1 c_16
      exact ⟨by rw [if_pos (by omega), q], rfl⟩
