def mk_T (σ : hg_Mem) (f : Nat → Int32) (L : Nat) : Prop := σ.1 50 7 = nI L ∧ ∀ k, k < 120 → σ.1 56 k = f k
def mk_At (σ : hg_Mem) (f : Nat → Int32) (L b : Nat) : Prop := σ.1 50 8 = nI (sp_T f L b) ∧ σ.1 50 9 = nI b ∧ σ.1 50 10 = nI (sp_e f L b) ∧ σ.1 50 11 = (if sp_c f L b = 2 then sp_v f L b else 0)
/-- only the reading's places have changed -/
def mk_Fr (σ τ : hg_Mem) : Prop := τ.2 = σ.2 ∧ (∀ i, i ≠ 50 → τ.1 i = σ.1 i) ∧ ∀ k, (k < 8 ∨ 12 ≤ k) → τ.1 50 k = σ.1 50 k
def mk_Fo (σ τ : hg_Mem) : Prop := τ.2 = σ.2 ∧ (∀ i, i ≠ 50 → τ.1 i = σ.1 i) ∧ ∀ k, k ≠ 10 → k ≠ 11 → τ.1 50 k = σ.1 50 k
def mk_Fb (σ τ : hg_Mem) : Prop := τ.2 = σ.2 ∧ (∀ i, i ≠ 50 → τ.1 i = σ.1 i) ∧ ∀ k, (k < 8 ∨ 13 ≤ k) → τ.1 50 k = σ.1 50 k
def mk_Fi (σ τ : hg_Mem) : Prop := τ.2 = σ.2 ∧ (∀ i, i ≠ 50 → i ≠ 51 → τ.1 i = σ.1 i) ∧ ∀ k, (k < 8 ∨ 13 ≤ k) → τ.1 50 k = σ.1 50 k
theorem mk_Fr.rf (σ : hg_Mem) : mk_Fr σ σ := ⟨rfl, fun _ _ => rfl, fun _ _ => rfl⟩
theorem mk_Fo.rf (σ : hg_Mem) : mk_Fo σ σ := ⟨rfl, fun _ _ => rfl, fun _ _ _ => rfl⟩
theorem mk_Fb.rf (σ : hg_Mem) : mk_Fb σ σ := ⟨rfl, fun _ _ => rfl, fun _ _ => rfl⟩
theorem mk_Fi.rf (σ : hg_Mem) : mk_Fi σ σ := ⟨rfl, fun _ _ _ => rfl, fun _ _ => rfl⟩
theorem mk_Fr.tr {σ τ ρ : hg_Mem} (a : mk_Fr σ τ) (b : mk_Fr τ ρ) : mk_Fr σ ρ := ⟨b.1.trans a.1, fun i h => (b.2.1 i h).trans (a.2.1 i h), fun k h => (b.2.2 k h).trans (a.2.2 k h)⟩
theorem mk_Fo.tr {σ τ ρ : hg_Mem} (a : mk_Fo σ τ) (b : mk_Fo τ ρ) : mk_Fo σ ρ := ⟨b.1.trans a.1, fun i h => (b.2.1 i h).trans (a.2.1 i h), fun k h1 h2 => (b.2.2 k h1 h2).trans (a.2.2 k h1 h2)⟩
theorem mk_Fb.tr {σ τ ρ : hg_Mem} (a : mk_Fb σ τ) (b : mk_Fb τ ρ) : mk_Fb σ ρ := ⟨b.1.trans a.1, fun i h => (b.2.1 i h).trans (a.2.1 i h), fun k h => (b.2.2 k h).trans (a.2.2 k h)⟩
theorem mk_Fi.tr {σ τ ρ : hg_Mem} (a : mk_Fi σ τ) (b : mk_Fi τ ρ) : mk_Fi σ ρ := ⟨b.1.trans a.1, fun i h1 h2 => (b.2.1 i h1 h2).trans (a.2.1 i h1 h2), fun k h => (b.2.2 k h).trans (a.2.2 k h)⟩
theorem mk_Fo.fr {σ τ : hg_Mem} (a : mk_Fo σ τ) : mk_Fr σ τ := ⟨a.1, a.2.1, fun k h => a.2.2 k (by omega) (by omega)⟩
theorem mk_Fr.b {σ τ : hg_Mem} (a : mk_Fr σ τ) : mk_Fb σ τ := ⟨a.1, a.2.1, fun k h => a.2.2 k (by omega)⟩
theorem mk_Fb.i {σ τ : hg_Mem} (a : mk_Fb σ τ) : mk_Fi σ τ := ⟨a.1, fun i h _ => a.2.1 i h, a.2.2⟩
theorem mk_put (σ : hg_Mem) {k : Nat} (v : Int32) (hk : 8 ≤ k ∧ k < 12) : mk_Fr σ (hg_sI σ 50 k v) := ⟨rfl, fun i hi => ck_oth σ k v hi, fun j hj => by rw [ck_get, if_neg (by omega)]⟩
theorem mk_putO (σ : hg_Mem) {k : Nat} (v : Int32) (hk : k = 10 ∨ k = 11) : mk_Fo σ (hg_sI σ 50 k v) := ⟨rfl, fun i hi => ck_oth σ k v hi, fun j h1 h2 => by rw [ck_get, if_neg (by omega)]⟩
theorem mk_putB (σ : hg_Mem) (v : Int32) : mk_Fb σ (hg_sI σ 50 12 v) := ⟨rfl, fun i hi => ck_oth σ 12 v hi, fun j hj => by rw [ck_get, if_neg (by omega)]⟩
theorem mk_putM (σ : hg_Mem) (k : Nat) (v : Int32) : mk_Fi σ (hg_sI σ 51 k v) := ⟨rfl, fun i _ h => ck_oth σ k v h, fun j _ => by rw [ck_oth σ k v (by decide)]⟩
theorem mk_T.fi {σ τ : hg_Mem} {f : Nat → Int32} {L : Nat} (h : mk_T σ f L) (hF : mk_Fi σ τ) : mk_T τ f L := ⟨by rw [hF.2.2 7 (by decide)]; exact h.1, fun k hk => by rw [hF.2.1 56 (by decide) (by decide)]; exact h.2 k hk⟩
theorem mk_T.fr {σ τ : hg_Mem} {f : Nat → Int32} {L : Nat} (h : mk_T σ f L) (hF : mk_Fr σ τ) : mk_T τ f L := h.fi hF.b.i
theorem mk_Rep {σ τ : hg_Mem} {C : sp_C} {n : Nat} (h : sp_RepM σ 51 C n) (hF : mk_Fb σ τ) : sp_RepM τ 51 C n := h.keep (fun k _ => by rw [hF.2.1 51 (by decide)])
theorem mk_At.keep {σ τ : hg_Mem} {f : Nat → Int32} {L b : Nat} (h : mk_At σ f L b) (hk : ∀ k, 8 ≤ k → k < 12 → τ.1 50 k = σ.1 50 k) : mk_At τ f L b := by
  obtain ⟨a1, a2, a3, a4⟩ := h
  exact ⟨by rw [hk 8 (by decide) (by decide)]; exact a1, by rw [hk 9 (by decide) (by decide)]; exact a2, by rw [hk 10 (by decide) (by decide)]; exact a3, by rw [hk 11 (by decide) (by decide)]; exact a4⟩
/-- reading on, or a fault found -/
def mk_St (σ : hg_Mem) (f : Nat → Int32) (L : Nat) (ok : Bool) (b : Nat) : Prop := (ok = true ∧ σ.1 50 12 = 0 ∧ mk_At σ f L b) ∨ (ok = false ∧ σ.1 50 12 = 1 ∧ σ.1 50 9 = nI b)
theorem mk_St.ok {σ : hg_Mem} {f : Nat → Int32} {L b : Nat} {ok : Bool} (h : mk_St σ f L ok b) (hb : σ.1 50 12 = 0) : ok = true ∧ mk_At σ f L b := by
  rcases h with ⟨h1, h2, h3⟩ | ⟨h1, h2, h3⟩
  · exact ⟨h1, h3⟩
  · rw [hb] at h2; exact absurd h2 (by decide)
theorem mk_St.no {σ : hg_Mem} {f : Nat → Int32} {L b : Nat} {ok : Bool} (h : mk_St σ f L ok b) (hb : ¬ σ.1 50 12 = 0) : ok = false ∧ σ.1 50 12 = 1 ∧ σ.1 50 9 = nI b := by
  rcases h with ⟨h1, h2, h3⟩ | h
  · exact absurd h2 hb
  · exact h
theorem mk_St.at {σ : hg_Mem} {f : Nat → Int32} {L b : Nat} {ok : Bool} (h : mk_St σ f L ok b) : σ.1 50 9 = nI b := by
  rcases h with ⟨h1, h2, h3⟩ | ⟨h1, h2, h3⟩
  · exact h3.2.1
  · exact h3
theorem mk_St.oth {σ τ : hg_Mem} {f : Nat → Int32} {L b : Nat} {ok : Bool} (h : mk_St σ f L ok b) (h5 : τ.1 50 = σ.1 50) : mk_St τ f L ok b := by
  unfold mk_St mk_At at *
  rw [h5]; exact h
def sp_prh2 (f : Nat → Int32) (L w : Nat) (m so : Int32) (ok : Bool) (b : Nat) : Bool × Nat × Int32 := if ok = true then sp_prh f L w m so b else (false, b, 0)
def mk_It (σ τ : hg_Mem) (f : Nat → Int32) (L : Nat) (w : Bool × Nat × sp_C × Nat) : Prop := mk_Fi σ τ ∧ mk_St τ f L w.1 w.2.1 ∧ (w.1 = true → sp_RepM τ 51 w.2.2.1 w.2.2.2)
theorem sp_le999 (v : Int32) : v ≤ 999 ↔ v < 1000 := by
  rw [Int32.le_iff_toInt_le, Int32.lt_iff_toInt_lt]
  show v.toInt ≤ 999 ↔ v.toInt < 1000
  omega
theorem sp_isW_of {f : Nat → Int32} {b sz w : Nat} (hw : w < 14) (hlet : ∀ k, k < sz → ¬ f (b + k) = 0) (h1 : sz ≤ 7) (h2 : sz = 7 ∨ sp_wn w sz = 0) (h3 : ∀ k, k < sz → sp_wn w k = f (b + k)) : sp_isW f b (b + sz) w := by
  obtain ⟨q1, q2, q3, q4⟩ := sp_wn_ok w hw
  have e1 : ¬ sz = 7 := fun z => hlet 6 (by omega) (by rw [← h3 6 (by omega)]; exact q4)
  have e2 := h2.resolve_left e1
  have e3 : ¬ sz < sp_wl w := fun z => q3 sz z e2
  have e4 : ¬ sp_wl w < sz := fun z => hlet _ z (by rw [← h3 _ z]; exact q2)
  obtain rfl : sz = sp_wl w := by omega
  exact ⟨rfl, fun k hk => (h3 k hk).symm⟩
theorem cw_M.lob {σ τ : hg_Mem} {S : sp_S} (h : cw_M σ S) (C : sp_C) (n : Nat) (h2 : τ.2 = σ.2) (h1 : ∀ i, i ≠ 50 → i ≠ 51 → i ≠ 53 → i ≠ 55 → τ.1 i = σ.1 i) (h3 : τ.1 50 3 = σ.1 50 3) (h7 : τ.1 50 7 = 0) (hR : sp_RepM τ 51 C n) : cw_M τ (sp_sR (sp_sC S C n) 0 (va_up (S.2.1 0) 1 0)) ∧ mw_Fr σ τ := by
  obtain ⟨a, b, c, d, e, g, i⟩ := h
  refine ⟨⟨hR, fun hk => ?_, ?_, ?_, fun k hk => ?_, fun k hk => ?_, fun s hs => ?_⟩, fun j hj => ⟨h1 j (by omega) (by omega) (by omega) (by omega), by rw [h2]⟩⟩
  · exact (b hk).keep (fun k _ => by rw [h1 52 (by decide) (by decide) (by decide) (by decide)])
  · rw [h3]; exact c
  · rw [h7]; rfl
  · rw [h1 54 (by decide) (by decide) (by decide) (by decide)]; exact e k hk
  · rw [h1 56 (by decide) (by decide) (by decide) (by decide)]; exact g k hk
  · rw [h1 57 (by decide) (by decide) (by decide) (by decide), h1 58 (by decide) (by decide) (by decide) (by decide), h2]; exact i s hs
set_option maxHeartbeats 4000000 in
set_option maxRecDepth 100000 in
theorem K_X6_isByte (l : Launch) (E : hg_Wd) (σ : hg_Mem) (f : Nat → Int32) (L : Nat) (hL : L ≤ 120) (ht : mk_T σ f L) (q : Nat) (hq : q < 1000) (lo : Int32) (hi : Int32) : hg_C l E yX6_isByte cX6_isByte 4 (some .boolean) { frames := 1, cells := 0, slots := 0, locals := 23 } [.ref (hg_ad E 50), .int (nI q), .int lo, .int hi] σ (hg_pi (fun r τ => r = (if q < L ∧ lo ≤ f q ∧ f q ≤ hi then 1 else 0) ∧ σ = τ)) := by
  refine hg_intro (by decide) [some (.ref (hg_ad E 50)), some (.int (nI q)), some (.int lo), some (.int hi)] rfl (Nat.le_of_ble_eq_true rfl) ?_
  intro p e s m args below meth c cx
  have cx : hg_Cx E p s m args meth c cX6_isByte 4 RX6 (some .boolean) := cx
  refine hg_iload1 (pc' := 1) cx dX6_isByte_0 rfl ?_
  refine hg_aload0 (pc' := 2) cx dX6_isByte_1 rfl ?_
  refine gf_X6_147 (pc' := 5) cx dX6_isByte_2 rfl ?_
  refine hg_icmp_ge (pc' := 8) cx 27 dX6_isByte_5 (by decide) rfl (fun c_5 => ?_) (fun c_5 => ?_)
  ·
    have hk := hg_ge ht.1 (by omega) (by omega) c_5
    refine hg_iconst (pc' := 28) cx 0 dX6_isByte_27 (by decide) rfl ?_
    refine hg_zret cx rfl dX6_isByte_28 ⟨_, rfl, ?_⟩
    exact ⟨by rw [if_neg (fun z => by omega)], rfl⟩
  ·
    have hk := hg_nge ht.1 (by omega) (by omega) c_5
    refine hg_aload0 (pc' := 9) cx dX6_isByte_8 rfl ?_
    refine gf_X6_25 (pc' := 12) cx dX6_isByte_9 rfl ?_
    refine hg_iload1 (pc' := 13) cx dX6_isByte_12 rfl ?_
    refine hg_iald2 (pc' := 14) cx (by decide) (hg_ceI56 E) (by first | assumption | omega | decide) (by decide) dX6_isByte_13 rfl ?_
    rw [ht.2 q (by omega)]
    refine hg_i2l (pc' := 15) cx dX6_isByte_14 rfl ?_
    refine hg_iload2 (pc' := 16) cx dX6_isByte_15 rfl ?_
    refine hg_iload3 (pc' := 17) cx dX6_isByte_16 rfl ?_
    refine cs_X6_44 (pc' := 20) cx (K_X6_in l E _ _ _ _) ⟨rfl, rfl, Nat.le_of_ble_eq_true rfl, Nat.le_of_ble_eq_true rfl⟩ (Nat.le_of_ble_eq_true rfl) dX6_isByte_17 rfl (fun r_17 τ_17 h_17 => ?_)
    obtain ⟨rfl, rfl⟩ := h_17
    rw [sp_inL_out]
    refine hg_if_eq (pc' := 23) cx 27 dX6_isByte_20 (by decide) rfl (fun c_20 => ?_) (fun c_20 => ?_)
    ·
      replace c_20 := hg_b0 c_20
      refine hg_iconst (pc' := 28) cx 0 dX6_isByte_27 (by decide) rfl ?_
      refine hg_zret cx rfl dX6_isByte_28 ⟨_, rfl, ?_⟩
      exact ⟨by rw [if_neg (fun z => (hg_b1 c_20).elim (fun y => Int32.not_lt.mpr z.2.1 y) (fun y => Int32.not_lt.mpr z.2.2 y))], rfl⟩
    ·
      replace c_20 := hg_b1 c_20
      refine hg_iconst (pc' := 24) cx 1 dX6_isByte_23 (by decide) rfl ?_
      refine hg_goto cx 28 dX6_isByte_24 (by decide) ?_
      refine hg_zret cx rfl dX6_isByte_28 ⟨_, rfl, ?_⟩
      exact ⟨by rw [if_pos ⟨hk, Int32.not_lt.mp (fun y => hg_b0 c_20 (Or.inl y)), Int32.not_lt.mp (fun y => hg_b0 c_20 (Or.inr y))⟩], rfl⟩
set_option maxHeartbeats 4000000 in
set_option maxRecDepth 100000 in
theorem K_X6_isName (l : Launch) (E : hg_Wd) (σ : hg_Mem) (f : Nat → Int32) (L : Nat) (hL : L ≤ 120) (ht : mk_T σ f L) (b : Nat) (h9 : σ.1 50 9 = nI b) (w : Nat) (hw : w < 14) (sz : Nat) (hsz : b + sz ≤ L) (hlet : ∀ k, k < sz → ¬ f (b + k) = 0) : hg_C l E yX6_isName cX6_isName 5 (some .boolean) { frames := 0, cells := 0, slots := 0, locals := 0 } [.ref (hg_ad E 50), .int (nI w), .int (nI sz)] σ (hg_pi (fun r τ => r = (if sp_isW f b (b + sz) w then 1 else 0) ∧ σ = τ)) := by
  refine hg_intro (by decide) [some (.ref (hg_ad E 50)), some (.int (nI w)), some (.int (nI sz)), none, none] rfl (Nat.le_of_ble_eq_true rfl) ?_
  intro p e s m args below meth c cx
  have cx : hg_Cx E p s m args meth c cX6_isName 5 RX6 (some .boolean) := cx
  obtain ⟨u1, u2, u3, u4⟩ := sp_wn_ok w hw
  refine hg_iload2 (pc' := 1) cx dX6_isName_0 rfl ?_
  refine hg_bipush (pc' := 3) cx (nI 7) dX6_isName_1 (by decide) rfl ?_
  refine hg_icmp_gt (pc' := 6) cx 29 dX6_isName_3 (by decide) rfl (fun c_3 => ?_) (fun c_3 => ?_)
  ·
    have z3 := hg_gt (a := 7) (b := sz) (by omega) (by omega) c_3
    refine hg_iconst (pc' := 30) cx 0 dX6_isName_29 (by decide) rfl ?_
    refine hg_istore3 (pc' := 31) cx rfl dX6_isName_30 rfl ?_
    refine hg_iconst (pc' := 32) cx (nI 0) dX6_isName_31 (by decide) rfl ?_
    refine hg_istore4 (pc' := 34) cx rfl dX6_isName_32 rfl ?_
    refine hg_loop (α := Int32 × Nat) (I := fun z => z.2 ≤ sz ∧ ((z.1 = 1 ∧ sz ≤ 7 ∧ (sz = 7 ∨ sp_wn w sz = 0) ∧ ∀ k, k < z.2 → sp_wn w k = f (b + k)) ∨ (z.1 = 0 ∧ ¬ sp_isW f b (b + sz) w))) (P := fun z => hg_G E p l e { frames := 0, cells := 0, slots := 0, locals := 0 } s m args below meth c 5 (MQ below (hg_Qc E (hg_pi (fun r τ => r = (if sp_isW f b (b + sz) w then 1 else 0) ∧ σ = τ))) args s 0 0 (hg_AW E)) σ 34 [some (.ref (hg_ad E 50)), some (.int (nI w)), some (.int (nI sz)), some (.int z.1), some (.int (nI z.2))] []) (fun z => sz - z.2) ?_ (_, 0) ?_
    rotate_left
    · try dsimp only
      refine ⟨Nat.zero_le _, ?_⟩
      first
        | exact Or.inr ⟨rfl, fun z => by have := z.1; omega⟩
        | exact Or.inl ⟨rfl, z3, Or.inl z9, fun k hk => absurd hk (Nat.not_lt_zero _)⟩
        | exact Or.inl ⟨rfl, z3, Or.inr c_22, fun k hk => absurd hk (Nat.not_lt_zero _)⟩
        | exact Or.inr ⟨rfl, fun z => c_22 (by rw [show sz = sp_wl w by have := z.1; omega]; exact u2)⟩
    rintro ⟨v, j⟩ hI ih_34
    try dsimp only at hI ih_34 ⊢
    have hj1 := hI.1
    refine hg_iload4 (pc' := 36) cx dX6_isName_34 rfl ?_
    refine hg_iload2 (pc' := 37) cx dX6_isName_36 rfl ?_
    refine hg_icmp_ge (pc' := 40) cx 82 dX6_isName_37 (by decide) rfl (fun c_37 => ?_) (fun c_37 => ?_)
    ·
      have hj := hg_ge (n := sz) (j := j) rfl (by omega) (by omega) c_37
      refine hg_iload3 (pc' := 83) cx dX6_isName_82 rfl ?_
      refine hg_zret cx (hg_zor (hI.2.elim (fun z => Or.inr z.1) (fun z => Or.inl z.1))) dX6_isName_83 ⟨_, rfl, ?_⟩
      refine ⟨?_, rfl⟩
      rcases hI.2 with ⟨e1, i1, i2, i3⟩ | ⟨e1, i1⟩
      · rw [e1, if_pos (sp_isW_of hw hlet i1 i2 (fun k hk => i3 k (by omega)))]
      · rw [e1, if_neg i1]
    ·
      have hj := hg_nge (n := sz) (j := j) rfl (by omega) (by omega) c_37
      refine hg_iload3 (pc' := 41) cx dX6_isName_40 rfl ?_
      refine hg_if_eq (pc' := 44) cx 82 dX6_isName_41 (by decide) rfl (fun c_41 => ?_) (fun c_41 => ?_)
      ·
        refine hg_iload3 (pc' := 83) cx dX6_isName_82 rfl ?_
        refine hg_zret cx (hg_zor (hI.2.elim (fun z => Or.inr z.1) (fun z => Or.inl z.1))) dX6_isName_83 ⟨_, rfl, ?_⟩
        refine ⟨?_, rfl⟩
        rcases hI.2 with ⟨e1, i1, i2, i3⟩ | ⟨e1, i1⟩
        · rw [e1] at c_41; exact absurd c_41 (by decide)
        · rw [e1, if_neg i1]
      ·
        obtain ⟨-, i1, i2, i3⟩ := hI.2.resolve_right (fun z => c_41 z.1)
        refine gs_X6_151 (pc' := 47) cx dX6_isName_44 rfl ?_
        refine hg_bipush (pc' := 49) cx (nI 7) dX6_isName_47 (by decide) rfl ?_
        refine hg_iload1 (pc' := 50) cx dX6_isName_49 rfl ?_
        refine hg_imul (pc' := 51) cx dX6_isName_50 rfl ?_
        refine hg_iload4 (pc' := 53) cx dX6_isName_51 rfl ?_
        refine hg_iadd (pc' := 54) cx dX6_isName_53 rfl ?_
        rw [pk_mul, nI_add]
        refine hg_nld (pc' := 55) cx (by omega) dX6_isName_54 rfl ?_
        refine hg_aload0 (pc' := 56) cx dX6_isName_55 rfl ?_
        refine gf_X6_25 (pc' := 59) cx dX6_isName_56 rfl ?_
        refine hg_aload0 (pc' := 60) cx dX6_isName_59 rfl ?_
        refine gf_X6_154 (pc' := 63) cx dX6_isName_60 rfl ?_
        rw [h9]
        refine hg_iload4 (pc' := 65) cx dX6_isName_63 rfl ?_
        refine hg_iadd (pc' := 66) cx dX6_isName_65 rfl ?_
        rw [nI_add]
        refine hg_iald2 (pc' := 67) cx (by decide) (hg_ceI56 E) (by first | assumption | omega | decide) (by decide) dX6_isName_66 rfl ?_
        rw [ht.2 (b + j) (by omega)]
        refine hg_icmp_ne (pc' := 70) cx 74 dX6_isName_67 (by decide) rfl (fun c_67 => ?_) (fun c_67 => ?_)
        ·
          refine hg_iconst (pc' := 75) cx 0 dX6_isName_74 (by decide) rfl ?_
          refine hg_istore3 (pc' := 76) cx rfl dX6_isName_75 rfl ?_
          refine hg_iinc4p (pc' := 79) cx rfl dX6_isName_76 rfl ?_
          refine hg_goto cx 34 dX6_isName_79 (by decide) ?_
          rw [nI_1]
          refine ih_34 (_, j + 1) ?_ ?_
          · try dsimp only
            refine ⟨hj, ?_⟩
            first
              | (refine Or.inl ⟨rfl, i1, i2, fun k hk => ?_⟩
                 by_cases q : k = j
                 · rw [q]; exact c_67
                 · exact i3 k (by omega))
              | exact Or.inr ⟨rfl, fun z => c_67 (z.2 j (by have := z.1; omega)).symm⟩
          · show sz - (j + 1) < sz - j
            omega
        ·
          refine hg_iconst (pc' := 71) cx 1 dX6_isName_70 (by decide) rfl ?_
          refine hg_goto cx 75 dX6_isName_71 (by decide) ?_
          refine hg_istore3 (pc' := 76) cx rfl dX6_isName_75 rfl ?_
          refine hg_iinc4p (pc' := 79) cx rfl dX6_isName_76 rfl ?_
          refine hg_goto cx 34 dX6_isName_79 (by decide) ?_
          rw [nI_1]
          refine ih_34 (_, j + 1) ?_ ?_
          · try dsimp only
            refine ⟨hj, ?_⟩
            first
              | (refine Or.inl ⟨rfl, i1, i2, fun k hk => ?_⟩
                 by_cases q : k = j
                 · rw [q]; exact c_67
                 · exact i3 k (by omega))
              | exact Or.inr ⟨rfl, fun z => c_67 (z.2 j (by have := z.1; omega)).symm⟩
          · show sz - (j + 1) < sz - j
            omega
  ·
    have z3 := hg_ngt (a := 7) (b := sz) (by omega) (by omega) c_3
    refine hg_iload2 (pc' := 7) cx dX6_isName_6 rfl ?_
    refine hg_bipush (pc' := 9) cx (nI 7) dX6_isName_7 (by decide) rfl ?_
    refine hg_icmp_eq (pc' := 12) cx 25 dX6_isName_9 (by decide) rfl (fun c_9 => ?_) (fun c_9 => ?_)
    ·
      have z9 : sz = 7 := (nI_eq (by omega) (by decide)).mp c_9
      refine hg_iconst (pc' := 26) cx 1 dX6_isName_25 (by decide) rfl ?_
      refine hg_goto cx 30 dX6_isName_26 (by decide) ?_
      refine hg_istore3 (pc' := 31) cx rfl dX6_isName_30 rfl ?_
      refine hg_iconst (pc' := 32) cx (nI 0) dX6_isName_31 (by decide) rfl ?_
      refine hg_istore4 (pc' := 34) cx rfl dX6_isName_32 rfl ?_
      refine hg_loop (α := Int32 × Nat) (I := fun z => z.2 ≤ sz ∧ ((z.1 = 1 ∧ sz ≤ 7 ∧ (sz = 7 ∨ sp_wn w sz = 0) ∧ ∀ k, k < z.2 → sp_wn w k = f (b + k)) ∨ (z.1 = 0 ∧ ¬ sp_isW f b (b + sz) w))) (P := fun z => hg_G E p l e { frames := 0, cells := 0, slots := 0, locals := 0 } s m args below meth c 5 (MQ below (hg_Qc E (hg_pi (fun r τ => r = (if sp_isW f b (b + sz) w then 1 else 0) ∧ σ = τ))) args s 0 0 (hg_AW E)) σ 34 [some (.ref (hg_ad E 50)), some (.int (nI w)), some (.int (nI sz)), some (.int z.1), some (.int (nI z.2))] []) (fun z => sz - z.2) ?_ (_, 0) ?_
      rotate_left
      · try dsimp only
        refine ⟨Nat.zero_le _, ?_⟩
        first
          | exact Or.inr ⟨rfl, fun z => by have := z.1; omega⟩
          | exact Or.inl ⟨rfl, z3, Or.inl z9, fun k hk => absurd hk (Nat.not_lt_zero _)⟩
          | exact Or.inl ⟨rfl, z3, Or.inr c_22, fun k hk => absurd hk (Nat.not_lt_zero _)⟩
          | exact Or.inr ⟨rfl, fun z => c_22 (by rw [show sz = sp_wl w by have := z.1; omega]; exact u2)⟩
      rintro ⟨v, j⟩ hI ih_34
      try dsimp only at hI ih_34 ⊢
      have hj1 := hI.1
      refine hg_iload4 (pc' := 36) cx dX6_isName_34 rfl ?_
      refine hg_iload2 (pc' := 37) cx dX6_isName_36 rfl ?_
      refine hg_icmp_ge (pc' := 40) cx 82 dX6_isName_37 (by decide) rfl (fun c_37 => ?_) (fun c_37 => ?_)
      ·
        have hj := hg_ge (n := sz) (j := j) rfl (by omega) (by omega) c_37
        refine hg_iload3 (pc' := 83) cx dX6_isName_82 rfl ?_
        refine hg_zret cx (hg_zor (hI.2.elim (fun z => Or.inr z.1) (fun z => Or.inl z.1))) dX6_isName_83 ⟨_, rfl, ?_⟩
        refine ⟨?_, rfl⟩
        rcases hI.2 with ⟨e1, i1, i2, i3⟩ | ⟨e1, i1⟩
        · rw [e1, if_pos (sp_isW_of hw hlet i1 i2 (fun k hk => i3 k (by omega)))]
        · rw [e1, if_neg i1]
      ·
        have hj := hg_nge (n := sz) (j := j) rfl (by omega) (by omega) c_37
        refine hg_iload3 (pc' := 41) cx dX6_isName_40 rfl ?_
        refine hg_if_eq (pc' := 44) cx 82 dX6_isName_41 (by decide) rfl (fun c_41 => ?_) (fun c_41 => ?_)
        ·
          refine hg_iload3 (pc' := 83) cx dX6_isName_82 rfl ?_
          refine hg_zret cx (hg_zor (hI.2.elim (fun z => Or.inr z.1) (fun z => Or.inl z.1))) dX6_isName_83 ⟨_, rfl, ?_⟩
          refine ⟨?_, rfl⟩
          rcases hI.2 with ⟨e1, i1, i2, i3⟩ | ⟨e1, i1⟩
          · rw [e1] at c_41; exact absurd c_41 (by decide)
          · rw [e1, if_neg i1]
        ·
          obtain ⟨-, i1, i2, i3⟩ := hI.2.resolve_right (fun z => c_41 z.1)
          refine gs_X6_151 (pc' := 47) cx dX6_isName_44 rfl ?_
          refine hg_bipush (pc' := 49) cx (nI 7) dX6_isName_47 (by decide) rfl ?_
          refine hg_iload1 (pc' := 50) cx dX6_isName_49 rfl ?_
          refine hg_imul (pc' := 51) cx dX6_isName_50 rfl ?_
          refine hg_iload4 (pc' := 53) cx dX6_isName_51 rfl ?_
          refine hg_iadd (pc' := 54) cx dX6_isName_53 rfl ?_
          rw [pk_mul, nI_add]
          refine hg_nld (pc' := 55) cx (by omega) dX6_isName_54 rfl ?_
          refine hg_aload0 (pc' := 56) cx dX6_isName_55 rfl ?_
          refine gf_X6_25 (pc' := 59) cx dX6_isName_56 rfl ?_
          refine hg_aload0 (pc' := 60) cx dX6_isName_59 rfl ?_
          refine gf_X6_154 (pc' := 63) cx dX6_isName_60 rfl ?_
          rw [h9]
          refine hg_iload4 (pc' := 65) cx dX6_isName_63 rfl ?_
          refine hg_iadd (pc' := 66) cx dX6_isName_65 rfl ?_
          rw [nI_add]
          refine hg_iald2 (pc' := 67) cx (by decide) (hg_ceI56 E) (by first | assumption | omega | decide) (by decide) dX6_isName_66 rfl ?_
          rw [ht.2 (b + j) (by omega)]
          refine hg_icmp_ne (pc' := 70) cx 74 dX6_isName_67 (by decide) rfl (fun c_67 => ?_) (fun c_67 => ?_)
          ·
            refine hg_iconst (pc' := 75) cx 0 dX6_isName_74 (by decide) rfl ?_
            refine hg_istore3 (pc' := 76) cx rfl dX6_isName_75 rfl ?_
            refine hg_iinc4p (pc' := 79) cx rfl dX6_isName_76 rfl ?_
            refine hg_goto cx 34 dX6_isName_79 (by decide) ?_
            rw [nI_1]
            refine ih_34 (_, j + 1) ?_ ?_
            · try dsimp only
              refine ⟨hj, ?_⟩
              first
                | (refine Or.inl ⟨rfl, i1, i2, fun k hk => ?_⟩
                   by_cases q : k = j
                   · rw [q]; exact c_67
                   · exact i3 k (by omega))
                | exact Or.inr ⟨rfl, fun z => c_67 (z.2 j (by have := z.1; omega)).symm⟩
            · show sz - (j + 1) < sz - j
              omega
          ·
            refine hg_iconst (pc' := 71) cx 1 dX6_isName_70 (by decide) rfl ?_
            refine hg_goto cx 75 dX6_isName_71 (by decide) ?_
            refine hg_istore3 (pc' := 76) cx rfl dX6_isName_75 rfl ?_
            refine hg_iinc4p (pc' := 79) cx rfl dX6_isName_76 rfl ?_
            refine hg_goto cx 34 dX6_isName_79 (by decide) ?_
            rw [nI_1]
            refine ih_34 (_, j + 1) ?_ ?_
            · try dsimp only
              refine ⟨hj, ?_⟩
              first
                | (refine Or.inl ⟨rfl, i1, i2, fun k hk => ?_⟩
                   by_cases q : k = j
                   · rw [q]; exact c_67
                   · exact i3 k (by omega))
                | exact Or.inr ⟨rfl, fun z => c_67 (z.2 j (by have := z.1; omega)).symm⟩
            · show sz - (j + 1) < sz - j
              omega
    ·
      have z9 : ¬ sz = 7 := fun z => c_9 (by rw [z])
      refine gs_X6_151 (pc' := 15) cx dX6_isName_12 rfl ?_
      refine hg_bipush (pc' := 17) cx (nI 7) dX6_isName_15 (by decide) rfl ?_
      refine hg_iload1 (pc' := 18) cx dX6_isName_17 rfl ?_
      refine hg_imul (pc' := 19) cx dX6_isName_18 rfl ?_
      refine hg_iload2 (pc' := 20) cx dX6_isName_19 rfl ?_
      refine hg_iadd (pc' := 21) cx dX6_isName_20 rfl ?_
      rw [pk_mul, nI_add]
      refine hg_nld (pc' := 22) cx (by omega) dX6_isName_21 rfl ?_
      refine hg_if_ne (pc' := 25) cx 29 dX6_isName_22 (by decide) rfl (fun c_22 => ?_) (fun c_22 => ?_)
      ·
        refine hg_iconst (pc' := 30) cx 0 dX6_isName_29 (by decide) rfl ?_
        refine hg_istore3 (pc' := 31) cx rfl dX6_isName_30 rfl ?_
        refine hg_iconst (pc' := 32) cx (nI 0) dX6_isName_31 (by decide) rfl ?_
        refine hg_istore4 (pc' := 34) cx rfl dX6_isName_32 rfl ?_
        refine hg_loop (α := Int32 × Nat) (I := fun z => z.2 ≤ sz ∧ ((z.1 = 1 ∧ sz ≤ 7 ∧ (sz = 7 ∨ sp_wn w sz = 0) ∧ ∀ k, k < z.2 → sp_wn w k = f (b + k)) ∨ (z.1 = 0 ∧ ¬ sp_isW f b (b + sz) w))) (P := fun z => hg_G E p l e { frames := 0, cells := 0, slots := 0, locals := 0 } s m args below meth c 5 (MQ below (hg_Qc E (hg_pi (fun r τ => r = (if sp_isW f b (b + sz) w then 1 else 0) ∧ σ = τ))) args s 0 0 (hg_AW E)) σ 34 [some (.ref (hg_ad E 50)), some (.int (nI w)), some (.int (nI sz)), some (.int z.1), some (.int (nI z.2))] []) (fun z => sz - z.2) ?_ (_, 0) ?_
        rotate_left
        · try dsimp only
          refine ⟨Nat.zero_le _, ?_⟩
          first
            | exact Or.inr ⟨rfl, fun z => by have := z.1; omega⟩
            | exact Or.inl ⟨rfl, z3, Or.inl z9, fun k hk => absurd hk (Nat.not_lt_zero _)⟩
            | exact Or.inl ⟨rfl, z3, Or.inr c_22, fun k hk => absurd hk (Nat.not_lt_zero _)⟩
            | exact Or.inr ⟨rfl, fun z => c_22 (by rw [show sz = sp_wl w by have := z.1; omega]; exact u2)⟩
        rintro ⟨v, j⟩ hI ih_34
        try dsimp only at hI ih_34 ⊢
        have hj1 := hI.1
        refine hg_iload4 (pc' := 36) cx dX6_isName_34 rfl ?_
        refine hg_iload2 (pc' := 37) cx dX6_isName_36 rfl ?_
        refine hg_icmp_ge (pc' := 40) cx 82 dX6_isName_37 (by decide) rfl (fun c_37 => ?_) (fun c_37 => ?_)
        ·
          have hj := hg_ge (n := sz) (j := j) rfl (by omega) (by omega) c_37
          refine hg_iload3 (pc' := 83) cx dX6_isName_82 rfl ?_
          refine hg_zret cx (hg_zor (hI.2.elim (fun z => Or.inr z.1) (fun z => Or.inl z.1))) dX6_isName_83 ⟨_, rfl, ?_⟩
          refine ⟨?_, rfl⟩
          rcases hI.2 with ⟨e1, i1, i2, i3⟩ | ⟨e1, i1⟩
          · rw [e1, if_pos (sp_isW_of hw hlet i1 i2 (fun k hk => i3 k (by omega)))]
          · rw [e1, if_neg i1]
        ·
          have hj := hg_nge (n := sz) (j := j) rfl (by omega) (by omega) c_37
          refine hg_iload3 (pc' := 41) cx dX6_isName_40 rfl ?_
          refine hg_if_eq (pc' := 44) cx 82 dX6_isName_41 (by decide) rfl (fun c_41 => ?_) (fun c_41 => ?_)
          ·
            refine hg_iload3 (pc' := 83) cx dX6_isName_82 rfl ?_
            refine hg_zret cx (hg_zor (hI.2.elim (fun z => Or.inr z.1) (fun z => Or.inl z.1))) dX6_isName_83 ⟨_, rfl, ?_⟩
            refine ⟨?_, rfl⟩
            rcases hI.2 with ⟨e1, i1, i2, i3⟩ | ⟨e1, i1⟩
            · rw [e1] at c_41; exact absurd c_41 (by decide)
            · rw [e1, if_neg i1]
          ·
            obtain ⟨-, i1, i2, i3⟩ := hI.2.resolve_right (fun z => c_41 z.1)
            refine gs_X6_151 (pc' := 47) cx dX6_isName_44 rfl ?_
            refine hg_bipush (pc' := 49) cx (nI 7) dX6_isName_47 (by decide) rfl ?_
            refine hg_iload1 (pc' := 50) cx dX6_isName_49 rfl ?_
            refine hg_imul (pc' := 51) cx dX6_isName_50 rfl ?_
            refine hg_iload4 (pc' := 53) cx dX6_isName_51 rfl ?_
            refine hg_iadd (pc' := 54) cx dX6_isName_53 rfl ?_
            rw [pk_mul, nI_add]
            refine hg_nld (pc' := 55) cx (by omega) dX6_isName_54 rfl ?_
            refine hg_aload0 (pc' := 56) cx dX6_isName_55 rfl ?_
            refine gf_X6_25 (pc' := 59) cx dX6_isName_56 rfl ?_
            refine hg_aload0 (pc' := 60) cx dX6_isName_59 rfl ?_
            refine gf_X6_154 (pc' := 63) cx dX6_isName_60 rfl ?_
            rw [h9]
            refine hg_iload4 (pc' := 65) cx dX6_isName_63 rfl ?_
            refine hg_iadd (pc' := 66) cx dX6_isName_65 rfl ?_
            rw [nI_add]
            refine hg_iald2 (pc' := 67) cx (by decide) (hg_ceI56 E) (by first | assumption | omega | decide) (by decide) dX6_isName_66 rfl ?_
            rw [ht.2 (b + j) (by omega)]
            refine hg_icmp_ne (pc' := 70) cx 74 dX6_isName_67 (by decide) rfl (fun c_67 => ?_) (fun c_67 => ?_)
            ·
              refine hg_iconst (pc' := 75) cx 0 dX6_isName_74 (by decide) rfl ?_
              refine hg_istore3 (pc' := 76) cx rfl dX6_isName_75 rfl ?_
              refine hg_iinc4p (pc' := 79) cx rfl dX6_isName_76 rfl ?_
              refine hg_goto cx 34 dX6_isName_79 (by decide) ?_
              rw [nI_1]
              refine ih_34 (_, j + 1) ?_ ?_
              · try dsimp only
                refine ⟨hj, ?_⟩
                first
                  | (refine Or.inl ⟨rfl, i1, i2, fun k hk => ?_⟩
                     by_cases q : k = j
                     · rw [q]; exact c_67
                     · exact i3 k (by omega))
                  | exact Or.inr ⟨rfl, fun z => c_67 (z.2 j (by have := z.1; omega)).symm⟩
              · show sz - (j + 1) < sz - j
                omega
            ·
              refine hg_iconst (pc' := 71) cx 1 dX6_isName_70 (by decide) rfl ?_
              refine hg_goto cx 75 dX6_isName_71 (by decide) ?_
              refine hg_istore3 (pc' := 76) cx rfl dX6_isName_75 rfl ?_
              refine hg_iinc4p (pc' := 79) cx rfl dX6_isName_76 rfl ?_
              refine hg_goto cx 34 dX6_isName_79 (by decide) ?_
              rw [nI_1]
              refine ih_34 (_, j + 1) ?_ ?_
              · try dsimp only
                refine ⟨hj, ?_⟩
                first
                  | (refine Or.inl ⟨rfl, i1, i2, fun k hk => ?_⟩
                     by_cases q : k = j
                     · rw [q]; exact c_67
                     · exact i3 k (by omega))
                  | exact Or.inr ⟨rfl, fun z => c_67 (z.2 j (by have := z.1; omega)).symm⟩
              · show sz - (j + 1) < sz - j
                omega
      ·
        refine hg_iconst (pc' := 26) cx 1 dX6_isName_25 (by decide) rfl ?_
        refine hg_goto cx 30 dX6_isName_26 (by decide) ?_
        refine hg_istore3 (pc' := 31) cx rfl dX6_isName_30 rfl ?_
        refine hg_iconst (pc' := 32) cx (nI 0) dX6_isName_31 (by decide) rfl ?_
        refine hg_istore4 (pc' := 34) cx rfl dX6_isName_32 rfl ?_
        refine hg_loop (α := Int32 × Nat) (I := fun z => z.2 ≤ sz ∧ ((z.1 = 1 ∧ sz ≤ 7 ∧ (sz = 7 ∨ sp_wn w sz = 0) ∧ ∀ k, k < z.2 → sp_wn w k = f (b + k)) ∨ (z.1 = 0 ∧ ¬ sp_isW f b (b + sz) w))) (P := fun z => hg_G E p l e { frames := 0, cells := 0, slots := 0, locals := 0 } s m args below meth c 5 (MQ below (hg_Qc E (hg_pi (fun r τ => r = (if sp_isW f b (b + sz) w then 1 else 0) ∧ σ = τ))) args s 0 0 (hg_AW E)) σ 34 [some (.ref (hg_ad E 50)), some (.int (nI w)), some (.int (nI sz)), some (.int z.1), some (.int (nI z.2))] []) (fun z => sz - z.2) ?_ (_, 0) ?_
        rotate_left
        · try dsimp only
          refine ⟨Nat.zero_le _, ?_⟩
          first
            | exact Or.inr ⟨rfl, fun z => by have := z.1; omega⟩
            | exact Or.inl ⟨rfl, z3, Or.inl z9, fun k hk => absurd hk (Nat.not_lt_zero _)⟩
            | exact Or.inl ⟨rfl, z3, Or.inr c_22, fun k hk => absurd hk (Nat.not_lt_zero _)⟩
            | exact Or.inr ⟨rfl, fun z => c_22 (by rw [show sz = sp_wl w by have := z.1; omega]; exact u2)⟩
        rintro ⟨v, j⟩ hI ih_34
        try dsimp only at hI ih_34 ⊢
        have hj1 := hI.1
        refine hg_iload4 (pc' := 36) cx dX6_isName_34 rfl ?_
        refine hg_iload2 (pc' := 37) cx dX6_isName_36 rfl ?_
        refine hg_icmp_ge (pc' := 40) cx 82 dX6_isName_37 (by decide) rfl (fun c_37 => ?_) (fun c_37 => ?_)
        ·
          have hj := hg_ge (n := sz) (j := j) rfl (by omega) (by omega) c_37
          refine hg_iload3 (pc' := 83) cx dX6_isName_82 rfl ?_
          refine hg_zret cx (hg_zor (hI.2.elim (fun z => Or.inr z.1) (fun z => Or.inl z.1))) dX6_isName_83 ⟨_, rfl, ?_⟩
          refine ⟨?_, rfl⟩
          rcases hI.2 with ⟨e1, i1, i2, i3⟩ | ⟨e1, i1⟩
          · rw [e1, if_pos (sp_isW_of hw hlet i1 i2 (fun k hk => i3 k (by omega)))]
          · rw [e1, if_neg i1]
        ·
          have hj := hg_nge (n := sz) (j := j) rfl (by omega) (by omega) c_37
          refine hg_iload3 (pc' := 41) cx dX6_isName_40 rfl ?_
          refine hg_if_eq (pc' := 44) cx 82 dX6_isName_41 (by decide) rfl (fun c_41 => ?_) (fun c_41 => ?_)
          ·
            refine hg_iload3 (pc' := 83) cx dX6_isName_82 rfl ?_
            refine hg_zret cx (hg_zor (hI.2.elim (fun z => Or.inr z.1) (fun z => Or.inl z.1))) dX6_isName_83 ⟨_, rfl, ?_⟩
            refine ⟨?_, rfl⟩
            rcases hI.2 with ⟨e1, i1, i2, i3⟩ | ⟨e1, i1⟩
            · rw [e1] at c_41; exact absurd c_41 (by decide)
            · rw [e1, if_neg i1]
          ·
            obtain ⟨-, i1, i2, i3⟩ := hI.2.resolve_right (fun z => c_41 z.1)
            refine gs_X6_151 (pc' := 47) cx dX6_isName_44 rfl ?_
            refine hg_bipush (pc' := 49) cx (nI 7) dX6_isName_47 (by decide) rfl ?_
            refine hg_iload1 (pc' := 50) cx dX6_isName_49 rfl ?_
            refine hg_imul (pc' := 51) cx dX6_isName_50 rfl ?_
            refine hg_iload4 (pc' := 53) cx dX6_isName_51 rfl ?_
            refine hg_iadd (pc' := 54) cx dX6_isName_53 rfl ?_
            rw [pk_mul, nI_add]
            refine hg_nld (pc' := 55) cx (by omega) dX6_isName_54 rfl ?_
            refine hg_aload0 (pc' := 56) cx dX6_isName_55 rfl ?_
            refine gf_X6_25 (pc' := 59) cx dX6_isName_56 rfl ?_
            refine hg_aload0 (pc' := 60) cx dX6_isName_59 rfl ?_
            refine gf_X6_154 (pc' := 63) cx dX6_isName_60 rfl ?_
            rw [h9]
            refine hg_iload4 (pc' := 65) cx dX6_isName_63 rfl ?_
            refine hg_iadd (pc' := 66) cx dX6_isName_65 rfl ?_
            rw [nI_add]
            refine hg_iald2 (pc' := 67) cx (by decide) (hg_ceI56 E) (by first | assumption | omega | decide) (by decide) dX6_isName_66 rfl ?_
            rw [ht.2 (b + j) (by omega)]
            refine hg_icmp_ne (pc' := 70) cx 74 dX6_isName_67 (by decide) rfl (fun c_67 => ?_) (fun c_67 => ?_)
            ·
              refine hg_iconst (pc' := 75) cx 0 dX6_isName_74 (by decide) rfl ?_
              refine hg_istore3 (pc' := 76) cx rfl dX6_isName_75 rfl ?_
              refine hg_iinc4p (pc' := 79) cx rfl dX6_isName_76 rfl ?_
              refine hg_goto cx 34 dX6_isName_79 (by decide) ?_
              rw [nI_1]
              refine ih_34 (_, j + 1) ?_ ?_
              · try dsimp only
                refine ⟨hj, ?_⟩
                first
                  | (refine Or.inl ⟨rfl, i1, i2, fun k hk => ?_⟩
                     by_cases q : k = j
                     · rw [q]; exact c_67
                     · exact i3 k (by omega))
                  | exact Or.inr ⟨rfl, fun z => c_67 (z.2 j (by have := z.1; omega)).symm⟩
              · show sz - (j + 1) < sz - j
                omega
            ·
              refine hg_iconst (pc' := 71) cx 1 dX6_isName_70 (by decide) rfl ?_
              refine hg_goto cx 75 dX6_isName_71 (by decide) ?_
              refine hg_istore3 (pc' := 76) cx rfl dX6_isName_75 rfl ?_
              refine hg_iinc4p (pc' := 79) cx rfl dX6_isName_76 rfl ?_
              refine hg_goto cx 34 dX6_isName_79 (by decide) ?_
              rw [nI_1]
              refine ih_34 (_, j + 1) ?_ ?_
              · try dsimp only
                refine ⟨hj, ?_⟩
                first
                  | (refine Or.inl ⟨rfl, i1, i2, fun k hk => ?_⟩
                     by_cases q : k = j
                     · rw [q]; exact c_67
                     · exact i3 k (by omega))
                  | exact Or.inr ⟨rfl, fun z => c_67 (z.2 j (by have := z.1; omega)).symm⟩
              · show sz - (j + 1) < sz - j
                omega
set_option maxHeartbeats 4000000 in
set_option maxRecDepth 100000 in
theorem K_X6_wordHere (l : Launch) (E : hg_Wd) (σ : hg_Mem) (f : Nat → Int32) (L : Nat) (hL : L ≤ 120) (ht : mk_T σ f L) (b : Nat) (en : Nat) (hbe : b ≤ en) (hel : en ≤ L) (h9 : σ.1 50 9 = nI b) (h10 : σ.1 50 10 = nI en) (hlet : ∀ j, b ≤ j → j < en → ¬ f j = 0) : hg_C l E yX6_wordHere cX6_wordHere 2 (some .int) { frames := 1, cells := 0, slots := 0, locals := 24 } [.ref (hg_ad E 50)] σ (hg_pi (fun r τ => r = nI (sp_fw f b en 14 0) ∧ σ = τ)) := by
  refine hg_intro (by decide) [some (.ref (hg_ad E 50)), none] rfl (Nat.le_of_ble_eq_true rfl) ?_
  intro p e s m args below meth c cx
  have cx : hg_Cx E p s m args meth c cX6_wordHere 2 RX6 (some .int) := cx
  refine hg_iconst (pc' := 1) cx (nI 0) dX6_wordHere_0 (by decide) rfl ?_
  refine hg_istore1 (pc' := 2) cx rfl dX6_wordHere_1 rfl ?_
  refine hg_loop (α := Nat) (I := fun z => z ≤ 14 ∧ sp_fw f b en 14 0 = sp_fw f b en (14 - z) z) (P := fun z => hg_G E p l e { frames := 1, cells := 0, slots := 0, locals := 24 } s m args below meth c 2 (MQ below (hg_Qc E (hg_pi (fun r τ => r = nI (sp_fw f b en 14 0) ∧ σ = τ))) args s 0 0 (hg_AW E)) σ 2 [some (.ref (hg_ad E 50)), some (.int (nI z))] []) (fun z => 14 - z) ?_ (0) ?_
  rotate_left
  · try dsimp only
    exact ⟨Nat.zero_le _, rfl⟩
  rintro k hI ih_2
  try dsimp only at hI ih_2 ⊢
  have hk14 := hI.1
  refine hg_iload1 (pc' := 3) cx dX6_wordHere_2 rfl ?_
  refine hg_bipush (pc' := 5) cx (nI 14) dX6_wordHere_3 (by decide) rfl ?_
  refine hg_icmp_ge (pc' := 8) cx 31 dX6_wordHere_5 (by decide) rfl (fun c_5 => ?_) (fun c_5 => ?_)
  ·
    have hk := hg_ge (n := 14) (j := k) rfl (by omega) (by omega) c_5
    refine hg_iload1 (pc' := 32) cx dX6_wordHere_31 rfl ?_
    refine hg_bipush (pc' := 34) cx (nI 14) dX6_wordHere_32 (by decide) rfl ?_
    refine hg_icmp_ge (pc' := 37) cx 41 dX6_wordHere_34 (by decide) rfl (fun c_34 => ?_) (fun c_34 => ?_)
    ·
      refine hg_bipush (pc' := 43) cx (nI 23) dX6_wordHere_41 (by decide) rfl ?_
      refine hg_iret cx dX6_wordHere_43 ⟨_, rfl, ?_⟩
      exact ⟨by rw [hI.2, show 14 - k = 0 by omega, sp_fw], rfl⟩
    ·
      exact absurd (nI_le hk (by omega)) c_34
  ·
    have hk := hg_nge (n := 14) (j := k) rfl (by omega) (by omega) c_5
    refine hg_aload0 (pc' := 9) cx dX6_wordHere_8 rfl ?_
    refine hg_iload1 (pc' := 10) cx dX6_wordHere_9 rfl ?_
    refine hg_aload0 (pc' := 11) cx dX6_wordHere_10 rfl ?_
    refine gf_X6_157 (pc' := 14) cx dX6_wordHere_11 rfl ?_
    rw [h10]
    refine hg_aload0 (pc' := 15) cx dX6_wordHere_14 rfl ?_
    refine gf_X6_154 (pc' := 18) cx dX6_wordHere_15 rfl ?_
    rw [h9]
    refine hg_isub (pc' := 19) cx dX6_wordHere_18 rfl ?_
    rw [pk_sub hbe]
    refine cv_X6_160 (pc' := 22) cx (K_X6_isName l E _ f L hL ht b h9 k hk (en - b) (by omega) (fun j hj => hlet _ (by omega) (by omega))) ⟨rfl, rfl, Nat.le_of_ble_eq_true rfl, Nat.le_of_ble_eq_true rfl⟩ (Nat.le_of_ble_eq_true rfl) dX6_wordHere_19 rfl (fun r_19 τ_19 h_19 => ?_)
    obtain ⟨rfl, rfl⟩ := h_19
    rw [show b + (en - b) = en by omega]
    refine hg_if_ne (pc' := 25) cx 31 dX6_wordHere_22 (by decide) rfl (fun c_22 => ?_) (fun c_22 => ?_)
    ·
      refine hg_iload1 (pc' := 32) cx dX6_wordHere_31 rfl ?_
      refine hg_bipush (pc' := 34) cx (nI 14) dX6_wordHere_32 (by decide) rfl ?_
      refine hg_icmp_ge (pc' := 37) cx 41 dX6_wordHere_34 (by decide) rfl (fun c_34 => ?_) (fun c_34 => ?_)
      ·
        exact absurd c_34 (nI_ge hk (by omega))
      ·
        refine hg_iload1 (pc' := 38) cx dX6_wordHere_37 rfl ?_
        refine hg_goto cx 43 dX6_wordHere_38 (by decide) ?_
        refine hg_iret cx dX6_wordHere_43 ⟨_, rfl, ?_⟩
        exact ⟨by rw [hI.2, show 14 - k = (14 - (k + 1)) + 1 by omega, sp_fw, if_pos (hg_b1 c_22)], rfl⟩
    ·
      refine hg_iinc1p (pc' := 28) cx rfl dX6_wordHere_25 rfl ?_
      refine hg_goto cx 2 dX6_wordHere_28 (by decide) ?_
      rw [nI_1]
      refine ih_2 (k + 1) ?_ ?_
      · try dsimp only
        refine ⟨hk, ?_⟩
        rw [hI.2, show 14 - k = (14 - (k + 1)) + 1 by omega, sp_fw, if_neg (hg_b0 c_22)]
      · omega
set_option maxHeartbeats 4000000 in
set_option maxRecDepth 100000 in
theorem K_X6_reads (l : Launch) (E : hg_Wd) (σ : hg_Mem) (f : Nat → Int32) (L : Nat) (hL : L ≤ 120) (ht : mk_T σ f L) (en : Nat) (hen : en ≤ L) (h10 : σ.1 50 10 = nI en) : hg_C l E yX6_reads cX6_reads 1 none { frames := 2, cells := 0, slots := 0, locals := 46 } [.ref (hg_ad E 50)] σ (hg_pv (fun τ => mk_At τ f L (sp_b f L en) ∧ mk_Fr σ τ)) := by
  refine hg_intro (by decide) [some (.ref (hg_ad E 50))] rfl (Nat.le_of_ble_eq_true rfl) ?_
  intro p e s m args below meth c cx
  have cx : hg_Cx E p s m args meth c cX6_reads 1 RX6 none := cx
  have hbL := sp_b_le f hen
  refine hg_nm (fun μ hμ => ?_)
  refine hg_loop (α := hg_Mem × Nat) (I := fun z => en ≤ z.2 ∧ z.2 ≤ L ∧ mk_Fr σ z.1 ∧ z.1.1 50 10 = nI z.2 ∧ sp_b f L en = sp_eor f 32 32 (L - z.2) z.2) (P := fun z => hg_G E p l e { frames := 2, cells := 0, slots := 0, locals := 46 } s m args below meth c 1 (MQ below (hg_Qc E (hg_pv (fun τ => mk_At τ f L (sp_b f L en) ∧ mk_Fr σ τ))) args s 0 0 (hg_AW E)) z.1 0 [some (.ref (hg_ad E 50))] []) (fun z => L - z.2) ?_ (μ, en) ?_
  rotate_left
  · subst hμ
    try dsimp only
    exact ⟨Nat.le_refl _, hen, mk_Fr.rf _, h10, rfl⟩
  clear hμ μ
  rintro ⟨τ, a⟩ hI ih_0
  try dsimp only at hI ih_0 ⊢
  have haL := hI.2.1
  have hF0 := hI.2.2.1
  have ht0 := ht.fr hF0
  refine hg_aload0 (pc' := 1) cx dX6_reads_0 rfl ?_
  refine hg_aload0 (pc' := 2) cx dX6_reads_1 rfl ?_
  refine gf_X6_157 (pc' := 5) cx dX6_reads_2 rfl ?_
  rw [hI.2.2.2.1]
  refine hg_bipush (pc' := 7) cx 32 dX6_reads_5 (by decide) rfl ?_
  refine hg_bipush (pc' := 9) cx 32 dX6_reads_7 (by decide) rfl ?_
  refine cv_X6_164 (pc' := 12) cx (K_X6_isByte l E _ f L hL ht0 a (by omega) 32 32) ⟨rfl, rfl, Nat.le_of_ble_eq_true rfl, Nat.le_of_ble_eq_true rfl⟩ (Nat.le_of_ble_eq_true rfl) dX6_reads_9 rfl (fun r_9 τ_9 h_9 => ?_)
  obtain ⟨rfl, rfl⟩ := h_9
  refine hg_if_eq (pc' := 15) cx 28 dX6_reads_12 (by decide) rfl (fun c_12 => ?_) (fun c_12 => ?_)
  ·
    have q12 := hg_b0 c_12
    have hab : sp_b f L en = a := by
      rw [hI.2.2.2.2]
      rcases Nat.lt_or_ge a L with q | q
      · rw [show L - a = (L - (a + 1)) + 1 by omega, sp_eor, if_neg (fun z => q12 ⟨q, z⟩)]
      · rw [show L - a = 0 by omega, sp_eor]
    have t10 := hI.2.2.2.1
    clear hI ih_0
    subst hab
    refine hg_aload0 (pc' := 29) cx dX6_reads_28 rfl ?_
    refine hg_aload0 (pc' := 30) cx dX6_reads_29 rfl ?_
    refine gf_X6_157 (pc' := 33) cx dX6_reads_30 rfl ?_
    rw [t10]
    refine pf_X6_154 (pc' := 36) cx dX6_reads_33 rfl ?_
    refine hg_aload0 (pc' := 37) cx dX6_reads_36 rfl ?_
    refine hg_iconst (pc' := 38) cx 0 dX6_reads_37 (by decide) rfl ?_
    refine pf_X6_168 (pc' := 41) cx dX6_reads_38 rfl ?_
    refine hg_nm (fun ω hω => ?_)
    have w9 : ω.1 50 9 = nI (sp_b f L en) := by rw [hω]; simp (decide := true) only [ck_get, if_true, if_false]
    have w10 : ω.1 50 10 = nI (sp_b f L en) := by rw [hω]; simp (decide := true) only [ck_get, if_true, if_false]; exact t10
    have w11 : ω.1 50 11 = 0 := by rw [hω]; simp (decide := true) only [ck_get, if_true, if_false]
    have hωF : mk_Fr σ ω := by rw [hω]; exact hF0.tr ((mk_put _ _ (by decide)).tr (mk_put _ _ (by decide)))
    have htω := ht.fr hωF
    clear hω
    refine hg_aload0 (pc' := 42) cx dX6_reads_41 rfl ?_
    refine gf_X6_157 (pc' := 45) cx dX6_reads_42 rfl ?_
    rw [w10]
    refine hg_aload0 (pc' := 46) cx dX6_reads_45 rfl ?_
    refine gf_X6_147 (pc' := 49) cx dX6_reads_46 rfl ?_
    rw [htω.1]
    refine hg_icmp_ne (pc' := 52) cx 61 dX6_reads_49 (by decide) rfl (fun c_49 => ?_) (fun c_49 => ?_)
    ·
      have hbl : (sp_b f L en) < L := Nat.lt_of_le_of_ne hbL (fun z => c_49 (by rw [z]))
      refine hg_aload0 (pc' := 62) cx dX6_reads_61 rfl ?_
      refine hg_aload0 (pc' := 63) cx dX6_reads_62 rfl ?_
      refine gf_X6_157 (pc' := 66) cx dX6_reads_63 rfl ?_
      rw [w10]
      refine hg_bipush (pc' := 68) cx 97 dX6_reads_66 (by decide) rfl ?_
      refine hg_bipush (pc' := 70) cx 122 dX6_reads_68 (by decide) rfl ?_
      refine cv_X6_164 (pc' := 73) cx (K_X6_isByte l E _ f L hL htω (sp_b f L en) (by omega) 97 122) ⟨rfl, rfl, Nat.le_of_ble_eq_true rfl, Nat.le_of_ble_eq_true rfl⟩ (Nat.le_of_ble_eq_true rfl) dX6_reads_70 rfl (fun r_70 τ_70 h_70 => ?_)
      obtain ⟨rfl, rfl⟩ := h_70
      refine hg_if_eq (pc' := 76) cx 115 dX6_reads_73 (by decide) rfl (fun c_73 => ?_) (fun c_73 => ?_)
      ·
        have n1 : ¬ (97 ≤ f (sp_b f L en) ∧ f (sp_b f L en) ≤ 122) := fun z => hg_b0 c_73 ⟨hbl, z⟩
        refine hg_aload0 (pc' := 116) cx dX6_reads_115 rfl ?_
        refine hg_aload0 (pc' := 117) cx dX6_reads_116 rfl ?_
        refine gf_X6_157 (pc' := 120) cx dX6_reads_117 rfl ?_
        rw [w10]
        refine hg_bipush (pc' := 122) cx 48 dX6_reads_120 (by decide) rfl ?_
        refine hg_bipush (pc' := 124) cx 57 dX6_reads_122 (by decide) rfl ?_
        refine cv_X6_164 (pc' := 127) cx (K_X6_isByte l E _ f L hL htω (sp_b f L en) (by omega) 48 57) ⟨rfl, rfl, Nat.le_of_ble_eq_true rfl, Nat.le_of_ble_eq_true rfl⟩ (Nat.le_of_ble_eq_true rfl) dX6_reads_124 rfl (fun r_124 τ_124 h_124 => ?_)
        obtain ⟨rfl, rfl⟩ := h_124
        refine hg_if_eq (pc' := 130) cx 208 dX6_reads_127 (by decide) rfl (fun c_127 => ?_) (fun c_127 => ?_)
        ·
          have n2 : ¬ (48 ≤ f (sp_b f L en) ∧ f (sp_b f L en) ≤ 57) := fun z => hg_b0 c_127 ⟨hbl, z⟩
          refine hg_aload0 (pc' := 209) cx dX6_reads_208 rfl ?_
          refine hg_aload0 (pc' := 210) cx dX6_reads_209 rfl ?_
          refine hg_aload0 (pc' := 211) cx dX6_reads_210 rfl ?_
          refine gf_X6_157 (pc' := 214) cx dX6_reads_211 rfl ?_
          rw [w10]
          refine hg_bipush (pc' := 216) cx 59 dX6_reads_214 (by decide) rfl ?_
          refine hg_bipush (pc' := 218) cx 59 dX6_reads_216 (by decide) rfl ?_
          refine cv_X6_164 (pc' := 221) cx (K_X6_isByte l E _ f L hL htω (sp_b f L en) (by omega) 59 59) ⟨rfl, rfl, Nat.le_of_ble_eq_true rfl, Nat.le_of_ble_eq_true rfl⟩ (Nat.le_of_ble_eq_true rfl) dX6_reads_218 rfl (fun r_218 τ_218 h_218 => ?_)
          obtain ⟨rfl, rfl⟩ := h_218
          refine hg_if_eq (pc' := 224) cx 229 dX6_reads_221 (by decide) rfl (fun c_221 => ?_) (fun c_221 => ?_)
          ·
            have n3 : ¬ (59 ≤ f (sp_b f L en) ∧ f (sp_b f L en) ≤ 59) := fun z => hg_b0 c_221 ⟨hbl, z⟩
            refine hg_bipush (pc' := 231) cx (nI 23) dX6_reads_229 (by decide) rfl ?_
            refine pf_X6_171 (pc' := 234) cx dX6_reads_231 rfl ?_
            refine hg_aload0 (pc' := 235) cx dX6_reads_234 rfl ?_
            refine hg_dup (pc' := 236) cx rfl dX6_reads_235 rfl ?_
            refine gf_X6_157 (pc' := 239) cx dX6_reads_236 rfl ?_
            rw [ck_get, if_neg (by decide), w10]
            refine hg_iconst (pc' := 240) cx 1 dX6_reads_239 (by decide) rfl ?_
            refine hg_iadd (pc' := 241) cx dX6_reads_240 rfl ?_
            rw [nI_1]
            refine pf_X6_157 (pc' := 244) cx dX6_reads_241 rfl ?_
            refine hg_vret cx dX6_reads_244 ⟨rfl, ?_⟩
            have ec : sp_c f L (sp_b f L en) = 4 := by unfold sp_c; rw [if_neg (show ¬ L ≤ (sp_b f L en) by omega), if_neg n1, if_neg n2, if_neg n3]
            have eT : sp_T f L (sp_b f L en) = 23 := by unfold sp_T; rw [if_neg (show ¬ L ≤ (sp_b f L en) by omega), if_neg n1, if_neg n2, if_neg n3]
            have ee : sp_e f L (sp_b f L en) = (sp_b f L en) + 1 := by unfold sp_e; rw [if_neg (show ¬ L ≤ (sp_b f L en) by omega), if_neg n1, if_neg n2]
            refine ⟨⟨?_, ?_, ?_, ?_⟩, hωF.tr ((mk_put _ _ (by decide)).tr (mk_put _ _ (by decide)))⟩
            · rw [eT]; simp (decide := true) only [ck_get, if_true, if_false]
            · simp (decide := true) only [ck_get, if_true, if_false]; exact w9
            · rw [ee]; simp (decide := true) only [ck_get, if_true, if_false]
            · rw [if_neg (by omega)]; simp (decide := true) only [ck_get, if_true, if_false]; exact w11
          ·
            have y3 : 59 ≤ f (sp_b f L en) ∧ f (sp_b f L en) ≤ 59 := (hg_b1 c_221).2
            refine hg_bipush (pc' := 226) cx (nI 21) dX6_reads_224 (by decide) rfl ?_
            refine hg_goto cx 231 dX6_reads_226 (by decide) ?_
            refine pf_X6_171 (pc' := 234) cx dX6_reads_231 rfl ?_
            refine hg_aload0 (pc' := 235) cx dX6_reads_234 rfl ?_
            refine hg_dup (pc' := 236) cx rfl dX6_reads_235 rfl ?_
            refine gf_X6_157 (pc' := 239) cx dX6_reads_236 rfl ?_
            rw [ck_get, if_neg (by decide), w10]
            refine hg_iconst (pc' := 240) cx 1 dX6_reads_239 (by decide) rfl ?_
            refine hg_iadd (pc' := 241) cx dX6_reads_240 rfl ?_
            rw [nI_1]
            refine pf_X6_157 (pc' := 244) cx dX6_reads_241 rfl ?_
            refine hg_vret cx dX6_reads_244 ⟨rfl, ?_⟩
            have ec : sp_c f L (sp_b f L en) = 3 := by unfold sp_c; rw [if_neg (show ¬ L ≤ (sp_b f L en) by omega), if_neg n1, if_neg n2, if_pos y3]
            have eT : sp_T f L (sp_b f L en) = 21 := by unfold sp_T; rw [if_neg (show ¬ L ≤ (sp_b f L en) by omega), if_neg n1, if_neg n2, if_pos y3]
            have ee : sp_e f L (sp_b f L en) = (sp_b f L en) + 1 := by unfold sp_e; rw [if_neg (show ¬ L ≤ (sp_b f L en) by omega), if_neg n1, if_neg n2]
            refine ⟨⟨?_, ?_, ?_, ?_⟩, hωF.tr ((mk_put _ _ (by decide)).tr (mk_put _ _ (by decide)))⟩
            · rw [eT]; simp (decide := true) only [ck_get, if_true, if_false]
            · simp (decide := true) only [ck_get, if_true, if_false]; exact w9
            · rw [ee]; simp (decide := true) only [ck_get, if_true, if_false]
            · rw [if_neg (by omega)]; simp (decide := true) only [ck_get, if_true, if_false]; exact w11
        ·
          have y2 : 48 ≤ f (sp_b f L en) ∧ f (sp_b f L en) ≤ 57 := (hg_b1 c_127).2
          refine hg_nm (fun μ hμ => ?_)
          refine hg_loop (α := hg_Mem × Nat) (I := fun z => (sp_b f L en) ≤ z.2 ∧ z.2 ≤ L ∧ mk_Fo ω z.1 ∧ z.1.1 50 10 = nI z.2 ∧ (sp_eor f 48 57 (L - (sp_b f L en)) (sp_b f L en)) = sp_eor f 48 57 (L - z.2) z.2 ∧ sp_val f ((sp_eor f 48 57 (L - (sp_b f L en)) (sp_b f L en)) - (sp_b f L en)) (sp_b f L en) 0 = sp_val f ((sp_eor f 48 57 (L - (sp_b f L en)) (sp_b f L en)) - z.2) z.2 (z.1.1 50 11)) (P := fun z => hg_G E p l e { frames := 2, cells := 0, slots := 0, locals := 46 } s m args below meth c 1 (MQ below (hg_Qc E (hg_pv (fun τ => mk_At τ f L (sp_b f L en) ∧ mk_Fr σ τ))) args s 0 0 (hg_AW E)) z.1 130 [some (.ref (hg_ad E 50))] []) (fun z => L - z.2) ?_ (μ, (sp_b f L en)) ?_
          rotate_left
          · subst hμ
            try dsimp only
            exact ⟨Nat.le_refl _, hbL, mk_Fo.rf _, w10, rfl, by rw [w11]⟩
          clear hμ μ
          rintro ⟨ρ, a⟩ hI ih_130
          try dsimp only at hI ih_130 ⊢
          have haL := hI.2.1
          have htρ := htω.fr hI.2.2.1.fr
          refine hg_aload0 (pc' := 131) cx dX6_reads_130 rfl ?_
          refine hg_aload0 (pc' := 132) cx dX6_reads_131 rfl ?_
          refine gf_X6_157 (pc' := 135) cx dX6_reads_132 rfl ?_
          rw [hI.2.2.2.1]
          refine hg_bipush (pc' := 137) cx 48 dX6_reads_135 (by decide) rfl ?_
          refine hg_bipush (pc' := 139) cx 57 dX6_reads_137 (by decide) rfl ?_
          refine cv_X6_164 (pc' := 142) cx (K_X6_isByte l E _ f L hL htρ a (by omega) 48 57) ⟨rfl, rfl, Nat.le_of_ble_eq_true rfl, Nat.le_of_ble_eq_true rfl⟩ (Nat.le_of_ble_eq_true rfl) dX6_reads_139 rfl (fun r_139 τ_139 h_139 => ?_)
          obtain ⟨rfl, rfl⟩ := h_139
          refine hg_if_eq (pc' := 145) cx 199 dX6_reads_142 (by decide) rfl (fun c_142 => ?_) (fun c_142 => ?_)
          ·
            have q142 := hg_b0 c_142
            have eE : (sp_eor f 48 57 (L - (sp_b f L en)) (sp_b f L en)) = a := by
              rw [hI.2.2.2.2.1]
              rcases Nat.lt_or_ge a L with q | q
              · rw [show L - a = (L - (a + 1)) + 1 by omega, sp_eor, if_neg (fun z => q142 ⟨q, z⟩)]
              · rw [show L - a = 0 by omega, sp_eor]
            refine hg_aload0 (pc' := 200) cx dX6_reads_199 rfl ?_
            refine hg_bipush (pc' := 202) cx (nI 20) dX6_reads_200 (by decide) rfl ?_
            refine pf_X6_171 (pc' := 205) cx dX6_reads_202 rfl ?_
            refine hg_goto cx 244 dX6_reads_205 (by decide) ?_
            refine hg_vret cx dX6_reads_244 ⟨rfl, ?_⟩
            have ec : sp_c f L (sp_b f L en) = 2 := by unfold sp_c; rw [if_neg (show ¬ L ≤ (sp_b f L en) by omega), if_neg n1, if_pos y2]
            have eT : sp_T f L (sp_b f L en) = 20 := by unfold sp_T; rw [if_neg (show ¬ L ≤ (sp_b f L en) by omega), if_neg n1, if_pos y2]
            have ee : sp_e f L (sp_b f L en) = a := by unfold sp_e; rw [if_neg (show ¬ L ≤ (sp_b f L en) by omega), if_neg n1, if_pos y2, eE]
            refine ⟨⟨?_, ?_, ?_, ?_⟩, hωF.tr (hI.2.2.1.fr.tr (mk_put _ _ (by decide)))⟩
            · rw [eT]; simp (decide := true) only [ck_get, if_true, if_false]
            · simp (decide := true) only [ck_get, if_true, if_false]; exact (hI.2.2.1.2.2 9 (by decide) (by decide)).trans w9
            · rw [ee]; simp (decide := true) only [ck_get, if_true, if_false]; exact hI.2.2.2.1
            · rw [if_pos ec]; simp (decide := true) only [ck_get, if_true, if_false]
              have q := hI.2.2.2.2.2
              rw [eE, Nat.sub_self, sp_val] at q
              unfold sp_v
              rw [ee]; exact q.symm
          ·
            have q142 := hg_b1 c_142
            have hal : a < L := q142.1
            have haE : a < (sp_eor f 48 57 (L - (sp_b f L en)) (sp_b f L en)) := by
              rw [hI.2.2.2.2.1, show L - a = (L - (a + 1)) + 1 by omega, sp_eor, if_pos q142.2]
              have := sp_eor_ge f 48 57 (L - (a + 1)) (a + 1)
              omega
            refine hg_aload0 (pc' := 146) cx dX6_reads_145 rfl ?_
            refine hg_aload0 (pc' := 147) cx dX6_reads_146 rfl ?_
            refine gf_X6_168 (pc' := 150) cx dX6_reads_147 rfl ?_
            refine hg_sipush (pc' := 153) cx 999 dX6_reads_150 (by decide) rfl ?_
            refine hg_icmp_le (pc' := 156) cx 163 dX6_reads_153 (by decide) rfl (fun c_153 => ?_) (fun c_153 => ?_)
            ·
              refine hg_bipush (pc' := 165) cx 10 dX6_reads_163 (by decide) rfl ?_
              refine hg_aload0 (pc' := 166) cx dX6_reads_165 rfl ?_
              refine gf_X6_168 (pc' := 169) cx dX6_reads_166 rfl ?_
              refine hg_imul (pc' := 170) cx dX6_reads_169 rfl ?_
              refine hg_aload0 (pc' := 171) cx dX6_reads_170 rfl ?_
              refine gf_X6_25 (pc' := 174) cx dX6_reads_171 rfl ?_
              refine hg_aload0 (pc' := 175) cx dX6_reads_174 rfl ?_
              refine gf_X6_157 (pc' := 178) cx dX6_reads_175 rfl ?_
              rw [hI.2.2.2.1]
              refine hg_iald2 (pc' := 179) cx (by decide) (hg_ceI56 E) (by first | assumption | omega | decide) (by decide) dX6_reads_178 rfl ?_
              rw [htρ.2 a (by omega)]
              refine hg_iadd (pc' := 180) cx dX6_reads_179 rfl ?_
              refine hg_bipush (pc' := 182) cx 48 dX6_reads_180 (by decide) rfl ?_
              refine hg_isub (pc' := 183) cx dX6_reads_182 rfl ?_
              refine pf_X6_168 (pc' := 186) cx dX6_reads_183 rfl ?_
              refine hg_aload0 (pc' := 187) cx dX6_reads_186 rfl ?_
              refine hg_dup (pc' := 188) cx rfl dX6_reads_187 rfl ?_
              refine gf_X6_157 (pc' := 191) cx dX6_reads_188 rfl ?_
              rw [ck_get, if_neg (by decide), hI.2.2.2.1]
              refine hg_iconst (pc' := 192) cx 1 dX6_reads_191 (by decide) rfl ?_
              refine hg_iadd (pc' := 193) cx dX6_reads_192 rfl ?_
              rw [nI_1]
              refine pf_X6_157 (pc' := 196) cx dX6_reads_193 rfl ?_
              refine hg_goto cx 130 dX6_reads_196 (by decide) ?_
              refine hg_nm (fun μ hμ => ?_)
              refine ih_130 (μ, a + 1) ?_ ?_
              · subst hμ
                try dsimp only
                refine ⟨by omega, by omega, hI.2.2.1.tr ((mk_putO _ _ (by decide)).tr (mk_putO _ _ (by decide))), by rw [ck_get, if_pos rfl], ?_, ?_⟩
                · rw [hI.2.2.2.2.1, show L - a = (L - (a + 1)) + 1 by omega, sp_eor, if_pos q142.2]
                · rw [hI.2.2.2.2.2, show (sp_eor f 48 57 (L - (sp_b f L en)) (sp_b f L en)) - a = ((sp_eor f 48 57 (L - (sp_b f L en)) (sp_b f L en)) - (a + 1)) + 1 by omega, sp_val]
                  simp (decide := true) only [ck_get, if_true, if_false]
                  first
                    | (rw [if_pos ((sp_le999 _).mp c_153), Int32.mul_comm]; done)
                    | (have q := fun z => c_153 ((sp_le999 _).mpr z)
                       rw [if_neg q, sp_val_big f q])
              · show L - (a + 1) < L - a
                omega
            ·
              refine hg_aload0 (pc' := 157) cx dX6_reads_156 rfl ?_
              refine gf_X6_168 (pc' := 160) cx dX6_reads_157 rfl ?_
              refine hg_goto cx 183 dX6_reads_160 (by decide) ?_
              refine pf_X6_168 (pc' := 186) cx dX6_reads_183 rfl ?_
              refine hg_aload0 (pc' := 187) cx dX6_reads_186 rfl ?_
              refine hg_dup (pc' := 188) cx rfl dX6_reads_187 rfl ?_
              refine gf_X6_157 (pc' := 191) cx dX6_reads_188 rfl ?_
              rw [ck_get, if_neg (by decide), hI.2.2.2.1]
              refine hg_iconst (pc' := 192) cx 1 dX6_reads_191 (by decide) rfl ?_
              refine hg_iadd (pc' := 193) cx dX6_reads_192 rfl ?_
              rw [nI_1]
              refine pf_X6_157 (pc' := 196) cx dX6_reads_193 rfl ?_
              refine hg_goto cx 130 dX6_reads_196 (by decide) ?_
              refine hg_nm (fun μ hμ => ?_)
              refine ih_130 (μ, a + 1) ?_ ?_
              · subst hμ
                try dsimp only
                refine ⟨by omega, by omega, hI.2.2.1.tr ((mk_putO _ _ (by decide)).tr (mk_putO _ _ (by decide))), by rw [ck_get, if_pos rfl], ?_, ?_⟩
                · rw [hI.2.2.2.2.1, show L - a = (L - (a + 1)) + 1 by omega, sp_eor, if_pos q142.2]
                · rw [hI.2.2.2.2.2, show (sp_eor f 48 57 (L - (sp_b f L en)) (sp_b f L en)) - a = ((sp_eor f 48 57 (L - (sp_b f L en)) (sp_b f L en)) - (a + 1)) + 1 by omega, sp_val]
                  simp (decide := true) only [ck_get, if_true, if_false]
                  first
                    | (rw [if_pos ((sp_le999 _).mp c_153), Int32.mul_comm]; done)
                    | (have q := fun z => c_153 ((sp_le999 _).mpr z)
                       rw [if_neg q, sp_val_big f q])
              · show L - (a + 1) < L - a
                omega
      ·
        have y1 : 97 ≤ f (sp_b f L en) ∧ f (sp_b f L en) ≤ 122 := (hg_b1 c_73).2
        refine hg_nm (fun μ hμ => ?_)
        refine hg_loop (α := hg_Mem × Nat) (I := fun z => (sp_b f L en) ≤ z.2 ∧ z.2 ≤ L ∧ mk_Fo ω z.1 ∧ z.1.1 50 10 = nI z.2 ∧ z.1.1 50 11 = 0 ∧ sp_eor f 97 122 (L - (sp_b f L en)) (sp_b f L en) = sp_eor f 97 122 (L - z.2) z.2) (P := fun z => hg_G E p l e { frames := 2, cells := 0, slots := 0, locals := 46 } s m args below meth c 1 (MQ below (hg_Qc E (hg_pv (fun τ => mk_At τ f L (sp_b f L en) ∧ mk_Fr σ τ))) args s 0 0 (hg_AW E)) z.1 76 [some (.ref (hg_ad E 50))] []) (fun z => L - z.2) ?_ (μ, (sp_b f L en)) ?_
        rotate_left
        · subst hμ
          try dsimp only
          exact ⟨Nat.le_refl _, hbL, mk_Fo.rf _, w10, w11, rfl⟩
        clear hμ μ
        rintro ⟨ρ, a⟩ hI ih_76
        try dsimp only at hI ih_76 ⊢
        have haL := hI.2.1
        have htρ := htω.fr hI.2.2.1.fr
        refine hg_aload0 (pc' := 77) cx dX6_reads_76 rfl ?_
        refine hg_aload0 (pc' := 78) cx dX6_reads_77 rfl ?_
        refine gf_X6_157 (pc' := 81) cx dX6_reads_78 rfl ?_
        rw [hI.2.2.2.1]
        refine hg_bipush (pc' := 83) cx 97 dX6_reads_81 (by decide) rfl ?_
        refine hg_bipush (pc' := 85) cx 122 dX6_reads_83 (by decide) rfl ?_
        refine cv_X6_164 (pc' := 88) cx (K_X6_isByte l E _ f L hL htρ a (by omega) 97 122) ⟨rfl, rfl, Nat.le_of_ble_eq_true rfl, Nat.le_of_ble_eq_true rfl⟩ (Nat.le_of_ble_eq_true rfl) dX6_reads_85 rfl (fun r_85 τ_85 h_85 => ?_)
        obtain ⟨rfl, rfl⟩ := h_85
        refine hg_if_eq (pc' := 91) cx 104 dX6_reads_88 (by decide) rfl (fun c_88 => ?_) (fun c_88 => ?_)
        ·
          have q88 := hg_b0 c_88
          have eE : sp_eor f 97 122 (L - (sp_b f L en)) (sp_b f L en) = a := by
            rw [hI.2.2.2.2.2]
            rcases Nat.lt_or_ge a L with q | q
            · rw [show L - a = (L - (a + 1)) + 1 by omega, sp_eor, if_neg (fun z => q88 ⟨q, z⟩)]
            · rw [show L - a = 0 by omega, sp_eor]
          refine hg_aload0 (pc' := 105) cx dX6_reads_104 rfl ?_
          refine hg_aload0 (pc' := 106) cx dX6_reads_105 rfl ?_
          refine cv_X6_174 (pc' := 109) cx (K_X6_wordHere l E _ f L hL htρ (sp_b f L en) a hI.1 hI.2.1 ((hI.2.2.1.2.2 9 (by decide) (by decide)).trans w9) hI.2.2.2.1 (fun j h1 h2 z => by have q := (sp_eor_all f 97 122 _ _ j h1 (by rw [eE]; exact h2)).1; rw [z] at q; exact absurd q (by decide))) ⟨rfl, rfl, Nat.le_of_ble_eq_true rfl, Nat.le_of_ble_eq_true rfl⟩ (Nat.le_of_ble_eq_true rfl) dX6_reads_106 rfl (fun r_106 τ_106 h_106 => ?_)
          obtain ⟨rfl, rfl⟩ := h_106
          refine pf_X6_171 (pc' := 112) cx dX6_reads_109 rfl ?_
          refine hg_goto cx 244 dX6_reads_112 (by decide) ?_
          refine hg_vret cx dX6_reads_244 ⟨rfl, ?_⟩
          have ec : sp_c f L (sp_b f L en) = 1 := by unfold sp_c; rw [if_neg (show ¬ L ≤ (sp_b f L en) by omega), if_pos y1]
          have eT : sp_T f L (sp_b f L en) = sp_fw f (sp_b f L en) a 14 0 := by unfold sp_T; rw [if_neg (show ¬ L ≤ (sp_b f L en) by omega), if_pos y1, show sp_e f L (sp_b f L en) = a from by unfold sp_e; rw [if_neg (show ¬ L ≤ (sp_b f L en) by omega), if_pos y1, eE]]
          have ee : sp_e f L (sp_b f L en) = a := by unfold sp_e; rw [if_neg (show ¬ L ≤ (sp_b f L en) by omega), if_pos y1, eE]
          refine ⟨⟨?_, ?_, ?_, ?_⟩, hωF.tr (hI.2.2.1.fr.tr (mk_put _ _ (by decide)))⟩
          · rw [eT]; simp (decide := true) only [ck_get, if_true, if_false]
          · simp (decide := true) only [ck_get, if_true, if_false]; exact (hI.2.2.1.2.2 9 (by decide) (by decide)).trans w9
          · rw [ee]; simp (decide := true) only [ck_get, if_true, if_false]; exact hI.2.2.2.1
          · rw [if_neg (by omega)]; simp (decide := true) only [ck_get, if_true, if_false]; exact hI.2.2.2.2.1
        ·
          have q88 := hg_b1 c_88
          have hal : a < L := q88.1
          refine hg_aload0 (pc' := 92) cx dX6_reads_91 rfl ?_
          refine hg_dup (pc' := 93) cx rfl dX6_reads_92 rfl ?_
          refine gf_X6_157 (pc' := 96) cx dX6_reads_93 rfl ?_
          rw [hI.2.2.2.1]
          refine hg_iconst (pc' := 97) cx 1 dX6_reads_96 (by decide) rfl ?_
          refine hg_iadd (pc' := 98) cx dX6_reads_97 rfl ?_
          rw [nI_1]
          refine pf_X6_157 (pc' := 101) cx dX6_reads_98 rfl ?_
          refine hg_goto cx 76 dX6_reads_101 (by decide) ?_
          refine hg_nm (fun μ hμ => ?_)
          refine ih_76 (μ, a + 1) ?_ ?_
          · subst hμ
            try dsimp only
            refine ⟨by omega, by omega, hI.2.2.1.tr (mk_putO _ _ (by decide)), by rw [ck_get, if_pos rfl], by rw [ck_get, if_neg (by decide)]; exact hI.2.2.2.2.1, ?_⟩
            rw [hI.2.2.2.2.2, show L - a = (L - (a + 1)) + 1 by omega, sp_eor, if_pos q88.2]
          · show L - (a + 1) < L - a
            omega
    ·
      have hbl : L ≤ (sp_b f L en) := Nat.le_of_eq ((nI_eq (by omega) (by omega)).mp c_49).symm
      refine hg_aload0 (pc' := 53) cx dX6_reads_52 rfl ?_
      refine hg_bipush (pc' := 55) cx (nI 22) dX6_reads_53 (by decide) rfl ?_
      refine pf_X6_171 (pc' := 58) cx dX6_reads_55 rfl ?_
      refine hg_goto cx 244 dX6_reads_58 (by decide) ?_
      refine hg_vret cx dX6_reads_244 ⟨rfl, ?_⟩
      have ec : sp_c f L (sp_b f L en) = 0 := by unfold sp_c; rw [if_pos hbl]
      have eT : sp_T f L (sp_b f L en) = 22 := by unfold sp_T; rw [if_pos hbl]
      have ee : sp_e f L (sp_b f L en) = (sp_b f L en) := by unfold sp_e; rw [if_pos hbl]
      refine ⟨⟨?_, ?_, ?_, ?_⟩, hωF.tr (mk_put _ _ (by decide))⟩
      · rw [eT]; simp (decide := true) only [ck_get, if_true, if_false]
      · simp (decide := true) only [ck_get, if_true, if_false]; exact w9
      · rw [ee]; simp (decide := true) only [ck_get, if_true, if_false]; exact w10
      · rw [if_neg (by omega)]; simp (decide := true) only [ck_get, if_true, if_false]; exact w11
  ·
    have q12 := hg_b1 c_12
    refine hg_aload0 (pc' := 16) cx dX6_reads_15 rfl ?_
    refine hg_dup (pc' := 17) cx rfl dX6_reads_16 rfl ?_
    refine gf_X6_157 (pc' := 20) cx dX6_reads_17 rfl ?_
    rw [hI.2.2.2.1]
    refine hg_iconst (pc' := 21) cx 1 dX6_reads_20 (by decide) rfl ?_
    refine hg_iadd (pc' := 22) cx dX6_reads_21 rfl ?_
    rw [nI_1]
    refine pf_X6_157 (pc' := 25) cx dX6_reads_22 rfl ?_
    refine hg_goto cx 0 dX6_reads_25 (by decide) ?_
    refine hg_nm (fun μ hμ => ?_)
    refine ih_0 (μ, a + 1) ?_ ?_
    · subst hμ
      try dsimp only
      refine ⟨by omega, by omega, hF0.tr (mk_put _ _ (by decide)), by rw [ck_get, if_pos rfl], ?_⟩
      rw [hI.2.2.2.2, show L - a = (L - (a + 1)) + 1 by omega, sp_eor, if_pos q12.2]
    · show L - (a + 1) < L - a
      have := q12.1
      omega
set_option maxHeartbeats 4000000 in
set_option maxRecDepth 100000 in
theorem K_X6_passes (l : Launch) (E : hg_Wd) (σ : hg_Mem) (f : Nat → Int32) (L : Nat) (hL : L ≤ 120) (ht : mk_T σ f L) (ok : Bool) (b : Nat) (hb : b ≤ L) (hS : mk_St σ f L ok b) (w : Nat) (hw : w < 30) : hg_C l E yX6_passes cX6_passes 2 (some .boolean) { frames := 3, cells := 0, slots := 0, locals := 66 } [.ref (hg_ad E 50), .int (nI w)] σ (hg_pi (fun r τ => (ok = true ∧ sp_T f L b = w ∧ r = 1 ∧ mk_St τ f L true (sp_nx f L b) ∧ mk_Fr σ τ) ∨ (¬ (ok = true ∧ sp_T f L b = w) ∧ r = 0 ∧ σ = τ))) := by
  refine hg_intro (by decide) [some (.ref (hg_ad E 50)), some (.int (nI w))] rfl (Nat.le_of_ble_eq_true rfl) ?_
  intro p e s m args below meth c cx
  have cx : hg_Cx E p s m args meth c cX6_passes 2 RX6 (some .boolean) := cx
  refine hg_aload0 (pc' := 1) cx dX6_passes_0 rfl ?_
  refine gf_X6_177 (pc' := 4) cx dX6_passes_1 rfl ?_
  refine hg_if_ne (pc' := 7) cx 15 dX6_passes_4 (by decide) rfl (fun c_4 => ?_) (fun c_4 => ?_)
  ·
    have s4 := hS.no c_4
    refine hg_iconst (pc' := 16) cx 0 dX6_passes_15 (by decide) rfl ?_
    refine hg_zret cx rfl dX6_passes_16 ⟨_, rfl, ?_⟩
    exact Or.inr ⟨fun z => Bool.noConfusion (s4.1.symm.trans z.1), rfl, rfl⟩
  ·
    obtain ⟨s4, A4⟩ := hS.ok c_4
    refine hg_aload0 (pc' := 8) cx dX6_passes_7 rfl ?_
    refine gf_X6_171 (pc' := 11) cx dX6_passes_8 rfl ?_
    rw [A4.1]
    refine hg_iload1 (pc' := 12) cx dX6_passes_11 rfl ?_
    refine hg_icmp_eq (pc' := 15) cx 17 dX6_passes_12 (by decide) rfl (fun c_12 => ?_) (fun c_12 => ?_)
    ·
      refine hg_aload0 (pc' := 18) cx dX6_passes_17 rfl ?_
      refine cv_X6_181 (pc' := 21) cx (K_X6_reads l E _ f L hL ht (sp_e f L b) (sp_e_le f hb) A4.2.2.1) ⟨rfl, rfl, Nat.le_of_ble_eq_true rfl, Nat.le_of_ble_eq_true rfl⟩ (Nat.le_of_ble_eq_true rfl) dX6_passes_18 rfl (fun τ_18 h_18 => ?_)
      skip
      refine hg_iconst (pc' := 22) cx 1 dX6_passes_21 (by decide) rfl ?_
      refine hg_zret cx rfl dX6_passes_22 ⟨_, rfl, ?_⟩
      exact Or.inl ⟨s4, (nI_eq (by have := sp_T_24 f L b; omega) (by omega)).mp c_12, rfl, Or.inl ⟨rfl, by rw [h_18.2.2.2 12 (by decide)]; exact c_4, h_18.1⟩, h_18.2⟩
    ·
      refine hg_iconst (pc' := 16) cx 0 dX6_passes_15 (by decide) rfl ?_
      refine hg_zret cx rfl dX6_passes_16 ⟨_, rfl, ?_⟩
      exact Or.inr ⟨fun z => c_12 (by rw [z.2]), rfl, rfl⟩
set_option maxHeartbeats 4000000 in
set_option maxRecDepth 100000 in
theorem K_X6_number (l : Launch) (E : hg_Wd) (σ : hg_Mem) (f : Nat → Int32) (L : Nat) (hL : L ≤ 120) (ht : mk_T σ f L) (ok : Bool) (b : Nat) (hb : b ≤ L) (hS : mk_St σ f L ok b) (most : Int32) : hg_C l E yX6_number cX6_number 4 (some .int) { frames := 3, cells := 0, slots := 0, locals := 66 } [.ref (hg_ad E 50), .int 0, .int most] σ (hg_pi (fun r τ => mk_St τ f L (ok && decide (sp_num f L b most)) (if (ok && decide (sp_num f L b most)) = true then sp_nx f L b else b) ∧ ((ok && decide (sp_num f L b most)) = true → r = sp_v f L b) ∧ mk_Fb σ τ)) := by
  refine hg_intro (by decide) [some (.ref (hg_ad E 50)), some (.int 0), some (.int most), none] rfl (Nat.le_of_ble_eq_true rfl) ?_
  intro p e s m args below meth c cx
  have cx : hg_Cx E p s m args meth c cX6_number 4 RX6 (some .int) := cx
  refine hg_aload0 (pc' := 1) cx dX6_number_0 rfl ?_
  refine gf_X6_168 (pc' := 4) cx dX6_number_1 rfl ?_
  refine hg_istore3 (pc' := 5) cx rfl dX6_number_4 rfl ?_
  refine hg_aload0 (pc' := 6) cx dX6_number_5 rfl ?_
  refine hg_aload0 (pc' := 7) cx dX6_number_6 rfl ?_
  refine gf_X6_177 (pc' := 10) cx dX6_number_7 rfl ?_
  refine hg_if_ne (pc' := 13) cx 32 dX6_number_10 (by decide) rfl (fun c_10 => ?_) (fun c_10 => ?_)
  ·
    have s10 := hS.no c_10
    refine hg_iconst (pc' := 33) cx 1 dX6_number_32 (by decide) rfl ?_
    refine hg_goto cx 37 dX6_number_33 (by decide) ?_
    refine pf_X6_177 (pc' := 40) cx ⟨rfl, rfl⟩ dX6_number_37 rfl ?_
    refine hg_aload0 (pc' := 41) cx dX6_number_40 rfl ?_
    refine gf_X6_177 (pc' := 44) cx dX6_number_41 rfl ?_
    rw [ck_get, if_pos rfl]
    refine hg_if_ne (pc' := 47) cx 51 dX6_number_44 (by decide) rfl (fun c_44 => ?_) (fun c_44 => ?_)
    ·
      refine hg_iload3 (pc' := 52) cx dX6_number_51 rfl ?_
      refine hg_iret cx dX6_number_52 ⟨_, rfl, ?_⟩
      have eo : (ok && decide (sp_num f L b most)) = false := by rw [s10.1]; rfl
      rw [eo, if_neg (fun z => Bool.noConfusion z)]
      exact ⟨Or.inr ⟨rfl, by rw [ck_get, if_pos rfl], by rw [ck_get, if_neg (by decide)]; exact hS.at⟩, fun z => Bool.noConfusion z, mk_putB _ _⟩
    ·
      exact absurd c_44 (by decide)
  ·
    obtain ⟨s10, A10⟩ := hS.ok c_10
    refine hg_aload0 (pc' := 14) cx dX6_number_13 rfl ?_
    refine gf_X6_171 (pc' := 17) cx dX6_number_14 rfl ?_
    rw [A10.1]
    refine hg_bipush (pc' := 19) cx (nI 20) dX6_number_17 (by decide) rfl ?_
    refine hg_icmp_ne (pc' := 22) cx 32 dX6_number_19 (by decide) rfl (fun c_19 => ?_) (fun c_19 => ?_)
    ·
      refine hg_iconst (pc' := 33) cx 1 dX6_number_32 (by decide) rfl ?_
      refine hg_goto cx 37 dX6_number_33 (by decide) ?_
      refine pf_X6_177 (pc' := 40) cx ⟨rfl, rfl⟩ dX6_number_37 rfl ?_
      refine hg_aload0 (pc' := 41) cx dX6_number_40 rfl ?_
      refine gf_X6_177 (pc' := 44) cx dX6_number_41 rfl ?_
      rw [ck_get, if_pos rfl]
      refine hg_if_ne (pc' := 47) cx 51 dX6_number_44 (by decide) rfl (fun c_44 => ?_) (fun c_44 => ?_)
      ·
        refine hg_iload3 (pc' := 52) cx dX6_number_51 rfl ?_
        refine hg_iret cx dX6_number_52 ⟨_, rfl, ?_⟩
        have eo : (ok && decide (sp_num f L b most)) = false := by rw [decide_eq_false (fun z => c_19 (by rw [(sp_T_num f L b).mpr z.1])), Bool.and_false]
        rw [eo, if_neg (fun z => Bool.noConfusion z)]
        exact ⟨Or.inr ⟨rfl, by rw [ck_get, if_pos rfl], by rw [ck_get, if_neg (by decide)]; exact hS.at⟩, fun z => Bool.noConfusion z, mk_putB _ _⟩
      ·
        exact absurd c_44 (by decide)
    ·
      have T20 : sp_c f L b = 2 := (sp_T_num f L b).mp ((nI_eq (by have := sp_T_24 f L b; omega) (by decide)).mp c_19)
      have ev : σ.1 50 11 = sp_v f L b := by rw [A10.2.2.2, if_pos T20]
      refine hg_iload3 (pc' := 23) cx dX6_number_22 rfl ?_
      refine hg_i2l (pc' := 24) cx dX6_number_23 rfl ?_
      refine hg_iload1 (pc' := 25) cx dX6_number_24 rfl ?_
      refine hg_iload2 (pc' := 26) cx dX6_number_25 rfl ?_
      refine cs_X6_44 (pc' := 29) cx (K_X6_in l E _ _ _ _) ⟨rfl, rfl, Nat.le_of_ble_eq_true rfl, Nat.le_of_ble_eq_true rfl⟩ (Nat.le_of_ble_eq_true rfl) dX6_number_26 rfl (fun r_26 τ_26 h_26 => ?_)
      obtain ⟨rfl, rfl⟩ := h_26
      rw [sp_inL_out]
      refine hg_if_ne (pc' := 32) cx 36 dX6_number_29 (by decide) rfl (fun c_29 => ?_) (fun c_29 => ?_)
      ·
        replace c_29 := hg_b1 c_29
        refine hg_iconst (pc' := 37) cx 0 dX6_number_36 (by decide) rfl ?_
        refine pf_X6_177 (pc' := 40) cx ⟨rfl, rfl⟩ dX6_number_37 rfl ?_
        refine hg_aload0 (pc' := 41) cx dX6_number_40 rfl ?_
        refine gf_X6_177 (pc' := 44) cx dX6_number_41 rfl ?_
        rw [ck_get, if_pos rfl]
        refine hg_if_ne (pc' := 47) cx 51 dX6_number_44 (by decide) rfl (fun c_44 => ?_) (fun c_44 => ?_)
        ·
          exact absurd rfl c_44
        ·
          refine hg_aload0 (pc' := 48) cx dX6_number_47 rfl ?_
          refine cv_X6_181 (pc' := 51) cx (K_X6_reads l E _ f L hL (ht.fi (mk_putB _ _).i) (sp_e f L b) (sp_e_le f hb) (by rw [ck_get, if_neg (by decide)]; exact A10.2.2.1)) ⟨rfl, rfl, Nat.le_of_ble_eq_true rfl, Nat.le_of_ble_eq_true rfl⟩ (Nat.le_of_ble_eq_true rfl) dX6_number_48 rfl (fun τ_48 h_48 => ?_)
          skip
          refine hg_iload3 (pc' := 52) cx dX6_number_51 rfl ?_
          refine hg_iret cx dX6_number_52 ⟨_, rfl, ?_⟩
          have eo : (ok && decide (sp_num f L b most)) = true := by
            rw [s10, decide_eq_true]
            · rfl
            · refine ⟨T20, ?_⟩
              rw [ev] at c_29
              exact Int32.not_lt.mp (fun y => hg_b0 c_29 (Or.inr y))
          rw [eo, if_pos rfl]
          exact ⟨Or.inl ⟨rfl, by rw [h_48.2.2.2 12 (by decide), ck_get, if_pos rfl], h_48.1⟩, fun _ => ev, (mk_putB _ _).tr h_48.2.b⟩
      ·
        replace c_29 := hg_b0 c_29
        refine hg_iconst (pc' := 33) cx 1 dX6_number_32 (by decide) rfl ?_
        refine hg_goto cx 37 dX6_number_33 (by decide) ?_
        refine pf_X6_177 (pc' := 40) cx ⟨rfl, rfl⟩ dX6_number_37 rfl ?_
        refine hg_aload0 (pc' := 41) cx dX6_number_40 rfl ?_
        refine gf_X6_177 (pc' := 44) cx dX6_number_41 rfl ?_
        rw [ck_get, if_pos rfl]
        refine hg_if_ne (pc' := 47) cx 51 dX6_number_44 (by decide) rfl (fun c_44 => ?_) (fun c_44 => ?_)
        ·
          refine hg_iload3 (pc' := 52) cx dX6_number_51 rfl ?_
          refine hg_iret cx dX6_number_52 ⟨_, rfl, ?_⟩
          have eo : (ok && decide (sp_num f L b most)) = false := by
            rw [decide_eq_false (fun z => ?_), Bool.and_false]
            obtain ⟨w, hw, ew⟩ := sp_v_nat T20
            rw [ev] at c_29
            rcases hg_b1 c_29 with y | y
            · rw [ew] at y; exact nI_pos (by omega) y
            · exact Int32.not_lt.mpr z.2 y
          rw [eo, if_neg (fun z => Bool.noConfusion z)]
          exact ⟨Or.inr ⟨rfl, by rw [ck_get, if_pos rfl], by rw [ck_get, if_neg (by decide)]; exact hS.at⟩, fun z => Bool.noConfusion z, mk_putB _ _⟩
        ·
          exact absurd c_44 (by decide)
set_option maxHeartbeats 4000000 in
set_option maxRecDepth 100000 in
theorem K_X6_perhaps (l : Launch) (E : hg_Wd) (σ : hg_Mem) (f : Nat → Int32) (L : Nat) (hL : L ≤ 120) (ht : mk_T σ f L) (ok : Bool) (b : Nat) (hb : b ≤ L) (hS : mk_St σ f L ok b) (w : Nat) (hw : w < 30) (most : Int32) (so : Int32) : hg_C l E yX6_perhaps cX6_perhaps 5 (some .int) { frames := 4, cells := 0, slots := 0, locals := 89 } [.ref (hg_ad E 50), .int (nI w), .int 0, .int most, .int so] σ (hg_pi (fun r τ => mk_St τ f L (sp_prh2 f L w most so ok b).1 (sp_prh2 f L w most so ok b).2.1 ∧ ((sp_prh2 f L w most so ok b).1 = true → r = (sp_prh2 f L w most so ok b).2.2) ∧ mk_Fb σ τ)) := by
  refine hg_intro (by decide) [some (.ref (hg_ad E 50)), some (.int (nI w)), some (.int 0), some (.int most), some (.int so)] rfl (Nat.le_of_ble_eq_true rfl) ?_
  intro p e s m args below meth c cx
  have cx : hg_Cx E p s m args meth c cX6_perhaps 5 RX6 (some .int) := cx
  refine hg_aload0 (pc' := 1) cx dX6_perhaps_0 rfl ?_
  refine hg_iload1 (pc' := 2) cx dX6_perhaps_1 rfl ?_
  refine cv_X6_184 (pc' := 5) cx (K_X6_passes l E _ f L hL ht ok b hb hS w hw) ⟨rfl, rfl, Nat.le_of_ble_eq_true rfl, Nat.le_of_ble_eq_true rfl⟩ (Nat.le_of_ble_eq_true rfl) dX6_perhaps_2 rfl (fun r_2 τ_2 h_2 => ?_)
  skip
  refine hg_if_eq (pc' := 8) cx 17 dX6_perhaps_5 (by decide) rfl (fun c_5 => ?_) (fun c_5 => ?_)
  ·
    obtain ⟨n2, -, e2⟩ := h_2.resolve_left (fun z => absurd (z.2.2.1.symm.trans c_5) (by decide))
    subst e2
    refine hg_iload4 (pc' := 19) cx dX6_perhaps_17 rfl ?_
    refine hg_iret cx dX6_perhaps_19 ⟨_, rfl, ?_⟩
    cases ok with
    | true =>
      have eP : sp_prh2 f L w most so true b = (true, b, so) := by unfold sp_prh2 sp_prh; rw [if_pos rfl, if_neg (fun z => n2 ⟨rfl, z⟩)]
      rw [eP]
      exact ⟨hS, fun _ => rfl, mk_Fb.rf _⟩
    | false =>
      have eP : sp_prh2 f L w most so false b = (false, b, 0) := by unfold sp_prh2; rw [if_neg (fun z => Bool.noConfusion z)]
      rw [eP]
      exact ⟨hS, fun z => Bool.noConfusion z, mk_Fb.rf _⟩
  ·
    obtain ⟨o2, T2, -, S2, F2⟩ := h_2.resolve_right (fun z => c_5 z.2.1)
    refine hg_aload0 (pc' := 9) cx dX6_perhaps_8 rfl ?_
    refine hg_iload2 (pc' := 10) cx dX6_perhaps_9 rfl ?_
    refine hg_iload3 (pc' := 11) cx dX6_perhaps_10 rfl ?_
    refine cv_X6_187 (pc' := 14) cx (K_X6_number l E _ f L hL (ht.fr F2) true (sp_nx f L b) (sp_nx_le f hb) S2 _) ⟨rfl, rfl, Nat.le_of_ble_eq_true rfl, Nat.le_of_ble_eq_true rfl⟩ (Nat.le_of_ble_eq_true rfl) dX6_perhaps_11 rfl (fun r_11 τ_11 h_11 => ?_)
    skip
    refine hg_goto cx 19 dX6_perhaps_14 (by decide) ?_
    refine hg_iret cx dX6_perhaps_19 ⟨_, rfl, ?_⟩
    subst o2
    by_cases q : sp_num f L (sp_nx f L b) most
    · have eP : sp_prh2 f L w most so true b = (true, sp_nx f L (sp_nx f L b), sp_v f L (sp_nx f L b)) := by unfold sp_prh2 sp_prh; rw [if_pos rfl, if_pos T2, if_pos q]
      have eo : (true && decide (sp_num f L (sp_nx f L b) most)) = true := by rw [decide_eq_true q]; rfl
      rw [eo, if_pos rfl] at h_11
      rw [eP]
      exact ⟨h_11.1, fun _ => h_11.2.1 rfl, F2.b.tr h_11.2.2⟩
    · have eP : sp_prh2 f L w most so true b = (false, sp_nx f L b, 0) := by unfold sp_prh2 sp_prh; rw [if_pos rfl, if_pos T2, if_neg q]
      have eo : (true && decide (sp_num f L (sp_nx f L b) most)) = false := by rw [decide_eq_false q]; rfl
      rw [eo, if_neg (fun z => Bool.noConfusion z)] at h_11
      rw [eP]
      exact ⟨h_11.1, fun z => Bool.noConfusion z, F2.b.tr h_11.2.2⟩
