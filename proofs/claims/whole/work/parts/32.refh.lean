def bt (x : Int32) (i : Nat) : Bool := x.toBitVec.getLsbD i
theorem b_ext {x y : Int32} (h : ∀ i, i < 32 → bt x i = bt y i) : x = y := Int32.toBitVec_inj.mp (BitVec.eq_of_getLsbD_eq (fun i hi => h i hi))
theorem b_and (x y : Int32) (i : Nat) : bt (x &&& y) i = (bt x i && bt y i) := by unfold bt; rw [Int32.toBitVec_and, BitVec.getLsbD_and]
theorem b_big {x : Int32} {i : Nat} (h : 32 ≤ i) : bt x i = false := BitVec.getLsbD_of_ge _ _ h
theorem b_255 (i : Nat) : bt 255 i = decide (i < 8) := by
  rcases Nat.lt_or_ge i 32 with h | h
  · exact (by decide +kernel : ∀ i, i < 32 → bt 255 i = decide (i < 8)) i h
  · rw [b_big h, decide_eq_false (by omega)]
theorem s_l : ∀ n, n < 32 → ((nI n &&& 31).toBitVec.smod 32).toNat = n := by decide +kernel
theorem s_u : ∀ n, n < 32 → (((nI n).toUInt32 &&& Int32.toUInt32 31).toBitVec % 32).toNat = n := by decide +kernel
theorem b_ushr (n : Nat) (hn : n < 32) (x : Int32) (i : Nat) : bt ((x.toUInt32 >>> ((nI n).toUInt32 &&& Int32.toUInt32 31)).toInt32) i = bt x (n + i) := by
  show (x.toUInt32 >>> ((nI n).toUInt32 &&& Int32.toUInt32 31)).toBitVec.getLsbD i = x.toUInt32.toBitVec.getLsbD (n + i)
  rw [UInt32.toBitVec_shiftRight]
  show (x.toUInt32.toBitVec >>> (((nI n).toUInt32 &&& Int32.toUInt32 31).toBitVec % 32).toNat).getLsbD i = _
  rw [s_u n hn, BitVec.getLsbD_ushiftRight]
theorem b_sshr (n : Nat) (hn : n < 32) (x : Int32) {i : Nat} (hi : i < 32) : bt (x >>> (nI n &&& 31)) i = if n + i < 32 then bt x (n + i) else bt x 31 := by
  unfold bt
  rw [Int32.toBitVec_shiftRight]
  show (x.toBitVec.sshiftRight ((nI n &&& 31).toBitVec.smod 32).toNat).getLsbD i = _
  rw [s_l n hn, BitVec.getLsbD_sshiftRight, BitVec.msb_eq_getLsbD_last]
  simp [hi]
theorem sp_byte_eq (b : Int32) {k : Nat} (hk : k < 4) : (b >>> ((8 * nI k) &&& 31)) &&& 255 = sp_byte b k := by
  unfold sp_byte sp_us
  rw [show (8 : Int32) * nI k = nI (8 * k) from pk_mul 8 k]
  apply b_ext
  intro i hi
  rw [b_and, b_and, b_255, b_ushr _ (by omega), b_sshr _ (by omega) _ hi]
  by_cases c : i < 8
  · rw [if_pos (by omega)]
  · rw [decide_eq_false c, Bool.and_false, Bool.and_false]
theorem cw_M.len {σ : hg_Mem} {S : sp_S} (h : cw_M σ S) (v : Int32) : cw_M (hg_sI σ 50 7 v) (sp_sR S 0 (va_up (S.2.1 0) 1 v)) ∧ mw_Fr σ (hg_sI σ 50 7 v) := by
  obtain ⟨a, b, c, d, e, g, i⟩ := h
  have ne : ∀ j, j ≠ 50 → (hg_sI σ 50 7 v).1 j = σ.1 j := fun j hj => by rw [hg_sI_eq, hg_sH_ne _ _ hj]
  refine ⟨⟨a.keep (fun k _ => by rw [ne _ (by omega)]), fun hk => (b hk).keep (fun k _ => by rw [ne _ (by omega)]), ?_, ?_, fun k hk => ?_, fun k hk => ?_, fun s hs => ?_⟩, fun j hj => ⟨ne j (by omega), rfl⟩⟩
  · rw [hg_sI_eq, hg_sH_at, va_upN _ _ (by decide)]; exact c
  · rw [hg_sI_eq, hg_sH_at, va_upE]; rfl
  · rw [ne _ (by omega)]; exact e k hk
  · rw [ne _ (by omega)]; exact g k hk
  · rw [ne _ (by omega), ne _ (by omega)]; exact i s hs
theorem cw_M.push {σ : hg_Mem} {S : sp_S} (h : cw_M σ S) {k : Nat} (hk : k < 120) (hs : S.2.1 0 1 = nI k) (v : Int32) : cw_M (hg_sI (hg_sI σ 56 k v) 50 7 (nI (k + 1))) (sp_push S v) ∧ mw_Fr σ (hg_sI (hg_sI σ 56 k v) 50 7 (nI (k + 1))) := by
  obtain ⟨a, b, c, d, e, g, i⟩ := h
  have ne : ∀ j, j ≠ 50 → j ≠ 56 → (hg_sI (hg_sI σ 56 k v) 50 7 (nI (k + 1))).1 j = σ.1 j := fun j h1 h2 => by rw [hg_sI_eq, hg_sH_ne _ _ h1, hg_sI_eq, hg_sH_ne _ _ h2]
  refine ⟨⟨a.keep (fun k _ => by rw [ne _ (by omega) (by omega)]), fun hk => (b hk).keep (fun k _ => by rw [ne _ (by omega) (by omega)]), ?_, ?_, fun j hj => ?_, fun j hj => ?_, fun s hs => ?_⟩, fun j hj => ⟨ne j (by omega) (by omega), rfl⟩⟩
  · rw [hg_sI_eq, hg_sH_at, va_upN _ _ (by decide), hg_sI_eq, hg_sH_ne _ _ (by decide)]; exact c
  · rw [hg_sI_eq, hg_sH_at, va_upE]
    show _ = va_up (S.2.1 0) 1 (S.2.1 0 1 + 1) 1
    rw [va_upE, hs, nI_1]
  · rw [ne _ (by omega) (by omega)]; exact e j hj
  · rw [hg_sI_eq, hg_sH_ne _ _ (show (56 : Nat) ≠ 50 by decide), hg_sI_eq, hg_sH_at]
    show va_up (σ.1 56) k v j = va_up (S.2.1 2) (S.2.1 0 1).toNatClampNeg v j
    rw [hs, nI_clamp (by omega)]
    by_cases q : j = k
    · rw [q, va_upE, va_upE]
    · rw [va_upN _ _ q, va_upN _ _ q]; exact g j hj
  · rw [ne _ (by omega) (by omega), ne _ (by omega) (by omega)]; exact i s hs
theorem cw_M.keptR {σ τ : hg_Mem} {S : sp_S} (h : cw_M σ S) (h2 : τ.2 = σ.2) (h1 : ∀ i, i ≠ 52 → τ.1 i = σ.1 i) (h52 : ∀ k, k < 64 → τ.1 52 k = σ.1 51 k) : cw_M (hg_sI τ 50 3 1) (op_image S).2 ∧ mw_Fr σ (hg_sI τ 50 3 1) := by
  obtain ⟨a, b, c, d, e, g, i⟩ := h
  have ne : ∀ j, j ≠ 50 → j ≠ 52 → (hg_sI τ 50 3 1).1 j = σ.1 j := fun j q1 q2 => by rw [hg_sI_eq, hg_sH_ne _ _ q1]; exact h1 j q2
  refine ⟨⟨a.keep (fun k _ => by rw [ne _ (by omega) (by omega)]), fun _ => ⟨a.1, a.2.1, fun k hk => ?_, fun x hx k hk => ?_⟩, ?_, ?_, fun k hk => ?_, fun k hk => ?_, fun s hs => ?_⟩, fun j hj => ⟨ne j (by omega) (by omega), by rw [hg_sI_eq, hg_sH_2, h2]⟩⟩
  · rw [hg_sI_eq, hg_sH_ne _ _ (by decide), h52 k (by omega)]; exact a.2.2.1 k hk
  · replace hx : x < (S.1 0).2 := hx
    rw [hg_sI_eq, hg_sH_ne _ _ (by decide), h52 _ (by have := a.1; omega)]; exact a.2.2.2 x hx k hk
  · rw [hg_sI_eq, hg_sH_at, va_upE]; rfl
  · rw [hg_sI_eq, hg_sH_at, va_upN _ _ (by decide), h1 50 (by decide)]; exact d
  · rw [ne _ (by omega) (by omega)]; exact e k hk
  · rw [ne _ (by omega) (by omega)]; exact g k hk
  · rw [ne _ (by omega) (by omega), ne _ (by omega) (by omega), hg_sI_eq, hg_sH_2, h2]; exact i s hs
theorem cw_M.kept {σ : hg_Mem} {S : sp_S} (h : cw_M σ S) : cw_M (hg_sI σ 50 3 0) (sp_sR S 0 (va_up (S.2.1 0) 0 0)) ∧ mw_Fr σ (hg_sI σ 50 3 0) := by
  obtain ⟨a, b, c, d, e, g, i⟩ := h
  have ne : ∀ j, j ≠ 50 → (hg_sI σ 50 3 0).1 j = σ.1 j := fun j hj => by rw [hg_sI_eq, hg_sH_ne _ _ hj]
  refine ⟨⟨a.keep (fun k _ => by rw [ne _ (by omega)]), fun hk => ?_, ?_, ?_, fun k hk => ?_, fun k hk => ?_, fun s hs => ?_⟩, fun j hj => ⟨ne j (by omega), rfl⟩⟩
  · exact absurd hk (by show ¬ va_up (S.2.1 0) 0 0 0 = 1; rw [va_upE]; decide)
  · rw [hg_sI_eq, hg_sH_at, va_upE]; rfl
  · rw [hg_sI_eq, hg_sH_at, va_upN _ _ (by decide)]; exact d
  · rw [ne _ (by omega)]; exact e k hk
  · rw [ne _ (by omega)]; exact g k hk
  · rw [ne _ (by omega), ne _ (by omega)]; exact i s hs
def sp_stat (f : Nat → Int32) (w : Int32) : Nat → Int32
  | 0 => 0
  | k + 1 => sp_stat f w k + (if w < 0 ∨ w = nI k then f k else 0)
theorem sp_stat_neg {f : Nat → Int32} {w : Int32} (h : w < 0) : ∀ n, sp_stat f w n = sp_fsum f n := by
  intro n
  induction n with
  | zero => rfl
  | succ n ih => rw [sp_stat, sp_fsum, ih, if_pos (Or.inl h)]
theorem sp_stat_pos {f : Nat → Int32} {a : Nat} (ha : a < 7) : ∀ n, n ≤ 7 → sp_stat f (nI a) n = if a < n then f a else 0 := by
  intro n
  induction n with
  | zero => intro _; rfl
  | succ n ih =>
    intro hn
    rw [sp_stat, ih (by omega)]
    by_cases c : a < n
    · rw [if_pos c, if_neg (show ¬ (nI a < 0 ∨ nI a = nI n) from fun z => z.elim (fun z => nI_pos (by omega) z) (fun z => by have := (nI_eq (by omega) (by omega)).mp z; omega)), if_pos (show a < n + 1 by omega)]
      exact Int32.add_zero _
    · rw [if_neg c]
      by_cases d : a = n
      · rw [if_pos (show nI a < 0 ∨ nI a = nI n from Or.inr (by rw [d])), if_pos (show a < n + 1 by omega), d]; exact Int32.zero_add _
      · rw [if_neg (show ¬ (nI a < 0 ∨ nI a = nI n) from fun z => z.elim (fun z => nI_pos (by omega) z) (fun z => d ((nI_eq (by omega) (by omega)).mp z))), if_neg (show ¬ a < n + 1 by omega)]; rfl
theorem sp_feed_iff {tl a : Nat} (ht : tl ≤ 120) (ha : a ≤ 4) : nI tl + nI a ≤ 120 ↔ nI tl ≤ 120 - nI a := by
  rw [nI_add, show (120 : Int32) - nI a = nI (120 - a) from pk_sub (a := 120) (by omega)]
  constructor
  · intro h
    have := (nI_leI (a := tl + a) (b := 120) (by omega) (by omega)).mp h
    exact nI_le (by omega) (by omega)
  · intro h
    have := (nI_leI (by omega) (by omega)).mp h
    exact nI_le (b := 120) (by omega) (by omega)
set_option maxHeartbeats 4000000 in
set_option maxRecDepth 100000 in
theorem K_X6_feed (l : Launch) (E : hg_Wd) (σ : hg_Mem) (S : sp_S) (hc : cw_M σ S) (hv : vs_S S) (b : Int32) (N : Int32) : hg_C l E yX6_feed cX6_feed 4 (some .int) { frames := 1, cells := 0, slots := 0, locals := 23 } [.ref (hg_ad E 50), .int b, .int N] σ (hg_pi (fun r τ => mw_P σ (op_feed S b N) r τ)) := by
  refine hg_intro (by decide) [some (.ref (hg_ad E 50)), some (.int b), some (.int N), none] rfl (Nat.le_of_ble_eq_true rfl) ?_
  intro p e s m args below meth c cx
  have cx : hg_Cx E p s m args meth c cX6_feed 4 RX6 (some .int) := cx
  obtain ⟨hn10, hn, g0, g1, g2, hag⟩ := hc.get
  refine hg_iload2 (pc' := 1) cx dX6_feed_0 rfl ?_
  refine hg_i2l (pc' := 2) cx dX6_feed_1 rfl ?_
  refine hg_iconst (pc' := 3) cx 1 dX6_feed_2 (by decide) rfl ?_
  refine hg_iconst (pc' := 4) cx 4 dX6_feed_3 (by decide) rfl ?_
  refine cs_X6_44 (pc' := 7) cx (K_X6_in l E _ _ _ _) ⟨rfl, rfl, Nat.le_of_ble_eq_true rfl, Nat.le_of_ble_eq_true rfl⟩ (Nat.le_of_ble_eq_true rfl) dX6_feed_4 rfl (fun r_4 τ_4 h_4 => ?_)
  obtain ⟨rfl, rfl⟩ := h_4
  rw [sp_inL_out]
  refine hg_if_ne (pc' := 10) cx 17 dX6_feed_7 (by decide) rfl (fun c_7 => ?_) (fun c_7 => ?_)
  ·
    replace c_7 := hg_b1 c_7
    obtain ⟨a0, ha1, ha2, rfl⟩ := sp_out_of 1 4 (by decide) (by decide) (by decide) (by decide) c_7
    obtain ⟨a, rfl⟩ : ∃ a, a0 = a + 1 := ⟨a0 - 1, by omega⟩
    have hca : (nI (a + 1)).toNatClampNeg = a + 1 := nI_clamp (by omega)
    obtain ⟨tl, htl, etl⟩ := hv.2.2.2.1
    have htp := hc.2.2.2.1
    refine hg_aload0 (pc' := 18) cx dX6_feed_17 rfl ?_
    refine gf_X6_147 (pc' := 21) cx dX6_feed_18 rfl ?_
    refine hg_iload2 (pc' := 22) cx dX6_feed_21 rfl ?_
    refine hg_iadd (pc' := 23) cx dX6_feed_22 rfl ?_
    refine hg_bipush (pc' := 25) cx 120 dX6_feed_23 (by decide) rfl ?_
    refine hg_icmp_le (pc' := 28) cx 35 dX6_feed_25 (by decide) rfl (fun c_25 => ?_) (fun c_25 => ?_)
    ·
      have hle : tl + (a + 1) ≤ 120 := by
        have := c_25
        rw [htp, etl, nI_add] at this
        exact (nI_leI (b := 120) (by omega) (by omega)).mp this
      refine hg_iload2 (pc' := 36) cx dX6_feed_35 rfl ?_
      refine hg_iconst (pc' := 37) cx 1 dX6_feed_36 (by decide) rfl ?_
      refine hg_isub (pc' := 38) cx dX6_feed_37 rfl ?_
      rw [nI_pred]
      refine hg_istore3 (pc' := 39) cx rfl dX6_feed_38 rfl ?_
      refine hg_nm (fun μ hμ => ?_)
      refine hg_loop (α := hg_Mem × sp_S × Int32 × Nat) (I := fun z => cw_M z.1 z.2.1 ∧ mw_Fr σ z.1 ∧ z.2.2.1 = nI z.2.2.2 - 1 ∧ z.2.2.2 ≤ a + 1 ∧ z.2.1.2.1 0 1 = nI (tl + (a + 1 - z.2.2.2)) ∧ sp_feed b z.2.2.2 z.2.1 = sp_feed b (a + 1) S) (P := fun z => hg_G E p l e { frames := 1, cells := 0, slots := 0, locals := 23 } s m args below meth c 4 (MQ below (hg_Qc E (hg_pi (fun r τ => mw_P σ (op_feed S b (nI (a + 1))) r τ))) args s 0 0 (hg_AW E)) z.1 39 [some (.ref (hg_ad E 50)), some (.int b), some (.int (nI (a + 1))), some (.int z.2.2.1)] []) (fun z => z.2.2.2) ?_ (μ, S, nI a, a + 1) ?_
      rotate_left
      · subst hμ
        try dsimp only
        exact ⟨hc, mw_Fr.rf _, (nI_pred _).symm, Nat.le_refl _, by rw [etl, Nat.sub_self, Nat.add_zero], rfl⟩
      clear hμ μ
      rintro ⟨τ, T, x, i⟩ hI ih_39
      try dsimp only at hI ih_39 ⊢
      have hx := hI.2.2.1
      have hia := hI.2.2.2.1
      refine hg_iload3 (pc' := 40) cx dX6_feed_39 rfl ?_
      refine hg_if_lt (pc' := 43) cx 78 dX6_feed_40 (by decide) rfl (fun c_40 => ?_) (fun c_40 => ?_)
      ·
        refine hg_aload0 (pc' := 79) cx dX6_feed_78 rfl ?_
        refine gf_X6_147 (pc' := 82) cx dX6_feed_79 rfl ?_
        refine hg_iret cx dX6_feed_82 ⟨_, rfl, ?_⟩
        obtain rfl : i = 0 := by
          rcases Nat.eq_zero_or_pos i with q | q
          · exact q
          · obtain ⟨i1, rfl⟩ : ∃ i1, i = i1 + 1 := ⟨i - 1, by omega⟩
            rw [hx, nI_pred] at c_40
            exact absurd c_40 (nI_pos (by omega))
        have c9 := c_25
        rw [htp, etl] at c9
        simp only [op_feed, c_7, hca, etl, not_true_eq_false, if_false, (sp_feed_iff htl (by omega)).mp c9]
        refine ⟨?_, ?_, hI.2.1⟩
        · rw [hI.1.2.2.2.1, hI.2.2.2.2.1, nI_add]
          rfl
        · rw [← hI.2.2.2.2.2]; exact hI.1
      ·
        obtain ⟨i0, rfl⟩ : ∃ i0, i = i0 + 1 := by
          refine ⟨i - 1, ?_⟩
          rcases Nat.eq_zero_or_pos i with q | q
          · rw [hx, q] at c_40; exact absurd (by decide) c_40
          · omega
        rw [nI_pred] at hx
        subst hx
        refine hg_aload0 (pc' := 44) cx dX6_feed_43 rfl ?_
        refine gf_X6_25 (pc' := 47) cx dX6_feed_44 rfl ?_
        refine hg_aload0 (pc' := 48) cx dX6_feed_47 rfl ?_
        refine gf_X6_147 (pc' := 51) cx dX6_feed_48 rfl ?_
        rw [hI.1.2.2.2.1, hI.2.2.2.2.1]
        refine hg_iload1 (pc' := 52) cx dX6_feed_51 rfl ?_
        refine hg_bipush (pc' := 54) cx 8 dX6_feed_52 (by decide) rfl ?_
        refine hg_iload3 (pc' := 55) cx dX6_feed_54 rfl ?_
        refine hg_imul (pc' := 56) cx dX6_feed_55 rfl ?_
        refine hg_ishr (pc' := 57) cx dX6_feed_56 rfl ?_
        refine hg_sipush (pc' := 60) cx 255 dX6_feed_57 (by decide) rfl ?_
        refine hg_iand (pc' := 61) cx dX6_feed_60 rfl ?_
        rw [sp_byte_eq b (by omega)]
        skip
        refine hg_iast2 (pc' := 62) cx (by decide) (hg_ceI56 E) (by first | assumption | omega | decide) (by decide) dX6_feed_61 rfl ?_
        refine hg_aload0 (pc' := 63) cx dX6_feed_62 rfl ?_
        refine hg_dup (pc' := 64) cx rfl dX6_feed_63 rfl ?_
        refine gf_X6_147 (pc' := 67) cx dX6_feed_64 rfl ?_
        refine hg_iconst (pc' := 68) cx 1 dX6_feed_67 (by decide) rfl ?_
        refine hg_iadd (pc' := 69) cx dX6_feed_68 rfl ?_
        rw [show (hg_sI τ 56 (tl + (a + 1 - (i0 + 1))) (sp_byte b i0)).1 50 7 = nI (tl + (a + 1 - (i0 + 1))) from by rw [hg_sI_eq, hg_sH_ne _ _ (show (50 : Nat) ≠ 56 by decide), hI.1.2.2.2.1]; exact hI.2.2.2.2.1, nI_1]
        refine pf_X6_147 (pc' := 72) cx dX6_feed_69 rfl ?_
        refine hg_iinc3m (pc' := 75) cx rfl dX6_feed_72 rfl ?_
        refine hg_goto cx 39 dX6_feed_75 (by decide) ?_
        refine hg_nm (fun μ hμ => ?_)
        refine ih_39 (μ, sp_push T (sp_byte b i0), nI i0 + (-1), i0) ?_ ?_
        · subst hμ
          try dsimp only
          obtain ⟨q1, q2⟩ := hI.1.push (k := tl + (a + 1 - (i0 + 1))) (by omega) hI.2.2.2.2.1 (sp_byte b i0)
          refine ⟨q1, hI.2.1.tr q2, (by rw [Int32.sub_eq_add_neg]), by omega, ?_, hI.2.2.2.2.2⟩
          show va_up (T.2.1 0) 1 (T.2.1 0 1 + 1) 1 = _
          rw [va_upE, hI.2.2.2.2.1, nI_1, show tl + (a + 1 - (i0 + 1)) + 1 = tl + (a + 1 - i0) by omega]
        · show i0 < i0 + 1
          omega
    ·
      refine hg_aload0 (pc' := 29) cx dX6_feed_28 rfl ?_
      refine hg_ldc (pc' := 31) cx kc_X6_78 dX6_feed_29 rfl ?_
      refine cv_X6_40 (pc' := 34) cx (K_X6_finds l E _ (-1000000002) 1 (by decide) (by decide)) ⟨rfl, rfl, Nat.le_of_ble_eq_true rfl, Nat.le_of_ble_eq_true rfl⟩ (Nat.le_of_ble_eq_true rfl) dX6_feed_31 rfl (fun r_31 τ_31 h_31 => ?_)
      obtain ⟨rfl, rfl⟩ := h_31
      refine hg_iret cx dX6_feed_34 ⟨_, rfl, ?_⟩
      rw [htp, etl] at c_25
      simp only [op_feed, c_7, etl, not_true_eq_false, if_false, if_pos (fun z => c_25 ((sp_feed_iff htl (by omega)).mpr z))]
      exact hc.find (by decide) (by decide)
  ·
    replace c_7 := hg_b0 c_7
    refine hg_aload0 (pc' := 11) cx dX6_feed_10 rfl ?_
    refine hg_ldc (pc' := 13) cx kc_X6_38 dX6_feed_11 rfl ?_
    refine cv_X6_40 (pc' := 16) cx (K_X6_finds l E _ (-1000000001) 0 (by decide) (by decide)) ⟨rfl, rfl, Nat.le_of_ble_eq_true rfl, Nat.le_of_ble_eq_true rfl⟩ (Nat.le_of_ble_eq_true rfl) dX6_feed_13 rfl (fun r_13 τ_13 h_13 => ?_)
    obtain ⟨rfl, rfl⟩ := h_13
    refine hg_iret cx dX6_feed_16 ⟨_, rfl, ?_⟩
    simp only [op_feed, sp_hz, c_7, not_true_eq_false, not_false_eq_true, true_or, or_true, false_or, or_false, or_self, if_true, if_false, and_self]
    exact hc.find (by decide) (by decide)
set_option maxHeartbeats 4000000 in
set_option maxRecDepth 100000 in
theorem K_X6_wipe (l : Launch) (E : hg_Wd) (σ : hg_Mem) (S : sp_S) (hc : cw_M σ S) (hv : vs_S S) : hg_C l E yX6_wipe cX6_wipe 2 (some .int) { frames := 0, cells := 0, slots := 0, locals := 0 } [.ref (hg_ad E 50)] σ (hg_pi (fun r τ => mw_P σ (op_wipe S ) r τ)) := by
  refine hg_intro (by decide) [some (.ref (hg_ad E 50)), none] rfl (Nat.le_of_ble_eq_true rfl) ?_
  intro p e s m args below meth c cx
  have cx : hg_Cx E p s m args meth c cX6_wipe 2 RX6 (some .int) := cx
  obtain ⟨hn10, hn, g0, g1, g2, hag⟩ := hc.get
  refine hg_aload0 (pc' := 1) cx dX6_wipe_0 rfl ?_
  refine gf_X6_147 (pc' := 4) cx dX6_wipe_1 rfl ?_
  refine hg_istore1 (pc' := 5) cx rfl dX6_wipe_4 rfl ?_
  refine hg_aload0 (pc' := 6) cx dX6_wipe_5 rfl ?_
  refine hg_iconst (pc' := 7) cx 0 dX6_wipe_6 (by decide) rfl ?_
  refine pf_X6_147 (pc' := 10) cx dX6_wipe_7 rfl ?_
  refine hg_iload1 (pc' := 11) cx dX6_wipe_10 rfl ?_
  refine hg_iret cx dX6_wipe_11 ⟨_, rfl, ?_⟩
  exact ⟨hc.2.2.2.1, hc.len 0⟩
set_option maxHeartbeats 4000000 in
set_option maxRecDepth 100000 in
theorem K_X6_image (l : Launch) (E : hg_Wd) (σ : hg_Mem) (S : sp_S) (hc : cw_M σ S) (hv : vs_S S) : hg_C l E yX6_image cX6_image 1 (some .int) { frames := 1, cells := 0, slots := 0, locals := 22 } [.ref (hg_ad E 50)] σ (hg_pi (fun r τ => mw_P σ (op_image S ) r τ)) := by
  refine hg_intro (by decide) [some (.ref (hg_ad E 50))] rfl (Nat.le_of_ble_eq_true rfl) ?_
  intro p e s m args below meth c cx
  have cx : hg_Cx E p s m args meth c cX6_image 1 RX6 (some .int) := cx
  obtain ⟨hn10, hn, g0, g1, g2, hag⟩ := hc.get
  refine hg_aload0 (pc' := 1) cx dX6_image_0 rfl ?_
  refine gf_X6_9 (pc' := 4) cx dX6_image_1 rfl ?_
  refine hg_aload0 (pc' := 5) cx dX6_image_4 rfl ?_
  refine gf_X6_13 (pc' := 8) cx dX6_image_5 rfl ?_
  refine cs_X6_116 (pc' := 11) cx (K_X6_copyAll l E _ 51 (by decide) (by decide) 52 (by decide) (by decide) (by decide)) ⟨rfl, rfl, Nat.le_of_ble_eq_true rfl, Nat.le_of_ble_eq_true rfl⟩ (Nat.le_of_ble_eq_true rfl) dX6_image_8 rfl (fun τ_8 h_8 => ?_)
  skip
  refine hg_aload0 (pc' := 12) cx dX6_image_11 rfl ?_
  refine hg_iconst (pc' := 13) cx 1 dX6_image_12 (by decide) rfl ?_
  refine pf_X6_224 (pc' := 16) cx ⟨rfl, rfl⟩ dX6_image_13 rfl ?_
  refine hg_iconst (pc' := 17) cx 1 dX6_image_16 (by decide) rfl ?_
  refine hg_iret cx dX6_image_17 ⟨_, rfl, ?_⟩
  exact ⟨rfl, hc.keptR h_8.1 h_8.2.1 h_8.2.2⟩
set_option maxHeartbeats 4000000 in
set_option maxRecDepth 100000 in
theorem K_X6_undo (l : Launch) (E : hg_Wd) (σ : hg_Mem) (S : sp_S) (hc : cw_M σ S) (hv : vs_S S) : hg_C l E yX6_undo cX6_undo 1 (some .int) { frames := 1, cells := 0, slots := 0, locals := 22 } [.ref (hg_ad E 50)] σ (hg_pi (fun r τ => mw_P σ (op_undo S ) r τ)) := by
  refine hg_intro (by decide) [some (.ref (hg_ad E 50))] rfl (Nat.le_of_ble_eq_true rfl) ?_
  intro p e s m args below meth c cx
  have cx : hg_Cx E p s m args meth c cX6_undo 1 RX6 (some .int) := cx
  obtain ⟨hn10, hn, g0, g1, g2, hag⟩ := hc.get
  refine hg_aload0 (pc' := 1) cx dX6_undo_0 rfl ?_
  refine gf_X6_224 (pc' := 4) cx dX6_undo_1 rfl ?_
  refine hg_if_ne (pc' := 7) cx 14 dX6_undo_4 (by decide) rfl (fun c_4 => ?_) (fun c_4 => ?_)
  ·
    have hk1 : S.2.1 0 0 = 1 := hv.2.2.1.elim (fun z => absurd (hc.2.2.1.trans z) c_4) id
    have hR3 := hc.2.1 hk1
    refine hg_aload0 (pc' := 15) cx dX6_undo_14 rfl ?_
    refine gf_X6_13 (pc' := 18) cx dX6_undo_15 rfl ?_
    refine hg_aload0 (pc' := 19) cx dX6_undo_18 rfl ?_
    refine gf_X6_9 (pc' := 22) cx dX6_undo_19 rfl ?_
    refine cs_X6_116 (pc' := 25) cx (K_X6_copyAll l E _ 52 (by decide) (by decide) 51 (by decide) (by decide) (by decide)) ⟨rfl, rfl, Nat.le_of_ble_eq_true rfl, Nat.le_of_ble_eq_true rfl⟩ (Nat.le_of_ble_eq_true rfl) dX6_undo_22 rfl (fun τ_22 h_22 => ?_)
    skip
    refine hg_aload0 (pc' := 26) cx dX6_undo_25 rfl ?_
    refine gf_X6_9 (pc' := 29) cx dX6_undo_26 rfl ?_
    refine hg_iconst (pc' := 30) cx (nI 3) dX6_undo_29 (by decide) rfl ?_
    refine hg_iald2 (pc' := 31) cx (by decide) (hg_ceI51 E) (by first | assumption | omega | decide) (by decide) dX6_undo_30 rfl ?_
    refine hg_iret cx dX6_undo_31 ⟨_, rfl, ?_⟩
    simp only [op_undo, ← hc.2.2.1, c_4, if_false]
    have hR2 : sp_RepM τ_22 51 (S.1 1).1 (S.1 1).2 := ⟨hR3.1, hR3.2.1, fun k hk => (h_22.2.2 k (by omega)).trans (hR3.2.2.1 k hk), fun x hx k hk => (h_22.2.2 _ (by have := hR3.1; omega)).trans (hR3.2.2.2 x hx k hk)⟩
    exact ⟨(hR2.2.2.1 3 (by decide)).trans hR2.2.1, hc.setC _ _ h_22.1 (fun i h1 _ _ => h_22.2.1 i h1) hR2⟩
  ·
    refine hg_aload0 (pc' := 8) cx dX6_undo_7 rfl ?_
    refine hg_ldc (pc' := 10) cx kc_X6_39 dX6_undo_8 rfl ?_
    refine cv_X6_40 (pc' := 13) cx (K_X6_finds l E _ (-1000000004) 3 (by decide) (by decide)) ⟨rfl, rfl, Nat.le_of_ble_eq_true rfl, Nat.le_of_ble_eq_true rfl⟩ (Nat.le_of_ble_eq_true rfl) dX6_undo_10 rfl (fun r_10 τ_10 h_10 => ?_)
    obtain ⟨rfl, rfl⟩ := h_10
    refine hg_iret cx dX6_undo_13 ⟨_, rfl, ?_⟩
    simp only [op_undo, ← hc.2.2.1, c_4, if_true]
    exact hc.find (by decide) (by decide)
set_option maxHeartbeats 4000000 in
set_option maxRecDepth 100000 in
theorem K_X6_tear (l : Launch) (E : hg_Wd) (σ : hg_Mem) (S : sp_S) (hc : cw_M σ S) (hv : vs_S S) : hg_C l E yX6_tear cX6_tear 2 (some .int) { frames := 0, cells := 0, slots := 0, locals := 0 } [.ref (hg_ad E 50)] σ (hg_pi (fun r τ => mw_P σ (op_tear S ) r τ)) := by
  refine hg_intro (by decide) [some (.ref (hg_ad E 50)), none] rfl (Nat.le_of_ble_eq_true rfl) ?_
  intro p e s m args below meth c cx
  have cx : hg_Cx E p s m args meth c cX6_tear 2 RX6 (some .int) := cx
  obtain ⟨hn10, hn, g0, g1, g2, hag⟩ := hc.get
  refine hg_aload0 (pc' := 1) cx dX6_tear_0 rfl ?_
  refine gf_X6_224 (pc' := 4) cx dX6_tear_1 rfl ?_
  refine hg_if_eq (pc' := 7) cx 11 dX6_tear_4 (by decide) rfl (fun c_4 => ?_) (fun c_4 => ?_)
  ·
    refine hg_iconst (pc' := 12) cx 0 dX6_tear_11 (by decide) rfl ?_
    refine hg_istore1 (pc' := 13) cx rfl dX6_tear_12 rfl ?_
    refine hg_aload0 (pc' := 14) cx dX6_tear_13 rfl ?_
    refine hg_iconst (pc' := 15) cx 0 dX6_tear_14 (by decide) rfl ?_
    refine pf_X6_224 (pc' := 18) cx ⟨rfl, rfl⟩ dX6_tear_15 rfl ?_
    refine hg_iload1 (pc' := 19) cx dX6_tear_18 rfl ?_
    refine hg_iret cx dX6_tear_19 ⟨_, rfl, ?_⟩
    exact ⟨by simp only [op_tear, ← hc.2.2.1, c_4, if_true, if_false], hc.kept⟩
  ·
    refine hg_iconst (pc' := 8) cx 1 dX6_tear_7 (by decide) rfl ?_
    refine hg_goto cx 12 dX6_tear_8 (by decide) ?_
    refine hg_istore1 (pc' := 13) cx rfl dX6_tear_12 rfl ?_
    refine hg_aload0 (pc' := 14) cx dX6_tear_13 rfl ?_
    refine hg_iconst (pc' := 15) cx 0 dX6_tear_14 (by decide) rfl ?_
    refine pf_X6_224 (pc' := 18) cx ⟨rfl, rfl⟩ dX6_tear_15 rfl ?_
    refine hg_iload1 (pc' := 19) cx dX6_tear_18 rfl ?_
    refine hg_iret cx dX6_tear_19 ⟨_, rfl, ?_⟩
    exact ⟨by simp only [op_tear, ← hc.2.2.1, c_4, if_true, if_false], hc.kept⟩
set_option maxHeartbeats 4000000 in
set_option maxRecDepth 100000 in
theorem K_X6_count (l : Launch) (E : hg_Wd) (σ : hg_Mem) (S : sp_S) (hc : cw_M σ S) (hv : vs_S S) (w : Int32) : hg_C l E yX6_count cX6_count 2 (some .int) { frames := 2, cells := 0, slots := 0, locals := 45 } [.ref (hg_ad E 50), .int w] σ (hg_pi (fun r τ => mw_P σ (op_count S w) r τ)) := by
  refine hg_intro (by decide) [some (.ref (hg_ad E 50)), some (.int w)] rfl (Nat.le_of_ble_eq_true rfl) ?_
  intro p e s m args below meth c cx
  have cx : hg_Cx E p s m args meth c cX6_count 2 RX6 (some .int) := cx
  obtain ⟨hn10, hn, g0, g1, g2, hag⟩ := hc.get
  refine hg_iload1 (pc' := 1) cx dX6_count_0 rfl ?_
  refine hg_tsw cx [0, 1, 2, 3] [32, 39, 44, 50] 56 dX6_count_1 (by decide) (by decide) (fun c_1 => ?_) (fun i v t hk ht c_1 => ?_)
  ·
    simp only [List.mem_cons, List.not_mem_nil, or_false, forall_eq_or_imp, forall_eq] at c_1
    refine hg_aload0 (pc' := 57) cx dX6_count_56 rfl ?_
    refine hg_ldc (pc' := 59) cx kc_X6_38 dX6_count_57 rfl ?_
    refine cv_X6_40 (pc' := 62) cx (K_X6_finds l E _ (-1000000001) 0 (by decide) (by decide)) ⟨rfl, rfl, Nat.le_of_ble_eq_true rfl, Nat.le_of_ble_eq_true rfl⟩ (Nat.le_of_ble_eq_true rfl) dX6_count_59 rfl (fun r_59 τ_59 h_59 => ?_)
    obtain ⟨rfl, rfl⟩ := h_59
    refine hg_iret cx dX6_count_62 ⟨_, rfl, ?_⟩
    simp (decide := true) only [op_count, c_1, if_true, if_false]
    exact hc.find (by decide) (by decide)
  ·
    match i, hk, ht with
    | 0, hk, ht =>
      cases hk; cases ht
      refine hg_aload0 (pc' := 33) cx dX6_count_32 rfl ?_
      refine gf_X6_9 (pc' := 36) cx dX6_count_33 rfl ?_
      refine hg_iconst (pc' := 37) cx (nI 3) dX6_count_36 (by decide) rfl ?_
      refine hg_iald2 (pc' := 38) cx (by decide) (hg_ceI51 E) (by first | assumption | omega | decide) (by decide) dX6_count_37 rfl ?_
      refine hg_iret cx dX6_count_38 ⟨_, rfl, ?_⟩
      simp (decide := true) only [op_count, c_1, if_true, if_false]
      exact ⟨hn, hc, mw_Fr.rf _⟩
    | 1, hk, ht =>
      cases hk; cases ht
      refine hg_aload0 (pc' := 40) cx dX6_count_39 rfl ?_
      refine gf_X6_147 (pc' := 43) cx dX6_count_40 rfl ?_
      refine hg_iret cx dX6_count_43 ⟨_, rfl, ?_⟩
      simp (decide := true) only [op_count, c_1, if_true, if_false]
      exact ⟨hc.2.2.2.1, hc, mw_Fr.rf _⟩
    | 2, hk, ht =>
      cases hk; cases ht
      refine hg_aload0 (pc' := 45) cx dX6_count_44 rfl ?_
      refine hg_iconst (pc' := 46) cx (nI 2) dX6_count_45 (by decide) rfl ?_
      refine cv_X6_141 (pc' := 49) cx (K_X6_sums l E _ (S.1 0).2 hn10 hn 2 (by decide)) ⟨rfl, rfl, Nat.le_of_ble_eq_true rfl, Nat.le_of_ble_eq_true rfl⟩ (Nat.le_of_ble_eq_true rfl) dX6_count_46 rfl (fun r_46 τ_46 h_46 => ?_)
      obtain ⟨rfl, rfl⟩ := h_46
      refine hg_iret cx dX6_count_49 ⟨_, rfl, ?_⟩
      simp (decide := true) only [op_count, c_1, if_true, if_false]
      exact ⟨(sp_sumK_2 _ _).trans (sp_sum_ag _ _ hag), hc, mw_Fr.rf _⟩
    | 3, hk, ht =>
      cases hk; cases ht
      refine hg_aload0 (pc' := 51) cx dX6_count_50 rfl ?_
      refine hg_iconst (pc' := 52) cx (nI 3) dX6_count_51 (by decide) rfl ?_
      refine cv_X6_141 (pc' := 55) cx (K_X6_sums l E _ (S.1 0).2 hn10 hn 3 (by decide)) ⟨rfl, rfl, Nat.le_of_ble_eq_true rfl, Nat.le_of_ble_eq_true rfl⟩ (Nat.le_of_ble_eq_true rfl) dX6_count_52 rfl (fun r_52 τ_52 h_52 => ?_)
      obtain ⟨rfl, rfl⟩ := h_52
      refine hg_iret cx dX6_count_55 ⟨_, rfl, ?_⟩
      simp (decide := true) only [op_count, c_1, if_true, if_false]
      exact ⟨(sp_sumK_3 _ _).trans (sp_sum_ag _ _ hag), hc, mw_Fr.rf _⟩
    | j + 4, hk, ht => exact absurd hk (by simp)
set_option maxHeartbeats 4000000 in
set_option maxRecDepth 100000 in
theorem K_X6_status (l : Launch) (E : hg_Wd) (σ : hg_Mem) (S : sp_S) (hc : cw_M σ S) (hv : vs_S S) (w : Int32) : hg_C l E yX6_status cX6_status 4 (some .int) { frames := 1, cells := 0, slots := 0, locals := 23 } [.ref (hg_ad E 50), .int w] σ (hg_pi (fun r τ => mw_P σ (op_status S w) r τ)) := by
  refine hg_intro (by decide) [some (.ref (hg_ad E 50)), some (.int w), none, none] rfl (Nat.le_of_ble_eq_true rfl) ?_
  intro p e s m args below meth c cx
  have cx : hg_Cx E p s m args meth c cX6_status 4 RX6 (some .int) := cx
  obtain ⟨hn10, hn, g0, g1, g2, hag⟩ := hc.get
  refine hg_iload1 (pc' := 1) cx dX6_status_0 rfl ?_
  refine hg_i2l (pc' := 2) cx dX6_status_1 rfl ?_
  refine hg_iconst (pc' := 3) cx (-1) dX6_status_2 (by decide) rfl ?_
  refine hg_bipush (pc' := 5) cx 6 dX6_status_3 (by decide) rfl ?_
  refine cs_X6_44 (pc' := 8) cx (K_X6_in l E _ _ _ _) ⟨rfl, rfl, Nat.le_of_ble_eq_true rfl, Nat.le_of_ble_eq_true rfl⟩ (Nat.le_of_ble_eq_true rfl) dX6_status_5 rfl (fun r_5 τ_5 h_5 => ?_)
  obtain ⟨rfl, rfl⟩ := h_5
  rw [sp_inL_out]
  refine hg_if_ne (pc' := 11) cx 18 dX6_status_8 (by decide) rfl (fun c_8 => ?_) (fun c_8 => ?_)
  ·
    replace c_8 := hg_b1 c_8
    refine hg_iconst (pc' := 19) cx 0 dX6_status_18 (by decide) rfl ?_
    refine hg_istore2 (pc' := 20) cx rfl dX6_status_19 rfl ?_
    refine hg_iconst (pc' := 21) cx (nI 0) dX6_status_20 (by decide) rfl ?_
    refine hg_istore3 (pc' := 22) cx rfl dX6_status_21 rfl ?_
    refine hg_loop (α := Int32 × Nat) (I := fun z => z.2 ≤ 7 ∧ z.1 = sp_stat (σ.1 54) w z.2) (P := fun z => hg_G E p l e { frames := 1, cells := 0, slots := 0, locals := 23 } s m args below meth c 4 (MQ below (hg_Qc E (hg_pi (fun r τ => mw_P σ (op_status S w) r τ))) args s 0 0 (hg_AW E)) σ 22 [some (.ref (hg_ad E 50)), some (.int w), some (.int z.1), some (.int (nI z.2))] []) (fun z => 7 - z.2) ?_ (0, 0) ?_
    rotate_left
    · try dsimp only
      exact ⟨by omega, rfl⟩
    rintro ⟨x, i⟩ hI ih_22
    try dsimp only at hI ih_22 ⊢
    have hi7 := hI.1
    refine hg_iload3 (pc' := 23) cx dX6_status_22 rfl ?_
    refine hg_bipush (pc' := 25) cx (nI 7) dX6_status_23 (by decide) rfl ?_
    refine hg_icmp_ge (pc' := 28) cx 56 dX6_status_25 (by decide) rfl (fun c_25 => ?_) (fun c_25 => ?_)
    ·
      have hi := hg_ge (n := 7) (j := i) rfl (by omega) (by omega) c_25
      refine hg_iload2 (pc' := 57) cx dX6_status_56 rfl ?_
      refine hg_iret cx dX6_status_57 ⟨_, rfl, ?_⟩
      obtain rfl : i = 7 := by omega
      simp only [op_status, c_8, not_true_eq_false, if_false]
      by_cases z : w < 0
      · rw [if_pos z]
        exact ⟨hI.2.trans ((sp_stat_neg z 7).trans (sp_fsum_ag 7 hc.2.2.2.2.1)), hc, mw_Fr.rf _⟩
      · rw [if_neg z]
        obtain ⟨a, ha, rfl⟩ := nI_of z
        have ha6 : a < 7 := by
          have h1 := hg_b0 c_8
          rcases Nat.lt_or_ge 6 a with q | q
          · exact absurd (Or.inr (nI_lt q ha)) h1
          · omega
        refine ⟨?_, hc, mw_Fr.rf _⟩
        rw [hI.2, sp_stat_pos ha6 7 (by omega), if_pos ha6, nI_clamp (by omega)]
        exact hc.2.2.2.2.1 a ha6
    ·
      have hi := hg_nge (n := 7) (j := i) rfl (by omega) (by omega) c_25
      refine hg_iload2 (pc' := 29) cx dX6_status_28 rfl ?_
      refine hg_iload1 (pc' := 30) cx dX6_status_29 rfl ?_
      refine hg_if_lt (pc' := 33) cx 38 dX6_status_30 (by decide) rfl (fun c_30 => ?_) (fun c_30 => ?_)
      ·
        refine hg_aload0 (pc' := 39) cx dX6_status_38 rfl ?_
        refine gf_X6_19 (pc' := 42) cx dX6_status_39 rfl ?_
        refine hg_iload3 (pc' := 43) cx dX6_status_42 rfl ?_
        refine hg_iald2 (pc' := 44) cx (by decide) (hg_ceI54 E) (by first | assumption | omega | decide) (by decide) dX6_status_43 rfl ?_
        refine hg_goto cx 48 dX6_status_44 (by decide) ?_
        refine hg_iadd (pc' := 49) cx dX6_status_48 rfl ?_
        refine hg_istore2 (pc' := 50) cx rfl dX6_status_49 rfl ?_
        refine hg_iinc3p (pc' := 53) cx rfl dX6_status_50 rfl ?_
        refine hg_goto cx 22 dX6_status_53 (by decide) ?_
        rw [nI_1]
        refine ih_22 (_, i + 1) ?_ ?_
        · try dsimp only
          refine ⟨by omega, ?_⟩
          rw [sp_stat, hI.2]
          first
            | (rw [if_pos (Or.inl c_30)] <;> rfl)
            | (rw [if_pos (Or.inr c_35)] <;> rfl)
            | (rw [if_neg (not_or.mpr ⟨c_30, c_35⟩)] <;> rfl)
        · show 7 - (i + 1) < 7 - i
          omega
      ·
        refine hg_iload1 (pc' := 34) cx dX6_status_33 rfl ?_
        refine hg_iload3 (pc' := 35) cx dX6_status_34 rfl ?_
        refine hg_icmp_ne (pc' := 38) cx 47 dX6_status_35 (by decide) rfl (fun c_35 => ?_) (fun c_35 => ?_)
        ·
          refine hg_iconst (pc' := 48) cx 0 dX6_status_47 (by decide) rfl ?_
          refine hg_iadd (pc' := 49) cx dX6_status_48 rfl ?_
          refine hg_istore2 (pc' := 50) cx rfl dX6_status_49 rfl ?_
          refine hg_iinc3p (pc' := 53) cx rfl dX6_status_50 rfl ?_
          refine hg_goto cx 22 dX6_status_53 (by decide) ?_
          rw [nI_1]
          refine ih_22 (_, i + 1) ?_ ?_
          · try dsimp only
            refine ⟨by omega, ?_⟩
            rw [sp_stat, hI.2]
            first
              | (rw [if_pos (Or.inl c_30)] <;> rfl)
              | (rw [if_pos (Or.inr c_35)] <;> rfl)
              | (rw [if_neg (not_or.mpr ⟨c_30, c_35⟩)] <;> rfl)
          · show 7 - (i + 1) < 7 - i
            omega
        ·
          refine hg_aload0 (pc' := 39) cx dX6_status_38 rfl ?_
          refine gf_X6_19 (pc' := 42) cx dX6_status_39 rfl ?_
          refine hg_iload3 (pc' := 43) cx dX6_status_42 rfl ?_
          refine hg_iald2 (pc' := 44) cx (by decide) (hg_ceI54 E) (by first | assumption | omega | decide) (by decide) dX6_status_43 rfl ?_
          refine hg_goto cx 48 dX6_status_44 (by decide) ?_
          refine hg_iadd (pc' := 49) cx dX6_status_48 rfl ?_
          refine hg_istore2 (pc' := 50) cx rfl dX6_status_49 rfl ?_
          refine hg_iinc3p (pc' := 53) cx rfl dX6_status_50 rfl ?_
          refine hg_goto cx 22 dX6_status_53 (by decide) ?_
          rw [nI_1]
          refine ih_22 (_, i + 1) ?_ ?_
          · try dsimp only
            refine ⟨by omega, ?_⟩
            rw [sp_stat, hI.2]
            first
              | (rw [if_pos (Or.inl c_30)] <;> rfl)
              | (rw [if_pos (Or.inr c_35)] <;> rfl)
              | (rw [if_neg (not_or.mpr ⟨c_30, c_35⟩)] <;> rfl)
          · show 7 - (i + 1) < 7 - i
            omega
  ·
    replace c_8 := hg_b0 c_8
    refine hg_aload0 (pc' := 12) cx dX6_status_11 rfl ?_
    refine hg_ldc (pc' := 14) cx kc_X6_38 dX6_status_12 rfl ?_
    refine cv_X6_40 (pc' := 17) cx (K_X6_finds l E _ (-1000000001) 0 (by decide) (by decide)) ⟨rfl, rfl, Nat.le_of_ble_eq_true rfl, Nat.le_of_ble_eq_true rfl⟩ (Nat.le_of_ble_eq_true rfl) dX6_status_14 rfl (fun r_14 τ_14 h_14 => ?_)
    obtain ⟨rfl, rfl⟩ := h_14
    refine hg_iret cx dX6_status_17 ⟨_, rfl, ?_⟩
    simp only [op_status, sp_hz, c_8, not_true_eq_false, not_false_eq_true, true_or, or_true, false_or, or_false, or_self, if_true, if_false, and_self]
    exact hc.find (by decide) (by decide)
