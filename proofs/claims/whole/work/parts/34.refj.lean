theorem sp_sub_toInt {a b : Nat} (ha : a ≤ 40) (hb : b < 2 ^ 31) : (nI a - nI b).toInt = (a : Int) - b := by
  rw [Int32.toInt_sub, nI_toInt (by omega), nI_toInt hb, Int.bmod_def]
  split <;> omega
theorem sp_run_nat {len x k : Nat} (hl : len ≤ 40) (hx : x < 2 ^ 31) (hk : k < 2 ^ 31) : sp_run (nI len) (nI x) (nI k) = if x + k ≤ len then 1 else 0 := by
  unfold sp_run
  by_cases h : x + k ≤ len
  · rw [if_pos h, if_pos ⟨nI_pos' hx, nI_pos' hk, nI_le (by omega) (by omega), by rw [pk_sub (by omega)]; exact nI_le (by omega) (by omega)⟩]
  · rw [if_neg h, if_neg]
    rintro ⟨-, -, h3, h4⟩
    have q1 := (nI_leI hk (by omega)).mp h3
    rw [pk_sub q1] at h4
    have q2 := (nI_leI hx (by omega)).mp h4
    omega
theorem sp_gt_nat {len x k : Nat} (hl : len ≤ 40) (hx : x < 2 ^ 31) (hk : k < 2 ^ 31) : nI len - nI x < nI k ↔ ¬ x + k ≤ len := by
  rw [Int32.lt_iff_toInt_lt, sp_sub_toInt hl hx, nI_toInt hk]
  omega
theorem sp_rn_bad {len : Nat} (hl : len ≤ 40) {f n : Int32} (h : n < 0 ∨ f < 0 ∨ nI len - f < n) : sp_run (nI len) f n = 0 := by
  by_cases h1 : n < 0
  · unfold sp_run; rw [if_neg (fun z => Int32.not_lt.mpr z.2.1 h1)]
  · by_cases h2 : f < 0
    · unfold sp_run; rw [if_neg (fun z => Int32.not_lt.mpr z.1 h2)]
    · obtain ⟨x, hx, rfl⟩ := nI_of h2
      obtain ⟨k, hk, rfl⟩ := nI_of h1
      have h3 : nI len - nI x < nI k := (h.resolve_left h1).resolve_left h2
      rw [sp_run_nat hl hx hk, if_neg ((sp_gt_nat hl hx hk).mp h3)]
theorem sp_rn_ok {len : Nat} (hl : len ≤ 40) {f n : Int32} (h1 : ¬ n < 0) (h2 : ¬ f < 0) (h3 : ¬ nI len - f < n) : ¬ sp_run (nI len) f n = 0 ∧ ∃ x k, f = nI x ∧ n = nI k ∧ x + k ≤ len := by
  obtain ⟨x, hx, rfl⟩ := nI_of h2
  obtain ⟨k, hk, rfl⟩ := nI_of h1
  have q : x + k ≤ len := by
    by_cases z : x + k ≤ len
    · exact z
    · exact absurd ((sp_gt_nat hl hx hk).mpr z) h3
  rw [sp_run_nat hl hx hk, if_pos q]
  exact ⟨by decide, x, k, rfl, rfl, q⟩
def sp_ncB (S : sp_S) (w : Int32 × sp_S) (r : Int32) : Prop := ∃ f, f < 7 ∧ r = -1000000001 - nI f ∧ -1000000001 - r = nI f ∧ w = sp_bad S f
def sp_ncOK (S : sp_S) (sh f tt g n : Int32) : Prop := ∃ a x b y k : Nat, a < 4 ∧ b < 4 ∧ sh = nI a ∧ f = nI x ∧ tt = nI b ∧ g = nI y ∧ n = nI k ∧ x + k ≤ 40 ∧ y + k ≤ 40 ∧ op_copy S sh f tt g n = (n, sp_sL S b (va_cpy (S.2.2 a) (S.2.2 b) x y k))
def sp_na (o b z : Int32) : Int32 := if ¬ sp_nt o b = 0 then sp_nt o b else if z = 0 then -1000000001 else 0
theorem sp_na_bad {o b z : Int32} (h : ¬ sp_na o b z = 0) : ∃ f, f < 7 ∧ sp_na o b z = -1000000001 - nI f ∧ -1000000001 - sp_na o b z = nI f ∧ ((¬ o = 0 ∧ f = 0) ∨ (o = 0 ∧ b = 0 ∧ f = 5) ∨ (o = 0 ∧ ¬ b = 0 ∧ z = 0 ∧ f = 0)) := by
  by_cases c : sp_nt o b = 0
  · have e : sp_na o b z = if z = 0 then -1000000001 else 0 := by unfold sp_na; rw [if_neg (show ¬ ¬ sp_nt o b = 0 from fun q => q c)]
    by_cases d : z = 0
    · rw [if_pos d] at e
      exact ⟨0, by decide, by rw [e]; decide, by rw [e]; decide, Or.inr (Or.inr ⟨(sp_nt0 c).1, (sp_nt0 c).2, d, rfl⟩)⟩
    · rw [if_neg d] at e; exact absurd e h
  · have e : sp_na o b z = sp_nt o b := by unfold sp_na; rw [if_pos c]
    rcases sp_nt_cases c with ⟨z1, z2, z3⟩ | ⟨z1, z2, z3, z4⟩
    · exact ⟨0, by decide, by rw [e, z2]; decide, by rw [e, z2]; decide, Or.inl ⟨z1, rfl⟩⟩
    · exact ⟨5, by decide, by rw [e, z3]; decide, by rw [e, z3]; decide, Or.inr (Or.inl ⟨z1, z2, rfl⟩)⟩
theorem sp_na_ok {o b z : Int32} (h : sp_na o b z = 0) : o = 0 ∧ ¬ b = 0 ∧ ¬ z = 0 := by
  by_cases c : sp_nt o b = 0
  · refine ⟨(sp_nt0 c).1, (sp_nt0 c).2, fun d => ?_⟩
    unfold sp_na at h
    rw [if_neg (show ¬ ¬ sp_nt o b = 0 from fun q => q c), if_pos d] at h
    exact absurd h (by decide)
  · unfold sp_na at h
    rw [if_pos c] at h
    exact absurd h c
theorem hg_zor {v : Int32} (h : v = 0 ∨ v = 1) : narrow .boolean (.int v) = .int v := by rcases h with rfl | rfl <;> rfl
theorem sp_RepM.word {σ : hg_Mem} {n x k : Nat} {C : sp_C} (h : sp_RepM σ 51 (sp_go C n k) n) (hx : x < n) : sp_says (sp_hr (σ.1 51) x) (sp_q (σ.1 51 0)) (σ.1 51 2) = sp_word C n x k := by
  rw [h.2.2.1 0 (by decide), h.2.2.1 2 (by decide)]
  exact (h.ag hx).says _ _
set_option maxHeartbeats 4000000 in
set_option maxRecDepth 100000 in
theorem K_X6_notCopied (l : Launch) (E : hg_Wd) (σ : hg_Mem) (S : sp_S) (hc : cw_M σ S) (hv : vs_S S) (sh : Int32) (f : Int32) (tt : Int32) (g : Int32) (n : Int32) : hg_C l E yX6_notCopied cX6_notCopied 7 (some .int) { frames := 2, cells := 0, slots := 0, locals := 43 } [.ref (hg_ad E 50), .int sh, .int f, .int tt, .int g, .int n] σ (hg_pi (fun r τ => σ = τ ∧ (sp_ncB S (op_copy S sh f tt g n) r ∨ (r = 0 ∧ sp_ncOK S sh f tt g n)))) := by
  refine hg_intro (by decide) [some (.ref (hg_ad E 50)), some (.int sh), some (.int f), some (.int tt), some (.int g), some (.int n), none] rfl (Nat.le_of_ble_eq_true rfl) ?_
  intro p e s m args below meth c cx
  have cx : hg_Cx E p s m args meth c cX6_notCopied 7 RX6 (some .int) := cx
  refine hg_iload1 (pc' := 1) cx dX6_notCopied_0 rfl ?_
  refine cs_X6_202 (pc' := 4) cx (K_X6_isSheet l E _ _) ⟨rfl, rfl, Nat.le_of_ble_eq_true rfl, Nat.le_of_ble_eq_true rfl⟩ (Nat.le_of_ble_eq_true rfl) dX6_notCopied_1 rfl (fun r_1 τ_1 h_1 => ?_)
  obtain ⟨rfl, rfl⟩ := h_1
  refine hg_if_eq (pc' := 7) cx 14 dX6_notCopied_4 (by decide) rfl (fun c_4 => ?_) (fun c_4 => ?_)
  ·
    refine hg_ldc (pc' := 16) cx kc_X6_38 dX6_notCopied_14 rfl ?_
    refine hg_iret cx dX6_notCopied_16 ⟨_, rfl, ?_⟩
    refine ⟨rfl, Or.inl ⟨0, by decide, by decide, by decide, ?_⟩⟩
    simp only [op_copy, hg_b0 c_4, not_false_eq_true, true_or, if_true]
  ·
    refine hg_iload3 (pc' := 8) cx dX6_notCopied_7 rfl ?_
    refine cs_X6_202 (pc' := 11) cx (K_X6_isSheet l E _ _) ⟨rfl, rfl, Nat.le_of_ble_eq_true rfl, Nat.le_of_ble_eq_true rfl⟩ (Nat.le_of_ble_eq_true rfl) dX6_notCopied_8 rfl (fun r_8 τ_8 h_8 => ?_)
    obtain ⟨rfl, rfl⟩ := h_8
    refine hg_if_ne (pc' := 14) cx 17 dX6_notCopied_11 (by decide) rfl (fun c_11 => ?_) (fun c_11 => ?_)
    ·
      have d_4 := hg_b1 c_4
      have d_11 := hg_b1 c_11
      obtain ⟨a, -, ha3, rfl⟩ := sp_out_of 0 3 (by decide) (by decide) (by decide) (by decide) d_4
      have hca : (nI a).toNatClampNeg = a := nI_clamp (by omega)
      obtain ⟨b, -, hb3, rfl⟩ := sp_out_of 0 3 (by decide) (by decide) (by decide) (by decide) d_11
      have hcb : (nI b).toNatClampNeg = b := nI_clamp (by omega)
      obtain ⟨s1a, s2a, s3a⟩ := hc.2.2.2.2.2.2 a (by omega)
      obtain ⟨lena, hlena, elena⟩ := (hv.2.2.2.2 a (by omega)).2
      have hcla : (nI lena).toNatClampNeg = lena := nI_clamp (by omega)
      obtain ⟨s1b, s2b, s3b⟩ := hc.2.2.2.2.2.2 b (by omega)
      obtain ⟨lenb, hlenb, elenb⟩ := (hv.2.2.2.2 b (by omega)).2
      have hclb : (nI lenb).toNatClampNeg = lenb := nI_clamp (by omega)
      refine hg_aload0 (pc' := 18) cx dX6_notCopied_17 rfl ?_
      refine gf_X6_28 (pc' := 21) cx dX6_notCopied_18 rfl ?_
      refine hg_iload1 (pc' := 22) cx dX6_notCopied_21 rfl ?_
      refine hg_iald2 (pc' := 23) cx (by decide) (hg_ceI57 E) (by first | assumption | omega | decide) (by decide) dX6_notCopied_22 rfl ?_
      refine hg_if_eq (pc' := 26) cx 35 dX6_notCopied_23 (by decide) rfl (fun c_23 => ?_) (fun c_23 => ?_)
      ·
        refine hg_ldc (pc' := 37) cx kc_X6_206 dX6_notCopied_35 rfl ?_
        refine hg_iret cx dX6_notCopied_37 ⟨_, rfl, ?_⟩
        refine ⟨rfl, Or.inl ⟨5, by decide, by decide, by decide, ?_⟩⟩
        simp only [op_copy, d_4, d_11, hca, hcb, ← s1a, ← s1b, not_true_eq_false, or_self, if_false, c_23, true_or, if_true]
      ·
        refine hg_aload0 (pc' := 27) cx dX6_notCopied_26 rfl ?_
        refine gf_X6_28 (pc' := 30) cx dX6_notCopied_27 rfl ?_
        refine hg_iload3 (pc' := 31) cx dX6_notCopied_30 rfl ?_
        refine hg_iald2 (pc' := 32) cx (by decide) (hg_ceI57 E) (by first | assumption | omega | decide) (by decide) dX6_notCopied_31 rfl ?_
        refine hg_if_ne (pc' := 35) cx 38 dX6_notCopied_32 (by decide) rfl (fun c_32 => ?_) (fun c_32 => ?_)
        ·
          refine hg_aload0 (pc' := 39) cx dX6_notCopied_38 rfl ?_
          refine gf_X6_28 (pc' := 42) cx dX6_notCopied_39 rfl ?_
          refine hg_iload1 (pc' := 43) cx dX6_notCopied_42 rfl ?_
          refine hg_iald2 (pc' := 44) cx (by decide) (hg_ceI57 E) (by first | assumption | omega | decide) (by decide) dX6_notCopied_43 rfl ?_
          refine hg_aload0 (pc' := 45) cx dX6_notCopied_44 rfl ?_
          refine gf_X6_28 (pc' := 48) cx dX6_notCopied_45 rfl ?_
          refine hg_iload3 (pc' := 49) cx dX6_notCopied_48 rfl ?_
          refine hg_iald2 (pc' := 50) cx (by decide) (hg_ceI57 E) (by first | assumption | omega | decide) (by decide) dX6_notCopied_49 rfl ?_
          refine hg_icmp_eq (pc' := 53) cx 56 dX6_notCopied_50 (by decide) rfl (fun c_50 => ?_) (fun c_50 => ?_)
          ·
            refine hg_iload5 (pc' := 58) cx dX6_notCopied_56 rfl ?_
            refine hg_if_lt (pc' := 61) cx 101 dX6_notCopied_58 (by decide) rfl (fun c_58 => ?_) (fun c_58 => ?_)
            ·
              refine hg_iconst (pc' := 102) cx 0 dX6_notCopied_101 (by decide) rfl ?_
              refine hg_istore6 (pc' := 104) cx rfl dX6_notCopied_102 rfl ?_
              refine hg_iload6 (pc' := 106) cx dX6_notCopied_104 rfl ?_
              refine hg_if_eq (pc' := 109) cx 113 dX6_notCopied_106 (by decide) rfl (fun c_106 => ?_) (fun c_106 => ?_)
              ·
                refine hg_ldc (pc' := 115) cx kc_X6_38 dX6_notCopied_113 rfl ?_
                refine hg_iret cx dX6_notCopied_115 ⟨_, rfl, ?_⟩
                refine ⟨rfl, Or.inl ⟨0, by decide, by decide, by decide, ?_⟩⟩
                simp only [op_copy, d_4, d_11, hca, hcb, ← s1a, ← s1b, not_true_eq_false, or_self, if_false, if_neg (not_or.mpr ⟨c_23, c_32⟩), if_neg (show ¬ ¬ σ.1 57 a = σ.1 57 b from fun z => z c_50), elena, elenb]
                rw [if_pos]
                exact Or.inl (sp_rn_bad hlena (Or.inl c_58))
              ·
                exact absurd c_106 (by decide)
            ·
              refine hg_iload2 (pc' := 62) cx dX6_notCopied_61 rfl ?_
              refine hg_if_lt (pc' := 65) cx 101 dX6_notCopied_62 (by decide) rfl (fun c_62 => ?_) (fun c_62 => ?_)
              ·
                refine hg_iconst (pc' := 102) cx 0 dX6_notCopied_101 (by decide) rfl ?_
                refine hg_istore6 (pc' := 104) cx rfl dX6_notCopied_102 rfl ?_
                refine hg_iload6 (pc' := 106) cx dX6_notCopied_104 rfl ?_
                refine hg_if_eq (pc' := 109) cx 113 dX6_notCopied_106 (by decide) rfl (fun c_106 => ?_) (fun c_106 => ?_)
                ·
                  refine hg_ldc (pc' := 115) cx kc_X6_38 dX6_notCopied_113 rfl ?_
                  refine hg_iret cx dX6_notCopied_115 ⟨_, rfl, ?_⟩
                  refine ⟨rfl, Or.inl ⟨0, by decide, by decide, by decide, ?_⟩⟩
                  simp only [op_copy, d_4, d_11, hca, hcb, ← s1a, ← s1b, not_true_eq_false, or_self, if_false, if_neg (not_or.mpr ⟨c_23, c_32⟩), if_neg (show ¬ ¬ σ.1 57 a = σ.1 57 b from fun z => z c_50), elena, elenb]
                  rw [if_pos]
                  exact Or.inl (sp_rn_bad hlena (Or.inr (Or.inl c_62)))
                ·
                  exact absurd c_106 (by decide)
              ·
                refine hg_iload4 (pc' := 67) cx dX6_notCopied_65 rfl ?_
                refine hg_if_lt (pc' := 70) cx 101 dX6_notCopied_67 (by decide) rfl (fun c_67 => ?_) (fun c_67 => ?_)
                ·
                  refine hg_iconst (pc' := 102) cx 0 dX6_notCopied_101 (by decide) rfl ?_
                  refine hg_istore6 (pc' := 104) cx rfl dX6_notCopied_102 rfl ?_
                  refine hg_iload6 (pc' := 106) cx dX6_notCopied_104 rfl ?_
                  refine hg_if_eq (pc' := 109) cx 113 dX6_notCopied_106 (by decide) rfl (fun c_106 => ?_) (fun c_106 => ?_)
                  ·
                    refine hg_ldc (pc' := 115) cx kc_X6_38 dX6_notCopied_113 rfl ?_
                    refine hg_iret cx dX6_notCopied_115 ⟨_, rfl, ?_⟩
                    refine ⟨rfl, Or.inl ⟨0, by decide, by decide, by decide, ?_⟩⟩
                    simp only [op_copy, d_4, d_11, hca, hcb, ← s1a, ← s1b, not_true_eq_false, or_self, if_false, if_neg (not_or.mpr ⟨c_23, c_32⟩), if_neg (show ¬ ¬ σ.1 57 a = σ.1 57 b from fun z => z c_50), elena, elenb]
                    rw [if_pos]
                    exact Or.inr (sp_rn_bad hlenb (Or.inr (Or.inl c_67)))
                  ·
                    exact absurd c_106 (by decide)
                ·
                  refine hg_iload5 (pc' := 72) cx dX6_notCopied_70 rfl ?_
                  refine hg_aload0 (pc' := 73) cx dX6_notCopied_72 rfl ?_
                  refine gf_X6_31 (pc' := 76) cx dX6_notCopied_73 rfl ?_
                  refine hg_iload1 (pc' := 77) cx dX6_notCopied_76 rfl ?_
                  refine hg_iald2 (pc' := 78) cx (by decide) (hg_ceI58 E) (by first | assumption | omega | decide) (by decide) dX6_notCopied_77 rfl ?_
                  refine hg_iload2 (pc' := 79) cx dX6_notCopied_78 rfl ?_
                  refine hg_isub (pc' := 80) cx dX6_notCopied_79 rfl ?_
                  refine hg_icmp_gt (pc' := 83) cx 101 dX6_notCopied_80 (by decide) rfl (fun c_80 => ?_) (fun c_80 => ?_)
                  ·
                    rw [s2a, elena] at c_80
                    refine hg_iconst (pc' := 102) cx 0 dX6_notCopied_101 (by decide) rfl ?_
                    refine hg_istore6 (pc' := 104) cx rfl dX6_notCopied_102 rfl ?_
                    refine hg_iload6 (pc' := 106) cx dX6_notCopied_104 rfl ?_
                    refine hg_if_eq (pc' := 109) cx 113 dX6_notCopied_106 (by decide) rfl (fun c_106 => ?_) (fun c_106 => ?_)
                    ·
                      refine hg_ldc (pc' := 115) cx kc_X6_38 dX6_notCopied_113 rfl ?_
                      refine hg_iret cx dX6_notCopied_115 ⟨_, rfl, ?_⟩
                      refine ⟨rfl, Or.inl ⟨0, by decide, by decide, by decide, ?_⟩⟩
                      simp only [op_copy, d_4, d_11, hca, hcb, ← s1a, ← s1b, not_true_eq_false, or_self, if_false, if_neg (not_or.mpr ⟨c_23, c_32⟩), if_neg (show ¬ ¬ σ.1 57 a = σ.1 57 b from fun z => z c_50), elena, elenb]
                      rw [if_pos]
                      exact Or.inl (sp_rn_bad hlena (Or.inr (Or.inr c_80)))
                    ·
                      exact absurd c_106 (by decide)
                  ·
                    rw [s2a, elena] at c_80
                    refine hg_iload5 (pc' := 85) cx dX6_notCopied_83 rfl ?_
                    refine hg_aload0 (pc' := 86) cx dX6_notCopied_85 rfl ?_
                    refine gf_X6_31 (pc' := 89) cx dX6_notCopied_86 rfl ?_
                    refine hg_iload3 (pc' := 90) cx dX6_notCopied_89 rfl ?_
                    refine hg_iald2 (pc' := 91) cx (by decide) (hg_ceI58 E) (by first | assumption | omega | decide) (by decide) dX6_notCopied_90 rfl ?_
                    refine hg_iload4 (pc' := 93) cx dX6_notCopied_91 rfl ?_
                    refine hg_isub (pc' := 94) cx dX6_notCopied_93 rfl ?_
                    refine hg_icmp_gt (pc' := 97) cx 101 dX6_notCopied_94 (by decide) rfl (fun c_94 => ?_) (fun c_94 => ?_)
                    ·
                      rw [s2b, elenb] at c_94
                      refine hg_iconst (pc' := 102) cx 0 dX6_notCopied_101 (by decide) rfl ?_
                      refine hg_istore6 (pc' := 104) cx rfl dX6_notCopied_102 rfl ?_
                      refine hg_iload6 (pc' := 106) cx dX6_notCopied_104 rfl ?_
                      refine hg_if_eq (pc' := 109) cx 113 dX6_notCopied_106 (by decide) rfl (fun c_106 => ?_) (fun c_106 => ?_)
                      ·
                        refine hg_ldc (pc' := 115) cx kc_X6_38 dX6_notCopied_113 rfl ?_
                        refine hg_iret cx dX6_notCopied_115 ⟨_, rfl, ?_⟩
                        refine ⟨rfl, Or.inl ⟨0, by decide, by decide, by decide, ?_⟩⟩
                        simp only [op_copy, d_4, d_11, hca, hcb, ← s1a, ← s1b, not_true_eq_false, or_self, if_false, if_neg (not_or.mpr ⟨c_23, c_32⟩), if_neg (show ¬ ¬ σ.1 57 a = σ.1 57 b from fun z => z c_50), elena, elenb]
                        rw [if_pos]
                        exact Or.inr (sp_rn_bad hlenb (Or.inr (Or.inr c_94)))
                      ·
                        exact absurd c_106 (by decide)
                    ·
                      rw [s2b, elenb] at c_94
                      refine hg_iconst (pc' := 98) cx 1 dX6_notCopied_97 (by decide) rfl ?_
                      refine hg_goto cx 102 dX6_notCopied_98 (by decide) ?_
                      refine hg_istore6 (pc' := 104) cx rfl dX6_notCopied_102 rfl ?_
                      refine hg_iload6 (pc' := 106) cx dX6_notCopied_104 rfl ?_
                      refine hg_if_eq (pc' := 109) cx 113 dX6_notCopied_106 (by decide) rfl (fun c_106 => ?_) (fun c_106 => ?_)
                      ·
                        exact absurd c_106 (by decide)
                      ·
                        refine hg_iconst (pc' := 110) cx 0 dX6_notCopied_109 (by decide) rfl ?_
                        refine hg_goto cx 115 dX6_notCopied_110 (by decide) ?_
                        refine hg_iret cx dX6_notCopied_115 ⟨_, rfl, ?_⟩
                        obtain ⟨w1, x, k, rfl, rfl, hxk⟩ := sp_rn_ok hlena c_58 c_62 c_80
                        obtain ⟨w2, y, k2, rfl, ek, hyk⟩ := sp_rn_ok hlenb c_58 c_67 c_94
                        have hcx : (nI x).toNatClampNeg = x := nI_clamp (by omega)
                        have hcy : (nI y).toNatClampNeg = y := nI_clamp (by omega)
                        have hck : (nI k).toNatClampNeg = k := nI_clamp (by omega)
                        obtain rfl : k = k2 := by
                          have := congrArg Int32.toNatClampNeg ek
                          rw [hck, nI_clamp (by omega)] at this
                          exact this
                        refine ⟨rfl, Or.inr ⟨rfl, a, x, b, y, k, by omega, by omega, rfl, rfl, rfl, rfl, rfl, by omega, by omega, ?_⟩⟩
                        simp only [op_copy, d_4, d_11, hca, hcb, ← s1a, ← s1b, not_true_eq_false, or_self, if_false, if_neg (not_or.mpr ⟨c_23, c_32⟩), if_neg (show ¬ ¬ σ.1 57 a = σ.1 57 b from fun z => z c_50), elena, elenb]
                        rw [if_neg (not_or.mpr ⟨w1, w2⟩), hcx, hcy, hck]
          ·
            refine hg_ldc (pc' := 55) cx kc_X6_96 dX6_notCopied_53 rfl ?_
            refine hg_iret cx dX6_notCopied_55 ⟨_, rfl, ?_⟩
            refine ⟨rfl, Or.inl ⟨2, by decide, by decide, by decide, ?_⟩⟩
            simp only [op_copy, d_4, d_11, hca, hcb, ← s1a, ← s1b, not_true_eq_false, or_self, if_false, if_neg (not_or.mpr ⟨c_23, c_32⟩), if_pos c_50]
        ·
          refine hg_ldc (pc' := 37) cx kc_X6_206 dX6_notCopied_35 rfl ?_
          refine hg_iret cx dX6_notCopied_37 ⟨_, rfl, ?_⟩
          refine ⟨rfl, Or.inl ⟨5, by decide, by decide, by decide, ?_⟩⟩
          simp only [op_copy, d_4, d_11, hca, hcb, ← s1a, ← s1b, not_true_eq_false, or_self, if_false, c_32, or_true, if_true]
    ·
      refine hg_ldc (pc' := 16) cx kc_X6_38 dX6_notCopied_14 rfl ?_
      refine hg_iret cx dX6_notCopied_16 ⟨_, rfl, ?_⟩
      refine ⟨rfl, Or.inl ⟨0, by decide, by decide, by decide, ?_⟩⟩
      simp only [op_copy, hg_b0 c_11, not_false_eq_true, or_true, if_true]
set_option maxHeartbeats 4000000 in
set_option maxRecDepth 100000 in
theorem K_X6_copy (l : Launch) (E : hg_Wd) (σ : hg_Mem) (S : sp_S) (hc : cw_M σ S) (hv : vs_S S) (sh : Int32) (f : Int32) (tt : Int32) (g : Int32) (n : Int32) : hg_C l E yX6_copy cX6_copy 9 (some .int) { frames := 3, cells := 0, slots := 0, locals := 69 } [.ref (hg_ad E 50), .int sh, .int f, .int tt, .int g, .int n] σ (hg_pi (fun r τ => mw_P σ (op_copy S sh f tt g n) r τ)) := by
  refine hg_intro (by decide) [some (.ref (hg_ad E 50)), some (.int sh), some (.int f), some (.int tt), some (.int g), some (.int n), none, none, none] rfl (Nat.le_of_ble_eq_true rfl) ?_
  intro p e s m args below meth c cx
  have cx : hg_Cx E p s m args meth c cX6_copy 9 RX6 (some .int) := cx
  obtain ⟨hn10, hn, g0, g1, g2, hag⟩ := hc.get
  refine hg_aload0 (pc' := 1) cx dX6_copy_0 rfl ?_
  refine hg_iload1 (pc' := 2) cx dX6_copy_1 rfl ?_
  refine hg_iload2 (pc' := 3) cx dX6_copy_2 rfl ?_
  refine hg_iload3 (pc' := 4) cx dX6_copy_3 rfl ?_
  refine hg_iload4 (pc' := 6) cx dX6_copy_4 rfl ?_
  refine hg_iload5 (pc' := 8) cx dX6_copy_6 rfl ?_
  refine cv_X6_214 (pc' := 11) cx (K_X6_notCopied l E _ S hc hv _ _ _ _ _) ⟨rfl, rfl, Nat.le_of_ble_eq_true rfl, Nat.le_of_ble_eq_true rfl⟩ (Nat.le_of_ble_eq_true rfl) dX6_copy_8 rfl (fun r_8 τ_8 h_8 => ?_)
  obtain ⟨rfl, hnc⟩ := h_8
  refine hg_istore6 (pc' := 13) cx rfl dX6_copy_11 rfl ?_
  refine hg_iload6 (pc' := 15) cx dX6_copy_13 rfl ?_
  refine hg_if_eq (pc' := 18) cx 25 dX6_copy_15 (by decide) rfl (fun c_15 => ?_) (fun c_15 => ?_)
  ·
    rcases hnc with ⟨ff, hff, e1, e2, e3⟩ | ⟨-, a, x, b, y, k, ha, hb, rfl, rfl, rfl, rfl, rfl, hxk, hyk, eop⟩
    · rw [c_15] at e2
      exact absurd (e2 ▸ (by decide : (-1000000001 - 0 : Int32) < 0)) (nI_pos (by omega))
    obtain ⟨s1a, s2a, s3a⟩ := hc.2.2.2.2.2.2 a ha
    obtain ⟨s1b, s2b, s3b⟩ := hc.2.2.2.2.2.2 b hb
    refine hg_iconst (pc' := 26) cx (nI 0) dX6_copy_25 (by decide) rfl ?_
    refine hg_istore7 (pc' := 28) cx rfl dX6_copy_26 rfl ?_
    refine hg_drop8 ?_
    subst c_15
    refine hg_nm (fun μ hμ => ?_)
    refine hg_loop (α := hg_Mem × Nat) (I := fun z => z.2 ≤ k ∧ z.1.1 = σ.1 ∧ (∀ w, w ≠ 59 → z.1.2 w = σ.2 w) ∧ ∀ u, z.1.2 59 u = (if 40 * b + y + (if y ≤ x then 0 else k - z.2) ≤ u ∧ u < 40 * b + y + (if y ≤ x then 0 else k - z.2) + z.2 then σ.2 59 (40 * a + x + (u - (40 * b + y))) else σ.2 59 u)) (P := fun z => hg_G E p l e { frames := 3, cells := 0, slots := 0, locals := 69 } s m args below meth c 9 (MQ below (hg_Qc E (hg_pi (fun r τ => mw_P σ (op_copy S (nI a) (nI x) (nI b) (nI y) (nI k)) r τ))) args s 0 0 (hg_AW E)) z.1 28 [some (.ref (hg_ad E 50)), some (.int (nI a)), some (.int (nI x)), some (.int (nI b)), some (.int (nI y)), some (.int (nI k)), some (.int 0), some (.int (nI z.2)), none] []) (fun z => k - z.2) ?_ (μ, 0) ?_
    rotate_left
    · subst hμ
      try dsimp only
      exact ⟨Nat.zero_le _, rfl, fun _ _ => rfl, fun z => by rw [if_neg (by omega)]⟩
    clear hμ μ
    rintro ⟨τ, i⟩ hI ih_28
    try dsimp only at hI ih_28 ⊢
    have hik := hI.1
    refine hg_iload7 (pc' := 30) cx dX6_copy_28 rfl ?_
    refine hg_iload5 (pc' := 32) cx dX6_copy_30 rfl ?_
    refine hg_icmp_ge (pc' := 35) cx 90 dX6_copy_32 (by decide) rfl (fun c_32 => ?_) (fun c_32 => ?_)
    ·
      have hi := hg_ge (n := k) (j := i) rfl (by omega) (by omega) c_32
      refine hg_iload5 (pc' := 92) cx dX6_copy_90 rfl ?_
      refine hg_iret cx dX6_copy_92 ⟨_, rfl, ?_⟩
      obtain rfl : i = k := by omega
      obtain ⟨-, i1, i2, i3⟩ := hI
      have i4 : ∀ z, τ.2 59 z = (if 40 * b + y ≤ z ∧ z < 40 * b + y + i then σ.2 59 (40 * a + x + (z - (40 * b + y))) else σ.2 59 z) := fun z => by
        rw [i3 z, show (if y ≤ x then 0 else i - i) = 0 by split <;> omega, Nat.add_zero]
      rw [eop]
      refine ⟨rfl, hc.cells hb _ (fun w _ _ _ => by rw [i1]) (fun w _ => by rw [i1]) i2 (fun w hw => ?_) (fun t ht htb w hw => ?_)⟩
      · rw [i4]
        by_cases q : y ≤ w ∧ w < y + i
        · rw [if_pos (by omega), pk_cpy_in q.1 q.2, show 40 * a + x + (40 * b + w - (40 * b + y)) = 40 * a + (x + (w - y)) by omega]
          exact s3a _ (by omega)
        · rw [if_neg (by omega), pk_cpy_out (by omega)]
          exact s3b w hw
      · rw [i4, if_neg (by omega)]
    ·
      have hi := hg_nge (n := k) (j := i) rfl (by omega) (by omega) c_32
      refine hg_iload2 (pc' := 36) cx dX6_copy_35 rfl ?_
      refine hg_iload4 (pc' := 38) cx dX6_copy_36 rfl ?_
      refine hg_icmp_ge (pc' := 41) cx 51 dX6_copy_38 (by decide) rfl (fun c_38 => ?_) (fun c_38 => ?_)
      ·
        have hyx : y ≤ x := (nI_leI (by omega) (by omega)).mp c_38
        refine hg_iload7 (pc' := 53) cx dX6_copy_51 rfl ?_
        refine hg_istore8 (pc' := 55) cx rfl dX6_copy_53 rfl ?_
        refine hg_aload0 (pc' := 56) cx dX6_copy_55 rfl ?_
        refine gf_X6_34 (pc' := 59) cx dX6_copy_56 rfl ?_
        refine hg_bipush (pc' := 61) cx (nI 40) dX6_copy_59 (by decide) rfl ?_
        refine hg_iload3 (pc' := 62) cx dX6_copy_61 rfl ?_
        refine hg_imul (pc' := 63) cx dX6_copy_62 rfl ?_
        refine hg_iload4 (pc' := 65) cx dX6_copy_63 rfl ?_
        refine hg_iadd (pc' := 66) cx dX6_copy_65 rfl ?_
        refine hg_iload8 (pc' := 68) cx dX6_copy_66 rfl ?_
        refine hg_iadd (pc' := 69) cx dX6_copy_68 rfl ?_
        rw [pk_mul, nI_add, nI_add]
        refine hg_aload0 (pc' := 70) cx dX6_copy_69 rfl ?_
        refine gf_X6_34 (pc' := 73) cx dX6_copy_70 rfl ?_
        refine hg_bipush (pc' := 75) cx (nI 40) dX6_copy_73 (by decide) rfl ?_
        refine hg_iload1 (pc' := 76) cx dX6_copy_75 rfl ?_
        refine hg_imul (pc' := 77) cx dX6_copy_76 rfl ?_
        refine hg_iload2 (pc' := 78) cx dX6_copy_77 rfl ?_
        refine hg_iadd (pc' := 79) cx dX6_copy_78 rfl ?_
        refine hg_iload8 (pc' := 81) cx dX6_copy_79 rfl ?_
        refine hg_iadd (pc' := 82) cx dX6_copy_81 rfl ?_
        rw [pk_mul, nI_add, nI_add]
        refine hg_lald2 (pc' := 83) cx (by decide) (hg_ceL59 E) (by first | assumption | omega | decide) (by decide) dX6_copy_82 rfl ?_
        refine hg_last2 (pc' := 84) cx (by decide) (hg_ceL59 E) (by first | assumption | omega | decide) (by decide) dX6_copy_83 rfl ?_
        refine hg_iinc7p (pc' := 87) cx rfl dX6_copy_84 rfl ?_
        refine hg_goto cx 28 dX6_copy_87 (by decide) ?_
        refine hg_drop8 ?_
        rw [nI_1]
        refine hg_nm (fun μ hμ => ?_)
        refine ih_28 (μ, i + 1) ?_ ?_
        · subst hμ
          try dsimp only
          obtain ⟨-, i1, i2, i3⟩ := hI
          rw [hg_sL_eq]
          refine ⟨by omega, i1, fun w hw => (hg_sM_ne _ _ hw).trans (i2 w hw), fun z => ?_⟩
          rw [hg_sM_at]
          first
            | (simp only [if_pos hyx] at i3 ⊢
               have er : τ.2 59 (40 * a + x + i) = σ.2 59 (40 * a + x + i) := by rw [i3, if_neg (by omega)]
               by_cases q : z = 40 * b + y + i
               · rw [q, va_upE, er, if_pos (by omega), show 40 * b + y + i - (40 * b + y) = i by omega]
               · rw [va_upN _ _ q, i3]
                 by_cases w : 40 * b + y + 0 ≤ z ∧ z < 40 * b + y + 0 + i
                 · rw [if_pos w, if_pos (by omega)]
                 · rw [if_neg w, if_neg (by omega)])
            | (simp only [if_neg hyx] at i3 ⊢
               have er : τ.2 59 (40 * a + x + (k - 1 - i)) = σ.2 59 (40 * a + x + (k - 1 - i)) := by rw [i3, if_neg (by omega)]
               by_cases q : z = 40 * b + y + (k - 1 - i)
               · rw [q, va_upE, er, if_pos (by omega), show 40 * b + y + (k - 1 - i) - (40 * b + y) = k - 1 - i by omega]
               · rw [va_upN _ _ q, i3]
                 by_cases w : 40 * b + y + (k - i) ≤ z ∧ z < 40 * b + y + (k - i) + i
                 · rw [if_pos w, if_pos (by omega)]
                 · rw [if_neg w, if_neg (by omega)])
        · show k - (i + 1) < k - i
          omega
      ·
        have hyx : ¬ y ≤ x := fun z => c_38 ((nI_leI (by omega) (by omega)).mpr z)
        refine hg_iload5 (pc' := 43) cx dX6_copy_41 rfl ?_
        refine hg_iconst (pc' := 44) cx (nI 1) dX6_copy_43 (by decide) rfl ?_
        refine hg_isub (pc' := 45) cx dX6_copy_44 rfl ?_
        rw [pk_sub (by omega)]
        refine hg_iload7 (pc' := 47) cx dX6_copy_45 rfl ?_
        refine hg_isub (pc' := 48) cx dX6_copy_47 rfl ?_
        rw [pk_sub (by omega)]
        refine hg_goto cx 53 dX6_copy_48 (by decide) ?_
        refine hg_istore8 (pc' := 55) cx rfl dX6_copy_53 rfl ?_
        refine hg_aload0 (pc' := 56) cx dX6_copy_55 rfl ?_
        refine gf_X6_34 (pc' := 59) cx dX6_copy_56 rfl ?_
        refine hg_bipush (pc' := 61) cx (nI 40) dX6_copy_59 (by decide) rfl ?_
        refine hg_iload3 (pc' := 62) cx dX6_copy_61 rfl ?_
        refine hg_imul (pc' := 63) cx dX6_copy_62 rfl ?_
        refine hg_iload4 (pc' := 65) cx dX6_copy_63 rfl ?_
        refine hg_iadd (pc' := 66) cx dX6_copy_65 rfl ?_
        refine hg_iload8 (pc' := 68) cx dX6_copy_66 rfl ?_
        refine hg_iadd (pc' := 69) cx dX6_copy_68 rfl ?_
        rw [pk_mul, nI_add, nI_add]
        refine hg_aload0 (pc' := 70) cx dX6_copy_69 rfl ?_
        refine gf_X6_34 (pc' := 73) cx dX6_copy_70 rfl ?_
        refine hg_bipush (pc' := 75) cx (nI 40) dX6_copy_73 (by decide) rfl ?_
        refine hg_iload1 (pc' := 76) cx dX6_copy_75 rfl ?_
        refine hg_imul (pc' := 77) cx dX6_copy_76 rfl ?_
        refine hg_iload2 (pc' := 78) cx dX6_copy_77 rfl ?_
        refine hg_iadd (pc' := 79) cx dX6_copy_78 rfl ?_
        refine hg_iload8 (pc' := 81) cx dX6_copy_79 rfl ?_
        refine hg_iadd (pc' := 82) cx dX6_copy_81 rfl ?_
        rw [pk_mul, nI_add, nI_add]
        refine hg_lald2 (pc' := 83) cx (by decide) (hg_ceL59 E) (by first | assumption | omega | decide) (by decide) dX6_copy_82 rfl ?_
        refine hg_last2 (pc' := 84) cx (by decide) (hg_ceL59 E) (by first | assumption | omega | decide) (by decide) dX6_copy_83 rfl ?_
        refine hg_iinc7p (pc' := 87) cx rfl dX6_copy_84 rfl ?_
        refine hg_goto cx 28 dX6_copy_87 (by decide) ?_
        refine hg_drop8 ?_
        rw [nI_1]
        refine hg_nm (fun μ hμ => ?_)
        refine ih_28 (μ, i + 1) ?_ ?_
        · subst hμ
          try dsimp only
          obtain ⟨-, i1, i2, i3⟩ := hI
          rw [hg_sL_eq]
          refine ⟨by omega, i1, fun w hw => (hg_sM_ne _ _ hw).trans (i2 w hw), fun z => ?_⟩
          rw [hg_sM_at]
          first
            | (simp only [if_pos hyx] at i3 ⊢
               have er : τ.2 59 (40 * a + x + i) = σ.2 59 (40 * a + x + i) := by rw [i3, if_neg (by omega)]
               by_cases q : z = 40 * b + y + i
               · rw [q, va_upE, er, if_pos (by omega), show 40 * b + y + i - (40 * b + y) = i by omega]
               · rw [va_upN _ _ q, i3]
                 by_cases w : 40 * b + y + 0 ≤ z ∧ z < 40 * b + y + 0 + i
                 · rw [if_pos w, if_pos (by omega)]
                 · rw [if_neg w, if_neg (by omega)])
            | (simp only [if_neg hyx] at i3 ⊢
               have er : τ.2 59 (40 * a + x + (k - 1 - i)) = σ.2 59 (40 * a + x + (k - 1 - i)) := by rw [i3, if_neg (by omega)]
               by_cases q : z = 40 * b + y + (k - 1 - i)
               · rw [q, va_upE, er, if_pos (by omega), show 40 * b + y + (k - 1 - i) - (40 * b + y) = k - 1 - i by omega]
               · rw [va_upN _ _ q, i3]
                 by_cases w : 40 * b + y + (k - i) ≤ z ∧ z < 40 * b + y + (k - i) + i
                 · rw [if_pos w, if_pos (by omega)]
                 · rw [if_neg w, if_neg (by omega)])
        · show k - (i + 1) < k - i
          omega
  ·
    obtain ⟨ff, hff, e1, e2, e3⟩ := hnc.resolve_right (fun z => c_15 z.1)
    refine hg_aload0 (pc' := 19) cx dX6_copy_18 rfl ?_
    refine hg_iload6 (pc' := 21) cx dX6_copy_19 rfl ?_
    refine cv_X6_40 (pc' := 24) cx (K_X6_finds l E _ _ ff hff e2) ⟨rfl, rfl, Nat.le_of_ble_eq_true rfl, Nat.le_of_ble_eq_true rfl⟩ (Nat.le_of_ble_eq_true rfl) dX6_copy_21 rfl (fun r_21 τ_21 h_21 => ?_)
    obtain ⟨rfl, rfl⟩ := h_21
    refine hg_iret cx dX6_copy_24 ⟨_, rfl, ?_⟩
    rw [e3]; exact hc.find hff e1
set_option maxHeartbeats 4000000 in
set_option maxRecDepth 100000 in
theorem K_X6_lays (l : Launch) (E : hg_Wd) (σ : hg_Mem) (S : sp_S) (hc : cw_M σ S) (hv : vs_S S) (sh : Int32) : hg_C l E yX6_lays cX6_lays 5 (some .int) { frames := 3, cells := 0, slots := 0, locals := 64 } [.ref (hg_ad E 50), .int sh] σ (hg_pi (fun r τ => mw_P σ (op_lays S sh) r τ)) := by
  refine hg_intro (by decide) [some (.ref (hg_ad E 50)), some (.int sh), none, none, none] rfl (Nat.le_of_ble_eq_true rfl) ?_
  intro p e s m args below meth c cx
  have cx : hg_Cx E p s m args meth c cX6_lays 5 RX6 (some .int) := cx
  obtain ⟨hn10, hn, g0, g1, g2, hag⟩ := hc.get
  refine hg_aload0 (pc' := 1) cx dX6_lays_0 rfl ?_
  refine hg_iload1 (pc' := 2) cx dX6_lays_1 rfl ?_
  refine cv_X6_207 (pc' := 5) cx (K_X6_notThere l E _ _) ⟨rfl, rfl, Nat.le_of_ble_eq_true rfl, Nat.le_of_ble_eq_true rfl⟩ (Nat.le_of_ble_eq_true rfl) dX6_lays_2 rfl (fun r_2 τ_2 h_2 => ?_)
  obtain ⟨rfl, rfl⟩ := h_2
  refine hg_istore2 (pc' := 6) cx rfl dX6_lays_5 rfl ?_
  refine hg_iload2 (pc' := 7) cx dX6_lays_6 rfl ?_
  refine hg_if_eq (pc' := 10) cx 16 dX6_lays_7 (by decide) rfl (fun c_7 => ?_) (fun c_7 => ?_)
  ·
    have nt := sp_nt0 c_7
    obtain ⟨a, -, ha3, rfl⟩ := sp_out_of 0 3 (by decide) (by decide) (by decide) (by decide) nt.1
    have hca : (nI a).toNatClampNeg = a := nI_clamp (by omega)
    rw [hca] at nt
    obtain ⟨s1a, s2a, s3a⟩ := hc.2.2.2.2.2.2 a (by omega)
    obtain ⟨lena, hlena, elena⟩ := (hv.2.2.2.2 a (by omega)).2
    have hcla : (nI lena).toNatClampNeg = lena := nI_clamp (by omega)
    refine hg_iconst (pc' := 17) cx 0 dX6_lays_16 (by decide) rfl ?_
    refine hg_istore3 (pc' := 18) cx rfl dX6_lays_17 rfl ?_
    refine hg_iconst (pc' := 19) cx (nI 0) dX6_lays_18 (by decide) rfl ?_
    refine hg_istore4 (pc' := 21) cx rfl dX6_lays_19 rfl ?_
    rw [c_7]
    refine hg_nm (fun μ hμ => ?_)
    refine hg_loop (α := hg_Mem × Int32 × Nat) (I := fun z => z.2.2 ≤ lena ∧ z.2.2 ≤ (S.1 0).2 ∧ cw_M z.1 (sp_sC S (sp_lays (S.2.2 a) (S.1 0).1 z.2.2).2 (S.1 0).2) ∧ mw_Fr σ z.1 ∧ z.2.1 = (sp_lays (S.2.2 a) (S.1 0).1 z.2.2).1) (P := fun z => hg_G E p l e { frames := 3, cells := 0, slots := 0, locals := 64 } s m args below meth c 5 (MQ below (hg_Qc E (hg_pi (fun r τ => mw_P σ (op_lays S (nI a)) r τ))) args s 0 0 (hg_AW E)) z.1 21 [some (.ref (hg_ad E 50)), some (.int (nI a)), some (.int 0), some (.int z.2.1), some (.int (nI z.2.2))] []) (fun z => lena - z.2.2) ?_ (μ, 0, 0) ?_
    rotate_left
    · subst hμ
      try dsimp only
      exact ⟨Nat.zero_le _, Nat.zero_le _, by rw [show (sp_lays (S.2.2 a) (S.1 0).1 0).2 = (S.1 0).1 from rfl, sp_sC_self]; exact hc, mw_Fr.rf _, rfl⟩
    clear hμ μ
    rintro ⟨τ, x, k⟩ hI ih_21
    try dsimp only at hI ih_21 ⊢
    have hkl := hI.1
    have hkn := hI.2.1
    obtain ⟨-, hnτ, k0, k1, k2, hagτ⟩ := hI.2.2.1.get
    have hRτ := hI.2.2.1.1
    rw [sp_sC_get] at hnτ hRτ
    dsimp only at hnτ hRτ
    obtain ⟨e1, e2, e3⟩ := hI.2.2.1.2.2.2.2.2.2 a (by omega)
    replace e2 : τ.1 58 a = S.2.1 4 a := e2
    replace e3 : ∀ k, k < 40 → τ.2 59 (40 * a + k) = S.2.2 a k := e3
    refine hg_iload4 (pc' := 23) cx dX6_lays_21 rfl ?_
    refine hg_aload0 (pc' := 24) cx dX6_lays_23 rfl ?_
    refine gf_X6_31 (pc' := 27) cx dX6_lays_24 rfl ?_
    refine hg_iload1 (pc' := 28) cx dX6_lays_27 rfl ?_
    refine hg_iald2 (pc' := 29) cx (by decide) (hg_ceI58 E) (by first | assumption | omega | decide) (by decide) dX6_lays_28 rfl ?_
    refine hg_icmp_ge (pc' := 32) cx 94 dX6_lays_29 (by decide) rfl (fun c_29 => ?_) (fun c_29 => ?_)
    ·
      have hk := hg_ge (n := lena) (j := k) (e2.trans elena) (by omega) (by omega) c_29
      refine hg_iload3 (pc' := 95) cx dX6_lays_94 rfl ?_
      refine hg_iret cx dX6_lays_95 ⟨_, rfl, ?_⟩
      simp only [op_lays, nt.1, hca, ← s1a, nt.2, elena, hcla, not_true_eq_false, if_false]
      rw [show min lena (S.1 0).2 = k by omega]
      exact ⟨hI.2.2.2.2, hI.2.2.1, hI.2.2.2.1⟩
    ·
      have hk := hg_nge (n := lena) (j := k) (e2.trans elena) (by omega) (by omega) c_29
      refine hg_iload4 (pc' := 34) cx dX6_lays_32 rfl ?_
      refine hg_aload0 (pc' := 35) cx dX6_lays_34 rfl ?_
      refine gf_X6_9 (pc' := 38) cx dX6_lays_35 rfl ?_
      refine hg_iconst (pc' := 39) cx (nI 3) dX6_lays_38 (by decide) rfl ?_
      refine hg_iald2 (pc' := 40) cx (by decide) (hg_ceI51 E) (by first | assumption | omega | decide) (by decide) dX6_lays_39 rfl ?_
      refine hg_icmp_ge (pc' := 43) cx 94 dX6_lays_40 (by decide) rfl (fun c_40 => ?_) (fun c_40 => ?_)
      ·
        have hk2 := hg_ge hnτ (by omega) (by omega) c_40
        refine hg_iload3 (pc' := 95) cx dX6_lays_94 rfl ?_
        refine hg_iret cx dX6_lays_95 ⟨_, rfl, ?_⟩
        simp only [op_lays, nt.1, hca, ← s1a, nt.2, elena, hcla, not_true_eq_false, if_false]
        rw [show min lena (S.1 0).2 = k by omega]
        exact ⟨hI.2.2.2.2, hI.2.2.1, hI.2.2.2.1⟩
      ·
        have hk2 := hg_nge hnτ (by omega) (by omega) c_40
        have ec : τ.2 59 (40 * a + k) = S.2.2 a k := e3 k (by omega)
        refine hg_aload0 (pc' := 44) cx dX6_lays_43 rfl ?_
        refine gf_X6_34 (pc' := 47) cx dX6_lays_44 rfl ?_
        refine hg_bipush (pc' := 49) cx (nI 40) dX6_lays_47 (by decide) rfl ?_
        refine hg_iload1 (pc' := 50) cx dX6_lays_49 rfl ?_
        refine hg_imul (pc' := 51) cx dX6_lays_50 rfl ?_
        refine hg_iload4 (pc' := 53) cx dX6_lays_51 rfl ?_
        refine hg_iadd (pc' := 54) cx dX6_lays_53 rfl ?_
        rw [pk_mul, nI_add]
        refine hg_lald2 (pc' := 55) cx (by decide) (hg_ceL59 E) (by first | assumption | omega | decide) (by decide) dX6_lays_54 rfl ?_
        rw [ec]
        refine hg_iconst (pc' := 56) cx 0 dX6_lays_55 (by decide) rfl ?_
        refine hg_sipush (pc' := 59) cx 255 dX6_lays_56 (by decide) rfl ?_
        refine cs_X6_44 (pc' := 62) cx (K_X6_in l E _ _ _ _) ⟨rfl, rfl, Nat.le_of_ble_eq_true rfl, Nat.le_of_ble_eq_true rfl⟩ (Nat.le_of_ble_eq_true rfl) dX6_lays_59 rfl (fun r_59 τ_59 h_59 => ?_)
        obtain ⟨rfl, rfl⟩ := h_59
        refine hg_if_eq (pc' := 65) cx 88 dX6_lays_62 (by decide) rfl (fun c_62 => ?_) (fun c_62 => ?_)
        ·
          rw [sp_inL_255] at c_62
          have d_62 := hg_b0 c_62
          refine hg_iinc4p (pc' := 91) cx rfl dX6_lays_88 rfl ?_
          refine hg_goto cx 21 dX6_lays_91 (by decide) ?_
          rw [nI_1]
          refine hg_nm (fun μ hμ => ?_)
          refine ih_21 (μ, _, k + 1) ?_ ?_
          · subst hμ
            try dsimp only
            first
              | (rw [sp_lays, if_neg d_62]
                 exact ⟨hk, hk2, hI.2.2.1, hI.2.2.2.1, hI.2.2.2.2⟩)
              | (rw [sp_lays, if_pos d_62]
                 obtain ⟨q3, q4⟩ := hI.2.2.1.setC (τ := hg_sI τ 51 (4 + 6 * k + 1) (S.2.2 a k).toInt32) _ _ rfl (fun i h1 _ _ => by rw [hg_sI_eq, hg_sH_ne _ _ h1]) (hRτ.putF hk2 (k := 1) (by decide) (S.2.2 a k).toInt32)
                 rw [sp_sC_sC] at q3
                 exact ⟨hk, hk2, q3, hI.2.2.2.1.tr q4, by rw [hI.2.2.2.2]⟩)
          · show lena - (k + 1) < lena - k
            omega
        ·
          rw [sp_inL_255] at c_62
          have d_62 := hg_b1 c_62
          refine hg_aload0 (pc' := 66) cx dX6_lays_65 rfl ?_
          refine hg_iload4 (pc' := 68) cx dX6_lays_66 rfl ?_
          refine hg_iconst (pc' := 69) cx (nI 1) dX6_lays_68 (by decide) rfl ?_
          refine hg_aload0 (pc' := 70) cx dX6_lays_69 rfl ?_
          refine gf_X6_34 (pc' := 73) cx dX6_lays_70 rfl ?_
          refine hg_bipush (pc' := 75) cx (nI 40) dX6_lays_73 (by decide) rfl ?_
          refine hg_iload1 (pc' := 76) cx dX6_lays_75 rfl ?_
          refine hg_imul (pc' := 77) cx dX6_lays_76 rfl ?_
          refine hg_iload4 (pc' := 79) cx dX6_lays_77 rfl ?_
          refine hg_iadd (pc' := 80) cx dX6_lays_79 rfl ?_
          rw [pk_mul, nI_add]
          refine hg_lald2 (pc' := 81) cx (by decide) (hg_ceL59 E) (by first | assumption | omega | decide) (by decide) dX6_lays_80 rfl ?_
          rw [ec]
          refine hg_l2i (pc' := 82) cx dX6_lays_81 rfl ?_
          refine cv_X6_74 (pc' := 85) cx (K_X6_put l E _ k (by omega) 1 (by decide) _) ⟨rfl, rfl, Nat.le_of_ble_eq_true rfl, Nat.le_of_ble_eq_true rfl⟩ (Nat.le_of_ble_eq_true rfl) dX6_lays_82 rfl (fun τ_82 h_82 => ?_)
          obtain rfl := h_82
          refine hg_iinc3p (pc' := 88) cx rfl dX6_lays_85 rfl ?_
          refine hg_iinc4p (pc' := 91) cx rfl dX6_lays_88 rfl ?_
          refine hg_goto cx 21 dX6_lays_91 (by decide) ?_
          rw [nI_1]
          refine hg_nm (fun μ hμ => ?_)
          refine ih_21 (μ, _, k + 1) ?_ ?_
          · subst hμ
            try dsimp only
            first
              | (rw [sp_lays, if_neg d_62]
                 exact ⟨hk, hk2, hI.2.2.1, hI.2.2.2.1, hI.2.2.2.2⟩)
              | (rw [sp_lays, if_pos d_62]
                 obtain ⟨q3, q4⟩ := hI.2.2.1.setC (τ := hg_sI τ 51 (4 + 6 * k + 1) (S.2.2 a k).toInt32) _ _ rfl (fun i h1 _ _ => by rw [hg_sI_eq, hg_sH_ne _ _ h1]) (hRτ.putF hk2 (k := 1) (by decide) (S.2.2 a k).toInt32)
                 rw [sp_sC_sC] at q3
                 exact ⟨hk, hk2, q3, hI.2.2.2.1.tr q4, by rw [hI.2.2.2.2]⟩)
          · show lena - (k + 1) < lena - k
            omega
  ·
    refine hg_aload0 (pc' := 11) cx dX6_lays_10 rfl ?_
    refine hg_iload2 (pc' := 12) cx dX6_lays_11 rfl ?_
    refine cv_X6_40 (pc' := 15) cx (K_X6_finds l E _ (sp_nt (sp_out sh 0 3) (σ.1 57 sh.toNatClampNeg)) (sp_ntf (sp_out sh 0 3)) (sp_ntf_lt _) (sp_ntf_ok c_7)) ⟨rfl, rfl, Nat.le_of_ble_eq_true rfl, Nat.le_of_ble_eq_true rfl⟩ (Nat.le_of_ble_eq_true rfl) dX6_lays_12 rfl (fun r_12 τ_12 h_12 => ?_)
    obtain ⟨rfl, rfl⟩ := h_12
    refine hg_iret cx dX6_lays_15 ⟨_, rfl, ?_⟩
    have hb := c_7
    rcases sp_nt_cases hb with ⟨z1, z2, z3⟩ | ⟨z1, z2, z3, z4⟩
    · rw [z2, z3]
      simp only [op_lays, z1, not_false_eq_true, if_true]
      exact hc.find (by decide) (by decide)
    · rw [z3, z4]
      obtain ⟨a, -, ha3, rfl⟩ := sp_out_of 0 3 (by decide) (by decide) (by decide) (by decide) z1
      have hca : (nI a).toNatClampNeg = a := nI_clamp (by omega)
      rw [hca] at z2
      simp only [op_lays, z1, hca, ← (hc.2.2.2.2.2.2 a (by omega)).1, z2, not_true_eq_false, if_false, if_true]
      exact hc.find (by decide) (by decide)
set_option maxHeartbeats 4000000 in
set_option maxRecDepth 100000 in
theorem K_X6_book (l : Launch) (E : hg_Wd) (σ : hg_Mem) (S : sp_S) (hc : cw_M σ S) (hv : vs_S S) (sh : Int32) (x : Int32) : hg_C l E yX6_book cX6_book 5 (some .int) { frames := 4, cells := 0, slots := 0, locals := 95 } [.ref (hg_ad E 50), .int sh, .int x] σ (hg_pi (fun r τ => mw_P σ (op_book S sh x) r τ)) := by
  refine hg_intro (by decide) [some (.ref (hg_ad E 50)), some (.int sh), some (.int x), none, none] rfl (Nat.le_of_ble_eq_true rfl) ?_
  intro p e s m args below meth c cx
  have cx : hg_Cx E p s m args meth c cX6_book 5 RX6 (some .int) := cx
  obtain ⟨hn10, hn, g0, g1, g2, hag⟩ := hc.get
  refine hg_aload0 (pc' := 1) cx dX6_book_0 rfl ?_
  refine hg_iload1 (pc' := 2) cx dX6_book_1 rfl ?_
  refine hg_iload2 (pc' := 3) cx dX6_book_2 rfl ?_
  refine cv_X6_218 (pc' := 6) cx (K_X6_notAsked l E _ (S.1 0).2 hn10 hn _ _) ⟨rfl, rfl, Nat.le_of_ble_eq_true rfl, Nat.le_of_ble_eq_true rfl⟩ (Nat.le_of_ble_eq_true rfl) dX6_book_3 rfl (fun r_3 τ_3 h_3 => ?_)
  obtain ⟨hr, rfl⟩ := h_3
  replace hr : r_3 = sp_na (sp_out sh 0 3) (σ.1 57 sh.toNatClampNeg) (sp_hz x (S.1 0).2) := hr
  refine hg_istore3 (pc' := 7) cx rfl dX6_book_6 rfl ?_
  refine hg_iload3 (pc' := 8) cx dX6_book_7 rfl ?_
  refine hg_if_eq (pc' := 11) cx 17 dX6_book_8 (by decide) rfl (fun c_8 => ?_) (fun c_8 => ?_)
  ·
    have nt := sp_na_ok (hr.symm.trans c_8)
    obtain ⟨a, -, ha3, rfl⟩ := sp_out_of 0 3 (by decide) (by decide) (by decide) (by decide) nt.1
    have hca : (nI a).toNatClampNeg = a := nI_clamp (by omega)
    rw [hca] at nt
    obtain ⟨s1a, s2a, s3a⟩ := hc.2.2.2.2.2.2 a (by omega)
    obtain ⟨lena, hlena, elena⟩ := (hv.2.2.2.2 a (by omega)).2
    have hcla : (nI lena).toNatClampNeg = lena := nI_clamp (by omega)
    obtain ⟨j, hjn, rfl⟩ := sp_hz_of hn10 nt.2.2
    have hcj : (nI j).toNatClampNeg = j := nI_clamp (by omega)
    refine hg_aload0 (pc' := 18) cx dX6_book_17 rfl ?_
    refine cv_X6_120 (pc' := 21) cx (K_X6_thinks l E _ ) ⟨rfl, rfl, Nat.le_of_ble_eq_true rfl, Nat.le_of_ble_eq_true rfl⟩ (Nat.le_of_ble_eq_true rfl) dX6_book_18 rfl (fun τ_18 h_18 => ?_)
    obtain ⟨hT, hT1⟩ := h_18
    have hRt := hc.1.keep hT1
    refine hg_iconst (pc' := 22) cx (nI 0) dX6_book_21 (by decide) rfl ?_
    refine hg_istore4 (pc' := 24) cx rfl dX6_book_22 rfl ?_
    refine hg_nm (fun μ hμ => ?_)
    refine hg_loop (α := hg_Mem × Nat) (I := fun z => z.2 ≤ lena ∧ (∀ i, i ≠ 51 → i ≠ 53 → i ≠ 55 → z.1.1 i = σ.1 i) ∧ (∀ u, u < 64 → z.1.1 53 u = σ.1 51 u) ∧ sp_RepM z.1 51 (sp_go (S.1 0).1 (S.1 0).2 z.2) (S.1 0).2 ∧ (∀ i, i ≠ 59 → z.1.2 i = σ.2 i) ∧ (∀ i, i < 40 → z.1.2 59 (40 * a + i) = sp_book (S.1 0).1 (S.1 0).2 j (S.2.1 3 a) (S.2.2 a) z.2 i) ∧ ∀ t, t < 4 → t ≠ a → ∀ i, i < 40 → z.1.2 59 (40 * t + i) = σ.2 59 (40 * t + i)) (P := fun z => hg_G E p l e { frames := 4, cells := 0, slots := 0, locals := 95 } s m args below meth c 5 (MQ below (hg_Qc E (hg_pi (fun r τ => mw_P σ (op_book S (nI a) (nI j)) r τ))) args s 0 0 (hg_AW E)) z.1 24 [some (.ref (hg_ad E 50)), some (.int (nI a)), some (.int (nI j)), some (.int r_3), some (.int (nI z.2))] []) (fun z => lena - z.2) ?_ (μ, 0) ?_
    rotate_left
    · subst hμ
      try dsimp only
      refine ⟨Nat.zero_le _, hT.2.1, hT.2.2, hRt, fun i _ => by rw [hT.1], fun i hi => ?_, fun t _ _ i _ => by rw [hT.1]⟩
      rw [hT.1, s3a i hi, sp_book, if_neg (Nat.not_lt_zero _)]
    clear hμ μ
    rintro ⟨τ, k⟩ hI ih_24
    try dsimp only at hI ih_24 ⊢
    have hkl := hI.1
    have hs58 : τ.1 58 a = σ.1 58 a := by rw [hI.2.1 58 (by decide) (by decide) (by decide)]
    have hs57 : τ.1 57 a = σ.1 57 a := by rw [hI.2.1 57 (by decide) (by decide) (by decide)]
    refine hg_iload4 (pc' := 26) cx dX6_book_24 rfl ?_
    refine hg_aload0 (pc' := 27) cx dX6_book_26 rfl ?_
    refine gf_X6_31 (pc' := 30) cx dX6_book_27 rfl ?_
    refine hg_iload1 (pc' := 31) cx dX6_book_30 rfl ?_
    refine hg_iald2 (pc' := 32) cx (by decide) (hg_ceI58 E) (by first | assumption | omega | decide) (by decide) dX6_book_31 rfl ?_
    refine hg_icmp_ge (pc' := 35) cx 76 dX6_book_32 (by decide) rfl (fun c_32 => ?_) (fun c_32 => ?_)
    ·
      have hk := hg_ge (n := lena) (j := k) (hs58.trans (s2a.trans elena)) (by omega) (by omega) c_32
      refine hg_aload0 (pc' := 77) cx dX6_book_76 rfl ?_
      refine cv_X6_123 (pc' := 80) cx (K_X6_putsBack l E _ ) ⟨rfl, rfl, Nat.le_of_ble_eq_true rfl, Nat.le_of_ble_eq_true rfl⟩ (Nat.le_of_ble_eq_true rfl) dX6_book_77 rfl (fun τ_77 h_77 => ?_)
      skip
      refine hg_aload0 (pc' := 81) cx dX6_book_80 rfl ?_
      refine gf_X6_31 (pc' := 84) cx dX6_book_81 rfl ?_
      refine hg_iload1 (pc' := 85) cx dX6_book_84 rfl ?_
      refine hg_iald2 (pc' := 86) cx (by decide) (hg_ceI58 E) (by first | assumption | omega | decide) (by decide) dX6_book_85 rfl ?_
      refine hg_iret cx dX6_book_86 ⟨_, rfl, ?_⟩
      obtain rfl : k = lena := by omega
      simp only [op_book, nt.1, hca, hcj, ← s1a, nt.2.1, nt.2.2, elena, hcla, not_true_eq_false, if_false]
      rw [s1a]
      refine ⟨by rw [h_77.1.2 58 (by decide), hs58, s2a, elena], hc.cells (by omega) _ (fun i h1 h2 h3 => by rw [h_77.1.2 i h1]; exact hI.2.1 i h1 h2 h3) (fun z hz => by rw [h_77.2 z hz]; exact hI.2.2.1 z hz) (fun i hi => by rw [h_77.1.1]; exact hI.2.2.2.2.1 i hi) (fun i hi => by rw [h_77.1.1]; exact hI.2.2.2.2.2.1 i hi) (fun t ht hta i hi => by rw [h_77.1.1]; exact hI.2.2.2.2.2.2 t ht hta i hi)⟩
    ·
      have hk := hg_nge (n := lena) (j := k) (hs58.trans (s2a.trans elena)) (by omega) (by omega) c_32
      refine hg_aload0 (pc' := 36) cx dX6_book_35 rfl ?_
      refine gf_X6_34 (pc' := 39) cx dX6_book_36 rfl ?_
      refine hg_bipush (pc' := 41) cx (nI 40) dX6_book_39 (by decide) rfl ?_
      refine hg_iload1 (pc' := 42) cx dX6_book_41 rfl ?_
      refine hg_imul (pc' := 43) cx dX6_book_42 rfl ?_
      refine hg_iload4 (pc' := 45) cx dX6_book_43 rfl ?_
      refine hg_iadd (pc' := 46) cx dX6_book_45 rfl ?_
      rw [pk_mul, nI_add]
      refine hg_aload0 (pc' := 47) cx dX6_book_46 rfl ?_
      refine gf_X6_28 (pc' := 50) cx dX6_book_47 rfl ?_
      refine hg_iload1 (pc' := 51) cx dX6_book_50 rfl ?_
      refine hg_iald2 (pc' := 52) cx (by decide) (hg_ceI57 E) (by first | assumption | omega | decide) (by decide) dX6_book_51 rfl ?_
      refine hg_aload0 (pc' := 53) cx dX6_book_52 rfl ?_
      refine hg_iload2 (pc' := 54) cx dX6_book_53 rfl ?_
      refine hg_aload0 (pc' := 55) cx dX6_book_54 rfl ?_
      refine cv_X6_61 (pc' := 58) cx (K_X6_asked l E _ ) ⟨rfl, rfl, Nat.le_of_ble_eq_true rfl, Nat.le_of_ble_eq_true rfl⟩ (Nat.le_of_ble_eq_true rfl) dX6_book_55 rfl (fun r_55 τ_55 h_55 => ?_)
      obtain ⟨rfl, rfl⟩ := h_55
      refine cv_X6_55 (pc' := 61) cx (K_X6_saysTo l E _ j (by omega) _) ⟨rfl, rfl, Nat.le_of_ble_eq_true rfl, Nat.le_of_ble_eq_true rfl⟩ (Nat.le_of_ble_eq_true rfl) dX6_book_58 rfl (fun r_58 τ_58 h_58 => ?_)
      obtain ⟨rfl, rfl⟩ := h_58
      rw [hI.2.2.2.1.word hjn]
      refine hg_i2l (pc' := 62) cx dX6_book_61 rfl ?_
      refine cs_X6_210 (pc' := 65) cx (K_X6_cutTo l E _ _ _) ⟨rfl, rfl, Nat.le_of_ble_eq_true rfl, Nat.le_of_ble_eq_true rfl⟩ (Nat.le_of_ble_eq_true rfl) dX6_book_62 rfl (fun r_62 τ_62 h_62 => ?_)
      obtain ⟨rfl, rfl⟩ := h_62
      refine hg_last2 (pc' := 66) cx (by decide) (hg_ceL59 E) (by first | assumption | omega | decide) (by decide) dX6_book_65 rfl ?_
      refine hg_nm (fun ω hω => ?_)
      have hR9 : sp_RepM ω 51 (sp_go (S.1 0).1 (S.1 0).2 k) (S.1 0).2 := by rw [hω]; exact hI.2.2.2.1
      
      refine hg_aload0 (pc' := 67) cx dX6_book_66 rfl ?_
      refine cv_X6_107 (pc' := 70) cx (K_X6_goes l E _ (sp_go (S.1 0).1 (S.1 0).2 k) (S.1 0).2 hR9 (99999 + k) (by omega) (vs_go hv.1 k (by omega))) ⟨rfl, rfl, Nat.le_of_ble_eq_true rfl, Nat.le_of_ble_eq_true rfl⟩ (Nat.le_of_ble_eq_true rfl) dX6_book_67 rfl (fun τ_67 h_67 => ?_)
      skip
      refine hg_iinc4p (pc' := 73) cx rfl dX6_book_70 rfl ?_
      refine hg_goto cx 24 dX6_book_73 (by decide) ?_
      rw [nI_1]
      refine hg_nm (fun μ hμ => ?_)
      refine ih_24 (μ, k + 1) ?_ ?_
      · subst hμ
        try dsimp only
        subst hω
        refine ⟨hk, fun i h1 h2 h3 => (h_67.2.2 i h1 h3).trans (hI.2.1 i h1 h2 h3), fun z hz => by rw [h_67.2.2 53 (by decide) (by decide)]; exact hI.2.2.1 z hz, h_67.1, fun i hi => ?_, fun i hi => ?_, fun t ht hta i hi => ?_⟩
        · rw [h_67.2.1, hg_sL_eq, hg_sM_ne _ _ hi]; exact hI.2.2.2.2.1 i hi
        · rw [h_67.2.1, hg_sL_eq, hg_sM_at]
          by_cases q : i = k
          · rw [q, va_upE, sp_book, if_pos (Nat.lt_succ_self k), hs57, s1a]
          · rw [va_upN _ _ (by omega), hI.2.2.2.2.2.1 i hi, sp_book, sp_book]
            by_cases z : i < k
            · rw [if_pos z, if_pos (by omega)]
            · rw [if_neg z, if_neg (by omega)]
        · rw [h_67.2.1, hg_sL_eq, hg_sM_at, va_upN _ _ (by omega)]; exact hI.2.2.2.2.2.2 t ht hta i hi
      · show lena - (k + 1) < lena - k
        omega
  ·
    rw [hr] at c_8
    obtain ⟨ff, hff, e1, e2, e3⟩ := sp_na_bad c_8
    rw [← hr] at e1 e2
    refine hg_aload0 (pc' := 12) cx dX6_book_11 rfl ?_
    refine hg_iload3 (pc' := 13) cx dX6_book_12 rfl ?_
    refine cv_X6_40 (pc' := 16) cx (K_X6_finds l E _ _ ff hff e2) ⟨rfl, rfl, Nat.le_of_ble_eq_true rfl, Nat.le_of_ble_eq_true rfl⟩ (Nat.le_of_ble_eq_true rfl) dX6_book_13 rfl (fun r_13 τ_13 h_13 => ?_)
    obtain ⟨rfl, rfl⟩ := h_13
    refine hg_iret cx dX6_book_16 ⟨_, rfl, ?_⟩
    have hop : op_book S sh x = sp_bad S ff := by
      rcases e3 with ⟨z1, rfl⟩ | ⟨z1, z2, rfl⟩ | ⟨z1, z2, z3, rfl⟩
      · simp only [op_book, z1, not_false_eq_true, if_true]
      · obtain ⟨a, -, ha3, rfl⟩ := sp_out_of 0 3 (by decide) (by decide) (by decide) (by decide) z1
        have hca : (nI a).toNatClampNeg = a := nI_clamp (by omega)
        rw [hca] at z2
        simp only [op_book, z1, hca, ← (hc.2.2.2.2.2.2 a (by omega)).1, z2, not_true_eq_false, if_false, if_true]
      · obtain ⟨a, -, ha3, rfl⟩ := sp_out_of 0 3 (by decide) (by decide) (by decide) (by decide) z1
        have hca : (nI a).toNatClampNeg = a := nI_clamp (by omega)
        rw [hca] at z2
        simp only [op_book, z1, hca, ← (hc.2.2.2.2.2.2 a (by omega)).1, z2, z3, not_true_eq_false, if_false, if_true]
    rw [hop]
    exact hc.find hff e1
set_option maxHeartbeats 4000000 in
set_option maxRecDepth 100000 in
theorem K_X6_isBook (l : Launch) (E : hg_Wd) (σ : hg_Mem) (a : Nat) (ha : a < 4) (len : Nat) (hlen : len ≤ 40) (hl : σ.1 58 a = nI len) (cc : Nat → Int64) (hcc : ∀ y, y < 40 → σ.2 59 (40 * a + y) = cc y) (C : sp_C) (n : Nat) (hR : sp_RepM σ 51 C n) (hv : vs_C 99999 C n) (x : Nat) (hx : x < n) : hg_C l E yX6_isBook cX6_isBook 5 (some .boolean) { frames := 4, cells := 0, slots := 0, locals := 95 } [.ref (hg_ad E 50), .int (nI a), .int (nI x)] σ (hg_pi (fun r τ => r = (if sp_just cc C n x len 0 = true then 1 else 0) ∧ (τ.2 = σ.2 ∧ ∀ i, i ≠ 51 → i ≠ 55 → τ.1 i = σ.1 i) ∧ ∀ k, k < 64 → τ.1 51 k = σ.1 53 k)) := by
  refine hg_intro (by decide) [some (.ref (hg_ad E 50)), some (.int (nI a)), some (.int (nI x)), none, none] rfl (Nat.le_of_ble_eq_true rfl) ?_
  intro p e s m args below meth c cx
  have cx : hg_Cx E p s m args meth c cX6_isBook 5 RX6 (some .boolean) := cx
  refine hg_iconst (pc' := 1) cx 1 dX6_isBook_0 (by decide) rfl ?_
  refine hg_istore3 (pc' := 2) cx rfl dX6_isBook_1 rfl ?_
  refine hg_iconst (pc' := 3) cx (nI 0) dX6_isBook_2 (by decide) rfl ?_
  refine hg_istore4 (pc' := 5) cx rfl dX6_isBook_3 rfl ?_
  refine hg_nm (fun μ hμ => ?_)
  refine hg_loop (α := hg_Mem × Int32 × Nat) (I := fun z => z.2.2 ≤ len ∧ sp_FrM σ z.1 ∧ sp_RepM z.1 51 (sp_go C n z.2.2) n ∧ ((z.2.1 = 1 ∧ sp_just cc C n x len 0 = sp_just cc C n x (len - z.2.2) z.2.2) ∨ (z.2.1 = 0 ∧ sp_just cc C n x len 0 = false))) (P := fun z => hg_G E p l e { frames := 4, cells := 0, slots := 0, locals := 95 } s m args below meth c 5 (MQ below (hg_Qc E (hg_pi (fun r τ => r = (if sp_just cc C n x len 0 = true then 1 else 0) ∧ (τ.2 = σ.2 ∧ ∀ i, i ≠ 51 → i ≠ 55 → τ.1 i = σ.1 i) ∧ ∀ k, k < 64 → τ.1 51 k = σ.1 53 k))) args s 0 0 (hg_AW E)) z.1 5 [some (.ref (hg_ad E 50)), some (.int (nI a)), some (.int (nI x)), some (.int z.2.1), some (.int (nI z.2.2))] []) (fun z => len - z.2.2) ?_ (μ, 1, 0) ?_
  rotate_left
  · subst hμ
    try dsimp only
    exact ⟨Nat.zero_le _, sp_FrM.rf _, hR, Or.inl ⟨rfl, rfl⟩⟩
  clear hμ μ
  rintro ⟨τ, v, k⟩ hI ih_5
  try dsimp only at hI ih_5 ⊢
  have hkl := hI.1
  have hs58 : τ.1 58 a = σ.1 58 a := by rw [hI.2.1.2 58 (by decide) (by decide)]
  refine hg_iload4 (pc' := 7) cx dX6_isBook_5 rfl ?_
  refine hg_aload0 (pc' := 8) cx dX6_isBook_7 rfl ?_
  refine gf_X6_31 (pc' := 11) cx dX6_isBook_8 rfl ?_
  refine hg_iload1 (pc' := 12) cx dX6_isBook_11 rfl ?_
  refine hg_iald2 (pc' := 13) cx (by decide) (hg_ceI58 E) (by first | assumption | omega | decide) (by decide) dX6_isBook_12 rfl ?_
  refine hg_icmp_ge (pc' := 16) cx 62 dX6_isBook_13 (by decide) rfl (fun c_13 => ?_) (fun c_13 => ?_)
  ·
    have hk := hg_ge (n := len) (j := k) (hs58.trans hl) (by omega) (by omega) c_13
    refine hg_aload0 (pc' := 63) cx dX6_isBook_62 rfl ?_
    refine cv_X6_123 (pc' := 66) cx (K_X6_putsBack l E _ ) ⟨rfl, rfl, Nat.le_of_ble_eq_true rfl, Nat.le_of_ble_eq_true rfl⟩ (Nat.le_of_ble_eq_true rfl) dX6_isBook_63 rfl (fun τ_63 h_63 => ?_)
    skip
    refine hg_iload3 (pc' := 67) cx dX6_isBook_66 rfl ?_
    refine hg_zret cx (hg_zor (hI.2.2.2.elim (fun z => Or.inr z.1) (fun z => Or.inl z.1))) dX6_isBook_67 ⟨_, rfl, ?_⟩
    refine ⟨?_, ⟨h_63.1.1.trans hI.2.1.1, fun i h1 h2 => (h_63.1.2 i h1).trans (hI.2.1.2 i h1 h2)⟩, fun z hz => by rw [h_63.2 z hz, hI.2.1.2 53 (by decide) (by decide)]⟩
    rcases hI.2.2.2 with ⟨e1, e2⟩ | ⟨e1, e2⟩
    · rw [e1, e2, show len - k = 0 by omega]; rfl
    · rw [e1, e2]; rfl
  ·
    have hk := hg_nge (n := len) (j := k) (hs58.trans hl) (by omega) (by omega) c_13
    refine hg_iload3 (pc' := 17) cx dX6_isBook_16 rfl ?_
    refine hg_if_eq (pc' := 20) cx 62 dX6_isBook_17 (by decide) rfl (fun c_17 => ?_) (fun c_17 => ?_)
    ·
      refine hg_aload0 (pc' := 63) cx dX6_isBook_62 rfl ?_
      refine cv_X6_123 (pc' := 66) cx (K_X6_putsBack l E _ ) ⟨rfl, rfl, Nat.le_of_ble_eq_true rfl, Nat.le_of_ble_eq_true rfl⟩ (Nat.le_of_ble_eq_true rfl) dX6_isBook_63 rfl (fun τ_63 h_63 => ?_)
      skip
      refine hg_iload3 (pc' := 67) cx dX6_isBook_66 rfl ?_
      refine hg_zret cx (hg_zor (hI.2.2.2.elim (fun z => Or.inr z.1) (fun z => Or.inl z.1))) dX6_isBook_67 ⟨_, rfl, ?_⟩
      refine ⟨?_, ⟨h_63.1.1.trans hI.2.1.1, fun i h1 h2 => (h_63.1.2 i h1).trans (hI.2.1.2 i h1 h2)⟩, fun z hz => by rw [h_63.2 z hz, hI.2.1.2 53 (by decide) (by decide)]⟩
      rcases hI.2.2.2 with ⟨e1, e2⟩ | ⟨e1, e2⟩
      · rw [e1] at c_17; exact absurd c_17 (by decide)
      · rw [e1, e2]; rfl
    ·
      refine hg_aload0 (pc' := 21) cx dX6_isBook_20 rfl ?_
      refine gf_X6_34 (pc' := 24) cx dX6_isBook_21 rfl ?_
      refine hg_bipush (pc' := 26) cx (nI 40) dX6_isBook_24 (by decide) rfl ?_
      refine hg_iload1 (pc' := 27) cx dX6_isBook_26 rfl ?_
      refine hg_imul (pc' := 28) cx dX6_isBook_27 rfl ?_
      refine hg_iload4 (pc' := 30) cx dX6_isBook_28 rfl ?_
      refine hg_iadd (pc' := 31) cx dX6_isBook_30 rfl ?_
      rw [pk_mul, nI_add]
      refine hg_lald2 (pc' := 32) cx (by decide) (hg_ceL59 E) (by first | assumption | omega | decide) (by decide) dX6_isBook_31 rfl ?_
      refine hg_aload0 (pc' := 33) cx dX6_isBook_32 rfl ?_
      refine hg_iload2 (pc' := 34) cx dX6_isBook_33 rfl ?_
      refine hg_aload0 (pc' := 35) cx dX6_isBook_34 rfl ?_
      refine cv_X6_61 (pc' := 38) cx (K_X6_asked l E _ ) ⟨rfl, rfl, Nat.le_of_ble_eq_true rfl, Nat.le_of_ble_eq_true rfl⟩ (Nat.le_of_ble_eq_true rfl) dX6_isBook_35 rfl (fun r_35 τ_35 h_35 => ?_)
      obtain ⟨rfl, rfl⟩ := h_35
      refine cv_X6_55 (pc' := 41) cx (K_X6_saysTo l E _ x (by have := hR.1; omega) _) ⟨rfl, rfl, Nat.le_of_ble_eq_true rfl, Nat.le_of_ble_eq_true rfl⟩ (Nat.le_of_ble_eq_true rfl) dX6_isBook_38 rfl (fun r_38 τ_38 h_38 => ?_)
      obtain ⟨rfl, rfl⟩ := h_38
      rw [hI.2.2.1.word hx]
      refine hg_i2l (pc' := 42) cx dX6_isBook_41 rfl ?_
      refine hg_lcmp (pc' := 43) cx dX6_isBook_42 rfl ?_
      refine hg_if_ne (pc' := 46) cx 50 dX6_isBook_43 (by decide) rfl (fun c_43 => ?_) (fun c_43 => ?_)
      ·
        refine hg_iconst (pc' := 51) cx 0 dX6_isBook_50 (by decide) rfl ?_
        refine hg_istore3 (pc' := 52) cx rfl dX6_isBook_51 rfl ?_
        refine hg_aload0 (pc' := 53) cx dX6_isBook_52 rfl ?_
        refine cv_X6_107 (pc' := 56) cx (K_X6_goes l E _ (sp_go C n k) n hI.2.2.1 (99999 + k) (by omega) (vs_go hv k (by omega))) ⟨rfl, rfl, Nat.le_of_ble_eq_true rfl, Nat.le_of_ble_eq_true rfl⟩ (Nat.le_of_ble_eq_true rfl) dX6_isBook_53 rfl (fun τ_53 h_53 => ?_)
        skip
        refine hg_iinc4p (pc' := 59) cx rfl dX6_isBook_56 rfl ?_
        refine hg_goto cx 5 dX6_isBook_59 (by decide) ?_
        rw [nI_1]
        refine hg_nm (fun μ hμ => ?_)
        refine ih_5 (μ, _, k + 1) ?_ ?_
        · subst hμ
          try dsimp only
          have ev := (hI.2.2.2.resolve_right (fun z => c_17 z.1)).2
          refine ⟨hk, hI.2.1.tr h_53.2, h_53.1, ?_⟩
          first
            | (have q := (lg_cmp_eq _ _).mp c_43
               rw [hI.2.1.1, hcc k (by omega)] at q
               exact Or.inl ⟨rfl, by rw [ev, show len - k = (len - (k + 1)) + 1 by omega, sp_just, if_pos q.symm]⟩)
            | (have q : ¬ _ := fun z => c_43 ((lg_cmp_eq _ _).mpr z)
               rw [hI.2.1.1, hcc k (by omega)] at q
               exact Or.inr ⟨rfl, by rw [ev, show len - k = (len - (k + 1)) + 1 by omega, sp_just, if_neg (fun z => q z.symm)]⟩)
        · show len - (k + 1) < len - k
          omega
      ·
        refine hg_iconst (pc' := 47) cx 1 dX6_isBook_46 (by decide) rfl ?_
        refine hg_goto cx 51 dX6_isBook_47 (by decide) ?_
        refine hg_istore3 (pc' := 52) cx rfl dX6_isBook_51 rfl ?_
        refine hg_aload0 (pc' := 53) cx dX6_isBook_52 rfl ?_
        refine cv_X6_107 (pc' := 56) cx (K_X6_goes l E _ (sp_go C n k) n hI.2.2.1 (99999 + k) (by omega) (vs_go hv k (by omega))) ⟨rfl, rfl, Nat.le_of_ble_eq_true rfl, Nat.le_of_ble_eq_true rfl⟩ (Nat.le_of_ble_eq_true rfl) dX6_isBook_53 rfl (fun τ_53 h_53 => ?_)
        skip
        refine hg_iinc4p (pc' := 59) cx rfl dX6_isBook_56 rfl ?_
        refine hg_goto cx 5 dX6_isBook_59 (by decide) ?_
        rw [nI_1]
        refine hg_nm (fun μ hμ => ?_)
        refine ih_5 (μ, _, k + 1) ?_ ?_
        · subst hμ
          try dsimp only
          have ev := (hI.2.2.2.resolve_right (fun z => c_17 z.1)).2
          refine ⟨hk, hI.2.1.tr h_53.2, h_53.1, ?_⟩
          first
            | (have q := (lg_cmp_eq _ _).mp c_43
               rw [hI.2.1.1, hcc k (by omega)] at q
               exact Or.inl ⟨rfl, by rw [ev, show len - k = (len - (k + 1)) + 1 by omega, sp_just, if_pos q.symm]⟩)
            | (have q : ¬ _ := fun z => c_43 ((lg_cmp_eq _ _).mpr z)
               rw [hI.2.1.1, hcc k (by omega)] at q
               exact Or.inr ⟨rfl, by rw [ev, show len - k = (len - (k + 1)) + 1 by omega, sp_just, if_neg (fun z => q z.symm)]⟩)
        · show len - (k + 1) < len - k
          omega
set_option maxHeartbeats 4000000 in
set_option maxRecDepth 100000 in
theorem K_X6_read (l : Launch) (E : hg_Wd) (σ : hg_Mem) (S : sp_S) (hc : cw_M σ S) (hv : vs_S S) (sh : Int32) (x : Int32) : hg_C l E yX6_read cX6_read 6 (some .int) { frames := 5, cells := 0, slots := 0, locals := 119 } [.ref (hg_ad E 50), .int sh, .int x] σ (hg_pi (fun r τ => mw_P σ (op_read S sh x) r τ)) := by
  refine hg_intro (by decide) [some (.ref (hg_ad E 50)), some (.int sh), some (.int x), none, none, none] rfl (Nat.le_of_ble_eq_true rfl) ?_
  intro p e s m args below meth c cx
  have cx : hg_Cx E p s m args meth c cX6_read 6 RX6 (some .int) := cx
  obtain ⟨hn10, hn, g0, g1, g2, hag⟩ := hc.get
  refine hg_aload0 (pc' := 1) cx dX6_read_0 rfl ?_
  refine hg_iload1 (pc' := 2) cx dX6_read_1 rfl ?_
  refine hg_iload2 (pc' := 3) cx dX6_read_2 rfl ?_
  refine cv_X6_218 (pc' := 6) cx (K_X6_notAsked l E _ (S.1 0).2 hn10 hn _ _) ⟨rfl, rfl, Nat.le_of_ble_eq_true rfl, Nat.le_of_ble_eq_true rfl⟩ (Nat.le_of_ble_eq_true rfl) dX6_read_3 rfl (fun r_3 τ_3 h_3 => ?_)
  obtain ⟨hr, rfl⟩ := h_3
  replace hr : r_3 = sp_na (sp_out sh 0 3) (σ.1 57 sh.toNatClampNeg) (sp_hz x (S.1 0).2) := hr
  refine hg_istore3 (pc' := 7) cx rfl dX6_read_6 rfl ?_
  refine hg_iload3 (pc' := 8) cx dX6_read_7 rfl ?_
  refine hg_if_eq (pc' := 11) cx 17 dX6_read_8 (by decide) rfl (fun c_8 => ?_) (fun c_8 => ?_)
  ·
    have nt := sp_na_ok (hr.symm.trans c_8)
    obtain ⟨a, -, ha3, rfl⟩ := sp_out_of 0 3 (by decide) (by decide) (by decide) (by decide) nt.1
    have hca : (nI a).toNatClampNeg = a := nI_clamp (by omega)
    rw [hca] at nt
    obtain ⟨s1a, s2a, s3a⟩ := hc.2.2.2.2.2.2 a (by omega)
    obtain ⟨lena, hlena, elena⟩ := (hv.2.2.2.2 a (by omega)).2
    have hcla : (nI lena).toNatClampNeg = lena := nI_clamp (by omega)
    obtain ⟨j, hjn, rfl⟩ := sp_hz_of hn10 nt.2.2
    have hcj : (nI j).toNatClampNeg = j := nI_clamp (by omega)
    refine hg_aload0 (pc' := 18) cx dX6_read_17 rfl ?_
    refine cv_X6_120 (pc' := 21) cx (K_X6_thinks l E _ ) ⟨rfl, rfl, Nat.le_of_ble_eq_true rfl, Nat.le_of_ble_eq_true rfl⟩ (Nat.le_of_ble_eq_true rfl) dX6_read_18 rfl (fun τ_18 h_18 => ?_)
    obtain ⟨hT, hT1⟩ := h_18
    have hRt := hc.1.keep hT1
    refine hg_iconst (pc' := 22) cx 0 dX6_read_21 (by decide) rfl ?_
    refine hg_istore4 (pc' := 24) cx rfl dX6_read_22 rfl ?_
    refine hg_iconst (pc' := 25) cx (nI 0) dX6_read_24 (by decide) rfl ?_
    refine hg_istore5 (pc' := 27) cx rfl dX6_read_25 rfl ?_
    refine hg_nm (fun μ hμ => ?_)
    refine hg_loop (α := hg_Mem × Int32 × Nat) (I := fun z => z.2.2 ≤ 1536 ∧ sp_Th σ z.1 ∧ (∀ u, u < 64 → z.1.1 51 u = σ.1 51 u) ∧ z.2.1 = sp_cnt (sp_pair (S.2.2 a) (S.1 0).1 (S.1 0).2 j lena) z.2.2) (P := fun z => hg_G E p l e { frames := 5, cells := 0, slots := 0, locals := 119 } s m args below meth c 6 (MQ below (hg_Qc E (hg_pi (fun r τ => mw_P σ (op_read S (nI a) (nI j)) r τ))) args s 0 0 (hg_AW E)) z.1 27 [some (.ref (hg_ad E 50)), some (.int (nI a)), some (.int (nI j)), some (.int r_3), some (.int z.2.1), some (.int (nI z.2.2))] []) (fun z => 1536 - z.2.2) ?_ (μ, 0, 0) ?_
    rotate_left
    · subst hμ
      try dsimp only
      exact ⟨Nat.zero_le _, hT, hT1, rfl⟩
    clear hμ μ
    rintro ⟨τ, y, k⟩ hI ih_27
    try dsimp only at hI ih_27 ⊢
    have hk6 := hI.1
    have hRτ := hc.1.keep hI.2.2.1
    refine hg_iload5 (pc' := 29) cx dX6_read_27 rfl ?_
    refine hg_sipush (pc' := 32) cx (nI 1536) dX6_read_29 (by decide) rfl ?_
    refine hg_icmp_ge (pc' := 35) cx 84 dX6_read_32 (by decide) rfl (fun c_32 => ?_) (fun c_32 => ?_)
    ·
      have hk := hg_ge (n := 1536) (j := k) rfl (by omega) (by omega) c_32
      refine hg_iload4 (pc' := 86) cx dX6_read_84 rfl ?_
      refine hg_iret cx dX6_read_86 ⟨_, rfl, ?_⟩
      obtain rfl : k = 1536 := by omega
      obtain ⟨q1, q2⟩ := hc.th hI.2.1 hI.2.2.1
      simp only [op_read, nt.1, hca, hcj, ← s1a, nt.2.1, nt.2.2, elena, hcla, not_true_eq_false, if_false]
      exact ⟨hI.2.2.2, q1, q2⟩
    ·
      have hk := hg_nge (n := 1536) (j := k) rfl (by omega) (by omega) c_32
      refine hg_aload0 (pc' := 36) cx dX6_read_35 rfl ?_
      refine hg_iload2 (pc' := 37) cx dX6_read_36 rfl ?_
      refine hg_iconst (pc' := 38) cx (nI 0) dX6_read_37 (by decide) rfl ?_
      refine hg_iload5 (pc' := 40) cx dX6_read_38 rfl ?_
      refine hg_sipush (pc' := 43) cx (nI 256) dX6_read_40 (by decide) rfl ?_
      refine hg_idiv (pc' := 44) cx (by decide) dX6_read_43 rfl ?_
      rw [pk_div (by omega) (by decide) (by decide)]
      refine cv_X6_74 (pc' := 47) cx (K_X6_put l E _ j (by omega) 0 (by decide) _) ⟨rfl, rfl, Nat.le_of_ble_eq_true rfl, Nat.le_of_ble_eq_true rfl⟩ (Nat.le_of_ble_eq_true rfl) dX6_read_44 rfl (fun τ_44 h_44 => ?_)
      skip
      refine hg_aload0 (pc' := 48) cx dX6_read_47 rfl ?_
      refine hg_iload2 (pc' := 49) cx dX6_read_48 rfl ?_
      refine hg_iconst (pc' := 50) cx (nI 1) dX6_read_49 (by decide) rfl ?_
      refine hg_iload5 (pc' := 52) cx dX6_read_50 rfl ?_
      refine hg_sipush (pc' := 55) cx (nI 256) dX6_read_52 (by decide) rfl ?_
      refine hg_irem (pc' := 56) cx (by decide) dX6_read_55 rfl ?_
      rw [pk_rem (by omega) (by decide) (by decide)]
      refine cv_X6_74 (pc' := 59) cx (K_X6_put l E _ j (by omega) 1 (by decide) _) ⟨rfl, rfl, Nat.le_of_ble_eq_true rfl, Nat.le_of_ble_eq_true rfl⟩ (Nat.le_of_ble_eq_true rfl) dX6_read_56 rfl (fun τ_56 h_56 => ?_)
      have hR9 : sp_RepM τ_56 51 (sp_hatF (sp_hatF (S.1 0).1 j 0 (nI (k / 256))) j 1 (nI (k % 256))) (S.1 0).2 := by
        rw [← h_56, ← h_44]
        exact (hRτ.putF hjn (k := 0) (by decide) (nI (k / 256))).putF hjn (k := 1) (by decide) (nI (k % 256))
      have hv9 : vs_C 99999 (sp_hatF (sp_hatF (S.1 0).1 j 0 (nI (k / 256))) j 1 (nI (k % 256))) (S.1 0).2 := by
        have w1 := vs_hatF hv.1 hjn (k := 0) (by decide) (vs_upKind (hv.1.2.2.2.2.2 j hjn) (k := k / 256) (by omega))
        exact vs_hatF w1 hjn (k := 1) (by decide) (vs_upView (w1.2.2.2.2.2 j hjn) (k := k % 256) (by omega))
      have hT9 : sp_Th σ τ_56 := by
        rw [← h_56, ← h_44]
        exact (hI.2.1.put _ _).put _ _
      have hl9 : τ_56.1 58 a = nI lena := by rw [hT9.2.1 58 (by decide) (by decide) (by decide), s2a, elena]
      have hc9 : ∀ y, y < 40 → τ_56.2 59 (40 * a + y) = S.2.2 a y := fun y hy => by rw [hT9.1]; exact s3a y hy
      refine hg_iload4 (pc' := 61) cx dX6_read_59 rfl ?_
      refine hg_aload0 (pc' := 62) cx dX6_read_61 rfl ?_
      refine hg_iload1 (pc' := 63) cx dX6_read_62 rfl ?_
      refine hg_iload2 (pc' := 64) cx dX6_read_63 rfl ?_
      refine cv_X6_221 (pc' := 67) cx (K_X6_isBook l E _ a (by omega) lena hlena hl9 (S.2.2 a) hc9 _ (S.1 0).2 hR9 hv9 j hjn) ⟨rfl, rfl, Nat.le_of_ble_eq_true rfl, Nat.le_of_ble_eq_true rfl⟩ (Nat.le_of_ble_eq_true rfl) dX6_read_64 rfl (fun r_64 τ_64 h_64 => ?_)
      obtain ⟨rfl, hb1, hb2⟩ := h_64
      obtain ⟨hT7, hT8⟩ := hT9.back2 hb1 hb2
      refine hg_if_eq (pc' := 70) cx 74 dX6_read_67 (by decide) rfl (fun c_67 => ?_) (fun c_67 => ?_)
      ·
        refine hg_iconst (pc' := 75) cx 0 dX6_read_74 (by decide) rfl ?_
        refine hg_iadd (pc' := 76) cx dX6_read_75 rfl ?_
        refine hg_istore4 (pc' := 78) cx rfl dX6_read_76 rfl ?_
        refine hg_iinc5p (pc' := 81) cx rfl dX6_read_78 rfl ?_
        refine hg_goto cx 27 dX6_read_81 (by decide) ?_
        rw [nI_1]
        refine hg_nm (fun μ hμ => ?_)
        refine ih_27 (μ, _, k + 1) ?_ ?_
        · subst hμ
          try dsimp only
          refine ⟨by omega, hT7, hT8, ?_⟩
          rw [sp_cnt]
          first
            | (rw [if_neg (show ¬ sp_pair _ _ _ _ _ _ = true from hg_b0 c_67), hI.2.2.2]; exact Int32.add_zero _)
            | (rw [if_pos (show sp_pair _ _ _ _ _ _ = true from hg_b1 c_67), hI.2.2.2])
        · show 1536 - (k + 1) < 1536 - k
          omega
      ·
        refine hg_iconst (pc' := 71) cx 1 dX6_read_70 (by decide) rfl ?_
        refine hg_goto cx 75 dX6_read_71 (by decide) ?_
        refine hg_iadd (pc' := 76) cx dX6_read_75 rfl ?_
        refine hg_istore4 (pc' := 78) cx rfl dX6_read_76 rfl ?_
        refine hg_iinc5p (pc' := 81) cx rfl dX6_read_78 rfl ?_
        refine hg_goto cx 27 dX6_read_81 (by decide) ?_
        rw [nI_1]
        refine hg_nm (fun μ hμ => ?_)
        refine ih_27 (μ, _, k + 1) ?_ ?_
        · subst hμ
          try dsimp only
          refine ⟨by omega, hT7, hT8, ?_⟩
          rw [sp_cnt]
          first
            | (rw [if_neg (show ¬ sp_pair _ _ _ _ _ _ = true from hg_b0 c_67), hI.2.2.2]; exact Int32.add_zero _)
            | (rw [if_pos (show sp_pair _ _ _ _ _ _ = true from hg_b1 c_67), hI.2.2.2])
        · show 1536 - (k + 1) < 1536 - k
          omega
  ·
    rw [hr] at c_8
    obtain ⟨ff, hff, e1, e2, e3⟩ := sp_na_bad c_8
    rw [← hr] at e1 e2
    refine hg_aload0 (pc' := 12) cx dX6_read_11 rfl ?_
    refine hg_iload3 (pc' := 13) cx dX6_read_12 rfl ?_
    refine cv_X6_40 (pc' := 16) cx (K_X6_finds l E _ _ ff hff e2) ⟨rfl, rfl, Nat.le_of_ble_eq_true rfl, Nat.le_of_ble_eq_true rfl⟩ (Nat.le_of_ble_eq_true rfl) dX6_read_13 rfl (fun r_13 τ_13 h_13 => ?_)
    obtain ⟨rfl, rfl⟩ := h_13
    refine hg_iret cx dX6_read_16 ⟨_, rfl, ?_⟩
    have hop : op_read S sh x = sp_bad S ff := by
      rcases e3 with ⟨z1, rfl⟩ | ⟨z1, z2, rfl⟩ | ⟨z1, z2, z3, rfl⟩
      · simp only [op_read, z1, not_false_eq_true, if_true]
      · obtain ⟨a, -, ha3, rfl⟩ := sp_out_of 0 3 (by decide) (by decide) (by decide) (by decide) z1
        have hca : (nI a).toNatClampNeg = a := nI_clamp (by omega)
        rw [hca] at z2
        simp only [op_read, z1, hca, ← (hc.2.2.2.2.2.2 a (by omega)).1, z2, not_true_eq_false, if_false, if_true]
      · obtain ⟨a, -, ha3, rfl⟩ := sp_out_of 0 3 (by decide) (by decide) (by decide) (by decide) z1
        have hca : (nI a).toNatClampNeg = a := nI_clamp (by omega)
        rw [hca] at z2
        simp only [op_read, z1, hca, ← (hc.2.2.2.2.2.2 a (by omega)).1, z2, z3, not_true_eq_false, if_false, if_true]
    rw [hop]
    exact hc.find hff e1
