theorem sp_said01 (h : Nat → Int32) (q held : Int32) : sp_said h q held = -1 ∨ sp_said h q held = 0 ∨ sp_said h q held = 1 := by
  unfold sp_said
  split
  · exact Or.inl rfl
  · exact sp_says01 h q held
theorem vs_H.ag {f g : Nat → Int32} (v : vs_H g) (h : sp_Ag f g) : vs_H f := by
  obtain ⟨h0, h1, h2, h3, h4, h5⟩ := h.all
  unfold vs_H
  rw [h0, h1, h2, h3, h4, h5]
  exact v
set_option maxHeartbeats 4000000 in
set_option maxRecDepth 100000 in
theorem K_X6_goes (l : Launch) (E : hg_Wd) (σ : hg_Mem) (C : sp_C) (n : Nat) (hR : sp_RepM σ 51 C n) (B : Nat) (hB : B < 200000) (hv : vs_C B C n) : hg_C l E yX6_goes cX6_goes 5 none { frames := 3, cells := 0, slots := 0, locals := 71 } [.ref (hg_ad E 50)] σ (hg_pv (fun τ => sp_RepM τ 51 (sp_go1 C n) n ∧ sp_FrM σ τ)) := by
  refine hg_intro (by decide) [some (.ref (hg_ad E 50)), none, none, none, none] rfl (Nat.le_of_ble_eq_true rfl) ?_
  intro p e s m args below meth c cx
  have cx : hg_Cx E p s m args meth c cX6_goes 5 RX6 none := cx
  have hn10 := hR.1
  have hn : σ.1 51 3 = nI n := (hR.2.2.1 3 (by decide)).trans hR.2.1
  obtain ⟨k0, b0, e0⟩ := hv.2.2.1
  obtain ⟨k1, b1, e1⟩ := hv.2.2.2.1
  obtain ⟨k2, b2, e2⟩ := hv.2.2.2.2.1
  have g0 : σ.1 51 0 = C.1 0 := hR.2.2.1 0 (by decide)
  have g1 : σ.1 51 1 = C.1 1 := hR.2.2.1 1 (by decide)
  have g2 : σ.1 51 2 = C.1 2 := hR.2.2.1 2 (by decide)
  have eqy : sp_q (σ.1 51 0) = nI (k0 % 8) := by rw [g0, e0]; exact sp_q8 (by omega)
  have hy8 : k0 % 8 < 8 := by omega
  have hq0 : sp_q (C.1 0) = nI (k0 % 8) := by rw [← g0]; exact eqy
  generalize k0 % 8 = y at eqy hy8 hq0
  have hon : ∀ h, h < n → C.2 h 5 = 0 ∨ C.2 h 5 = 1 := fun h hh => by
    obtain ⟨k, hk, e⟩ := (hv.2.2.2.2.2 h hh).2.2.2.2.2
    rcases (show k = 0 ∨ k = 1 by omega) with rfl | rfl
    · exact Or.inl e
    · exact Or.inr e
  refine hg_aload0 (pc' := 1) cx dX6_goes_0 rfl ?_
  refine cv_X6_61 (pc' := 4) cx (K_X6_asked l E _ ) ⟨rfl, rfl, Nat.le_of_ble_eq_true rfl, Nat.le_of_ble_eq_true rfl⟩ (Nat.le_of_ble_eq_true rfl) dX6_goes_1 rfl (fun r_1 τ_1 h_1 => ?_)
  obtain ⟨rfl, rfl⟩ := h_1
  rw [eqy]
  refine hg_istore1 (pc' := 5) cx rfl dX6_goes_4 rfl ?_
  refine hg_aload0 (pc' := 6) cx dX6_goes_5 rfl ?_
  refine hg_iload1 (pc' := 7) cx dX6_goes_6 rfl ?_
  refine hg_iconst (pc' := 8) cx 1 dX6_goes_7 (by decide) rfl ?_
  refine cv_X6_65 (pc' := 11) cx (K_X6_weight l E _ n hn10 hn _ _) ⟨rfl, rfl, Nat.le_of_ble_eq_true rfl, Nat.le_of_ble_eq_true rfl⟩ (Nat.le_of_ble_eq_true rfl) dX6_goes_8 rfl (fun r_8 τ_8 h_8 => ?_)
  obtain ⟨rfl, rfl⟩ := h_8
  have hY := (sp_wt_ag (f := sp_hrs (σ.1 51)) (nI y) (σ.1 51 2) (σ.1 51 0) 1 n (fun h hh => hR.ag hh)).trans (sp_wt1 _ _ _ n hon)
  generalize sp_wt (sp_hrs (σ.1 51)) (nI y) (σ.1 51 2) (σ.1 51 0) 1 n = Y at hY ⊢
  refine hg_istore2 (pc' := 12) cx rfl dX6_goes_11 rfl ?_
  refine hg_aload0 (pc' := 13) cx dX6_goes_12 rfl ?_
  refine hg_iload1 (pc' := 14) cx dX6_goes_13 rfl ?_
  refine hg_iconst (pc' := 15) cx 0 dX6_goes_14 (by decide) rfl ?_
  refine cv_X6_65 (pc' := 18) cx (K_X6_weight l E _ n hn10 hn _ _) ⟨rfl, rfl, Nat.le_of_ble_eq_true rfl, Nat.le_of_ble_eq_true rfl⟩ (Nat.le_of_ble_eq_true rfl) dX6_goes_15 rfl (fun r_15 τ_15 h_15 => ?_)
  obtain ⟨rfl, rfl⟩ := h_15
  have hZ := (sp_wt_ag (f := sp_hrs (σ.1 51)) (nI y) (σ.1 51 2) (σ.1 51 0) 0 n (fun h hh => hR.ag hh)).trans (sp_wt0 _ _ _ n hon)
  generalize sp_wt (sp_hrs (σ.1 51)) (nI y) (σ.1 51 2) (σ.1 51 0) 0 n = Z at hZ ⊢
  rw [g2, g0] at hY hZ
  refine hg_istore3 (pc' := 19) cx rfl dX6_goes_18 rfl ?_
  refine hg_iconst (pc' := 20) cx (nI 0) dX6_goes_19 (by decide) rfl ?_
  refine hg_istore4 (pc' := 22) cx rfl dX6_goes_20 rfl ?_
  refine hg_nm (fun μ hμ => ?_)
  refine hg_loop (α := hg_Mem × Nat) (I := fun z => z.2 ≤ n ∧ z.1.2 = σ.2 ∧ (∀ i, i ≠ 55 → z.1.1 i = σ.1 i) ∧ ∀ h, h < z.2 → z.1.1 55 h = sp_said (C.2 h) (nI y) (C.1 2)) (P := fun z => hg_G E p l e { frames := 3, cells := 0, slots := 0, locals := 71 } s m args below meth c 5 (MQ below (hg_Qc E (hg_pv (fun τ => sp_RepM τ 51 (sp_go1 C n) n ∧ sp_FrM σ τ))) args s 0 0 (hg_AW E)) z.1 22 [some (.ref (hg_ad E 50)), some (.int (nI y)), some (.int Y), some (.int Z), some (.int (nI z.2))] []) (fun z => n - z.2) ?_ (μ, 0) ?_
  rotate_left
  · subst hμ
    try dsimp only
    exact ⟨Nat.zero_le _, rfl, fun _ _ => rfl, fun h hh => absurd hh (Nat.not_lt_zero h)⟩
  clear hμ μ
  rintro ⟨ρ, j⟩ hI ih_22
  try dsimp only at hI ih_22 ⊢
  have hjn := hI.1
  have hnρ : ρ.1 51 3 = nI n := by rw [hI.2.2.1 51 (by decide)]; exact hn
  refine hg_iload4 (pc' := 24) cx dX6_goes_22 rfl ?_
  refine hg_aload0 (pc' := 25) cx dX6_goes_24 rfl ?_
  refine gf_X6_9 (pc' := 28) cx dX6_goes_25 rfl ?_
  refine hg_iconst (pc' := 29) cx (nI 3) dX6_goes_28 (by decide) rfl ?_
  refine hg_iald2 (pc' := 30) cx (by decide) (hg_ceI51 E) (by first | assumption | omega | decide) (by decide) dX6_goes_29 rfl ?_
  refine hg_icmp_ge (pc' := 33) cx 68 dX6_goes_30 (by decide) rfl (fun c_30 => ?_) (fun c_30 => ?_)
  ·
    have hj := hg_ge hnρ (by omega) (by omega) c_30
    refine hg_aload0 (pc' := 69) cx dX6_goes_68 rfl ?_
    refine gf_X6_9 (pc' := 72) cx dX6_goes_69 rfl ?_
    refine hg_iconst (pc' := 73) cx (nI 2) dX6_goes_72 (by decide) rfl ?_
    refine hg_iload2 (pc' := 74) cx dX6_goes_73 rfl ?_
    refine hg_iload3 (pc' := 75) cx dX6_goes_74 rfl ?_
    refine hg_icmp_ne (pc' := 78) cx 87 dX6_goes_75 (by decide) rfl (fun c_75 => ?_) (fun c_75 => ?_)
    ·
      refine hg_aload0 (pc' := 88) cx dX6_goes_87 rfl ?_
      refine gf_X6_9 (pc' := 91) cx dX6_goes_88 rfl ?_
      refine hg_iconst (pc' := 92) cx (nI 2) dX6_goes_91 (by decide) rfl ?_
      refine hg_iald2 (pc' := 93) cx (by decide) (hg_ceI51 E) (by first | assumption | omega | decide) (by decide) dX6_goes_92 rfl ?_
      refine hg_iload1 (pc' := 94) cx dX6_goes_93 rfl ?_
      refine hg_iload2 (pc' := 95) cx dX6_goes_94 rfl ?_
      refine hg_iload3 (pc' := 96) cx dX6_goes_95 rfl ?_
      refine hg_icmp_le (pc' := 99) cx 103 dX6_goes_96 (by decide) rfl (fun c_96 => ?_) (fun c_96 => ?_)
      ·
        refine hg_iconst (pc' := 104) cx 0 dX6_goes_103 (by decide) rfl ?_
        refine cs_X6_101 (pc' := 107) cx (K_X6_withBit l E _ _ _ _) ⟨rfl, rfl, Nat.le_of_ble_eq_true rfl, Nat.le_of_ble_eq_true rfl⟩ (Nat.le_of_ble_eq_true rfl) dX6_goes_104 rfl (fun r_104 τ_104 h_104 => ?_)
        obtain ⟨rfl, rfl⟩ := h_104
        refine hg_iast2 (pc' := 108) cx (by decide) (hg_ceI51 E) (by first | assumption | omega | decide) (by decide) dX6_goes_107 rfl ?_
        refine hg_nm (fun ω hω => ?_)
        have hjj : j = n := by omega
        have hω2 : ω.2 = σ.2 := by rw [hω]; exact hI.2.1
        have hωo : ∀ x, x ≠ 51 → x ≠ 55 → ω.1 x = σ.1 x := fun x h1 h2 => by rw [hω, hg_sI_eq, hg_sH_ne _ _ h1]; exact hI.2.2.1 x h2
        have hω5 : ∀ h, h < n → ω.1 55 h = sp_said (C.2 h) (nI y) (C.1 2) := fun h hh => by rw [hω, hg_sI_eq, hg_sH_ne _ _ (by decide)]; exact hI.2.2.2 h (by omega)
        have hωr : ∀ k, k ≠ 2 → ω.1 51 k = σ.1 51 k := fun k hk => by rw [hω, hg_sI_eq, hg_sH_at, va_upN _ _ hk, hI.2.2.1 51 (by decide)]
        have hωh : ω.1 51 2 = sp_heldN (C.1 2) (nI y) Y Z := by
          rw [hω, hg_sI_eq, hg_sH_at, va_upE, hI.2.2.1 51 (by decide), g2, e2, sp_heldN_eq (by omega) hy8]
          first
            | (rw [if_pos c_75]; done)
            | (rw [if_neg c_75, if_neg (Int32.not_lt.mpr c_96)]; done)
            | (rw [if_neg c_75, if_pos (Int32.not_le.mp c_96)]; done)
        clear hω
        refine hg_iconst (pc' := 109) cx (nI 0) dX6_goes_108 (by decide) rfl ?_
        refine hg_istore4 (pc' := 111) cx rfl dX6_goes_109 rfl ?_
        refine hg_nm (fun μ hμ => ?_)
        refine hg_loop (α := hg_Mem × Nat) (I := fun z => z.2 ≤ n ∧ z.1.2 = σ.2 ∧ (∀ x, x ≠ 51 → z.1.1 x = ω.1 x) ∧ (∀ k, k < 4 → z.1.1 51 k = ω.1 51 k) ∧ (∀ h, h < z.2 → sp_Ag (sp_hr (z.1.1 51) h) (sp_hatN (C.2 h) (nI y) (C.1 2) (C.1 1) (C.1 0))) ∧ ∀ h, z.2 ≤ h → h < n → sp_Ag (sp_hr (z.1.1 51) h) (C.2 h)) (P := fun z => hg_G E p l e { frames := 3, cells := 0, slots := 0, locals := 71 } s m args below meth c 5 (MQ below (hg_Qc E (hg_pv (fun τ => sp_RepM τ 51 (sp_go1 C n) n ∧ sp_FrM σ τ))) args s 0 0 (hg_AW E)) z.1 111 [some (.ref (hg_ad E 50)), some (.int (nI y)), some (.int Y), some (.int Z), some (.int (nI z.2))] []) (fun z => n - z.2) ?_ (μ, 0) ?_
        rotate_left
        · subst hμ
          try dsimp only
          exact ⟨Nat.zero_le _, hω2, fun _ _ => rfl, fun _ _ => rfl, fun h hh => absurd hh (Nat.not_lt_zero h), fun h _ hh k hk => (hωr _ (by omega)).trans (hR.ag hh k hk)⟩
        clear hμ μ
        rintro ⟨θ, i⟩ hI ih_111
        try dsimp only at hI ih_111 ⊢
        have hJ := hI
        clear hI
        rename_i hI
        have hin := hJ.1
        have hnθ : θ.1 51 3 = nI n := by rw [hJ.2.2.2.1 3 (by decide), hωr 3 (by decide)]; exact hn
        have et0 : θ.1 51 0 = C.1 0 := by rw [hJ.2.2.2.1 0 (by decide), hωr 0 (by decide)]; exact g0
        have et1 : θ.1 51 1 = nI k1 := by rw [hJ.2.2.2.1 1 (by decide), hωr 1 (by decide), g1]; exact e1
        refine hg_iload4 (pc' := 113) cx dX6_goes_111 rfl ?_
        refine hg_aload0 (pc' := 114) cx dX6_goes_113 rfl ?_
        refine gf_X6_9 (pc' := 117) cx dX6_goes_114 rfl ?_
        refine hg_iconst (pc' := 118) cx (nI 3) dX6_goes_117 (by decide) rfl ?_
        refine hg_iald2 (pc' := 119) cx (by decide) (hg_ceI51 E) (by first | assumption | omega | decide) (by decide) dX6_goes_118 rfl ?_
        refine hg_icmp_ge (pc' := 122) cx 155 dX6_goes_119 (by decide) rfl (fun c_119 => ?_) (fun c_119 => ?_)
        ·
          have hi := hg_ge hnθ (by omega) (by omega) c_119
          refine hg_aload0 (pc' := 156) cx dX6_goes_155 rfl ?_
          refine gf_X6_9 (pc' := 159) cx dX6_goes_156 rfl ?_
          refine hg_iconst (pc' := 160) cx (nI 0) dX6_goes_159 (by decide) rfl ?_
          refine hg_dup2 (pc' := 161) cx rfl rfl dX6_goes_160 rfl ?_
          refine hg_iald2 (pc' := 162) cx (by decide) (hg_ceI51 E) (by first | assumption | omega | decide) (by decide) dX6_goes_161 rfl ?_
          refine hg_iconst (pc' := 163) cx 1 dX6_goes_162 (by decide) rfl ?_
          refine hg_iadd (pc' := 164) cx dX6_goes_163 rfl ?_
          refine hg_iast2 (pc' := 165) cx (by decide) (hg_ceI51 E) (by first | assumption | omega | decide) (by decide) dX6_goes_164 rfl ?_
          refine hg_vret cx dX6_goes_165 ⟨rfl, ?_⟩
          have hii : i = n := by omega
          refine ⟨⟨hn10, ?_, fun k hk => ?_, fun h hh k hk => ?_⟩, hJ.2.1, fun x h1 h2 => ?_⟩
          · simp [sp_go1, va_up]; exact hR.2.1
          · rw [hg_sI_eq, hg_sH_at]
            simp only [sp_go1]
            by_cases q0 : k = 0
            · rw [q0, va_upE, va_upE, et0]
            · rw [va_upN _ _ q0, va_upN _ _ q0, hJ.2.2.2.1 k hk]
              by_cases q2 : k = 2
              · rw [q2, va_upE, hωh, hY, hZ, hq0]
              · rw [va_upN _ _ q2, hωr k q2]; exact hR.2.2.1 k hk
          · rw [hg_sI_eq, hg_sH_at, va_upN _ _ (by omega)]
            have := hJ.2.2.2.2.1 h (by omega) k hk
            rw [← hq0] at this
            exact this
          · rw [hg_sI_eq, hg_sH_ne _ _ h1, hJ.2.2.1 x h1]; exact hωo x h1 h2
        ·
          have hi := hg_nge hnθ (by omega) (by omega) c_119
          have agi := hJ.2.2.2.2.2 i (Nat.le_refl _) hi
          have hvi : vs_H (sp_hr (θ.1 51) i) := (hv.2.2.2.2.2 i hi).ag agi
          have esd : θ.1 55 i = sp_said (C.2 i) (nI y) (C.1 2) := by rw [hJ.2.2.1 55 (by decide)]; exact hω5 i hi
          refine hg_aload0 (pc' := 123) cx dX6_goes_122 rfl ?_
          refine gf_X6_22 (pc' := 126) cx dX6_goes_123 rfl ?_
          refine hg_iload4 (pc' := 128) cx dX6_goes_126 rfl ?_
          refine hg_iald2 (pc' := 129) cx (by decide) (hg_ceI55 E) (by first | assumption | omega | decide) (by decide) dX6_goes_128 rfl ?_
          refine hg_if_lt (pc' := 132) cx 149 dX6_goes_129 (by decide) rfl (fun c_129 => ?_) (fun c_129 => ?_)
          ·
            refine hg_iinc4p (pc' := 152) cx rfl dX6_goes_149 rfl ?_
            refine hg_goto cx 111 dX6_goes_152 (by decide) ?_
            rw [nI_1]
            refine hg_nm (fun μ hμ => ?_)
            refine ih_111 (μ, i + 1) ?_ ?_
            · subst hμ
              try dsimp only
              first
                | (refine ⟨hi, hJ.2.1, hJ.2.2.1, hJ.2.2.2.1, fun h hh => ?_, fun h h1 h2 => hJ.2.2.2.2.2 h (by omega) h2⟩
                   by_cases q : h = i
                   · rw [q]
                     have c9 := c_129
                     rw [esd] at c9
                     unfold sp_hatN
                     have : sp_said (C.2 i) (nI y) (C.1 2) = -1 := by
                       rcases sp_said01 (C.2 i) (nI y) (C.1 2) with z | z | z
                       · exact z
                       · rw [z] at c9; exact absurd c9 (by decide)
                       · rw [z] at c9; exact absurd c9 (by decide)
                     rw [if_pos this]; exact agi
                   · exact hJ.2.2.2.2.1 h (by omega))
                | (obtain ⟨⟨m1, m2⟩, m3, m4⟩ := h_146
                   refine ⟨hi, m1.trans hJ.2.1, fun x hx => (m2 x hx).trans (hJ.2.2.1 x hx), fun k hk => (m3 k (by omega)).trans (hJ.2.2.2.1 k hk), fun h hh => ?_, fun h h1 h2 k hk => ?_⟩
                   · by_cases q : h = i
                     · rw [q, m4]
                       have c9 := c_129
                       rw [esd] at c9
                       rw [esd, et0]
                       unfold sp_jud sp_hatN
                       rw [if_neg (show ¬ sp_said (C.2 i) (nI y) (C.1 2) = -1 from fun z => c9 (by rw [z]; decide)), e1]
                       by_cases d : sp_said (C.2 i) (nI y) (C.1 2) = sp_bit (nI k1) (nI y)
                       · rw [if_pos d, if_pos d]; exact agi.right
                       · rw [if_neg d, if_neg d]; exact agi.wrong _ _ _
                     · intro k hk
                       exact (m3 _ (by omega)).trans (hJ.2.2.2.2.1 h (by omega) k hk)
                   · exact (m3 _ (by omega)).trans (hJ.2.2.2.2.2 h (by omega) h2 k hk))
            · show n - (i + 1) < n - i
              omega
          ·
            refine hg_aload0 (pc' := 133) cx dX6_goes_132 rfl ?_
            refine hg_iload4 (pc' := 135) cx dX6_goes_133 rfl ?_
            refine hg_iload1 (pc' := 136) cx dX6_goes_135 rfl ?_
            refine hg_aload0 (pc' := 137) cx dX6_goes_136 rfl ?_
            refine gf_X6_9 (pc' := 140) cx dX6_goes_137 rfl ?_
            refine hg_iconst (pc' := 141) cx (nI 1) dX6_goes_140 (by decide) rfl ?_
            refine hg_iald2 (pc' := 142) cx (by decide) (hg_ceI51 E) (by first | assumption | omega | decide) (by decide) dX6_goes_141 rfl ?_
            rw [et1]
            refine hg_iload1 (pc' := 143) cx dX6_goes_142 rfl ?_
            refine hg_ishr (pc' := 144) cx dX6_goes_143 rfl ?_
            refine hg_iconst (pc' := 145) cx 1 dX6_goes_144 (by decide) rfl ?_
            refine hg_iand (pc' := 146) cx dX6_goes_145 rfl ?_
            refine cv_X6_104 (pc' := 149) cx (K_X6_isJudged l E _ i (by omega) hvi k1 (by omega) y hy8) ⟨rfl, rfl, Nat.le_of_ble_eq_true rfl, Nat.le_of_ble_eq_true rfl⟩ (Nat.le_of_ble_eq_true rfl) dX6_goes_146 rfl (fun τ_146 h_146 => ?_)
            skip
            refine hg_iinc4p (pc' := 152) cx rfl dX6_goes_149 rfl ?_
            refine hg_goto cx 111 dX6_goes_152 (by decide) ?_
            rw [nI_1]
            refine hg_nm (fun μ hμ => ?_)
            refine ih_111 (μ, i + 1) ?_ ?_
            · subst hμ
              try dsimp only
              first
                | (refine ⟨hi, hJ.2.1, hJ.2.2.1, hJ.2.2.2.1, fun h hh => ?_, fun h h1 h2 => hJ.2.2.2.2.2 h (by omega) h2⟩
                   by_cases q : h = i
                   · rw [q]
                     have c9 := c_129
                     rw [esd] at c9
                     unfold sp_hatN
                     have : sp_said (C.2 i) (nI y) (C.1 2) = -1 := by
                       rcases sp_said01 (C.2 i) (nI y) (C.1 2) with z | z | z
                       · exact z
                       · rw [z] at c9; exact absurd c9 (by decide)
                       · rw [z] at c9; exact absurd c9 (by decide)
                     rw [if_pos this]; exact agi
                   · exact hJ.2.2.2.2.1 h (by omega))
                | (obtain ⟨⟨m1, m2⟩, m3, m4⟩ := h_146
                   refine ⟨hi, m1.trans hJ.2.1, fun x hx => (m2 x hx).trans (hJ.2.2.1 x hx), fun k hk => (m3 k (by omega)).trans (hJ.2.2.2.1 k hk), fun h hh => ?_, fun h h1 h2 k hk => ?_⟩
                   · by_cases q : h = i
                     · rw [q, m4]
                       have c9 := c_129
                       rw [esd] at c9
                       rw [esd, et0]
                       unfold sp_jud sp_hatN
                       rw [if_neg (show ¬ sp_said (C.2 i) (nI y) (C.1 2) = -1 from fun z => c9 (by rw [z]; decide)), e1]
                       by_cases d : sp_said (C.2 i) (nI y) (C.1 2) = sp_bit (nI k1) (nI y)
                       · rw [if_pos d, if_pos d]; exact agi.right
                       · rw [if_neg d, if_neg d]; exact agi.wrong _ _ _
                     · intro k hk
                       exact (m3 _ (by omega)).trans (hJ.2.2.2.2.1 h (by omega) k hk)
                   · exact (m3 _ (by omega)).trans (hJ.2.2.2.2.2 h (by omega) h2 k hk))
            · show n - (i + 1) < n - i
              omega
      ·
        refine hg_iconst (pc' := 100) cx 1 dX6_goes_99 (by decide) rfl ?_
        refine hg_goto cx 104 dX6_goes_100 (by decide) ?_
        refine cs_X6_101 (pc' := 107) cx (K_X6_withBit l E _ _ _ _) ⟨rfl, rfl, Nat.le_of_ble_eq_true rfl, Nat.le_of_ble_eq_true rfl⟩ (Nat.le_of_ble_eq_true rfl) dX6_goes_104 rfl (fun r_104 τ_104 h_104 => ?_)
        obtain ⟨rfl, rfl⟩ := h_104
        refine hg_iast2 (pc' := 108) cx (by decide) (hg_ceI51 E) (by first | assumption | omega | decide) (by decide) dX6_goes_107 rfl ?_
        refine hg_nm (fun ω hω => ?_)
        have hjj : j = n := by omega
        have hω2 : ω.2 = σ.2 := by rw [hω]; exact hI.2.1
        have hωo : ∀ x, x ≠ 51 → x ≠ 55 → ω.1 x = σ.1 x := fun x h1 h2 => by rw [hω, hg_sI_eq, hg_sH_ne _ _ h1]; exact hI.2.2.1 x h2
        have hω5 : ∀ h, h < n → ω.1 55 h = sp_said (C.2 h) (nI y) (C.1 2) := fun h hh => by rw [hω, hg_sI_eq, hg_sH_ne _ _ (by decide)]; exact hI.2.2.2 h (by omega)
        have hωr : ∀ k, k ≠ 2 → ω.1 51 k = σ.1 51 k := fun k hk => by rw [hω, hg_sI_eq, hg_sH_at, va_upN _ _ hk, hI.2.2.1 51 (by decide)]
        have hωh : ω.1 51 2 = sp_heldN (C.1 2) (nI y) Y Z := by
          rw [hω, hg_sI_eq, hg_sH_at, va_upE, hI.2.2.1 51 (by decide), g2, e2, sp_heldN_eq (by omega) hy8]
          first
            | (rw [if_pos c_75]; done)
            | (rw [if_neg c_75, if_neg (Int32.not_lt.mpr c_96)]; done)
            | (rw [if_neg c_75, if_pos (Int32.not_le.mp c_96)]; done)
        clear hω
        refine hg_iconst (pc' := 109) cx (nI 0) dX6_goes_108 (by decide) rfl ?_
        refine hg_istore4 (pc' := 111) cx rfl dX6_goes_109 rfl ?_
        refine hg_nm (fun μ hμ => ?_)
        refine hg_loop (α := hg_Mem × Nat) (I := fun z => z.2 ≤ n ∧ z.1.2 = σ.2 ∧ (∀ x, x ≠ 51 → z.1.1 x = ω.1 x) ∧ (∀ k, k < 4 → z.1.1 51 k = ω.1 51 k) ∧ (∀ h, h < z.2 → sp_Ag (sp_hr (z.1.1 51) h) (sp_hatN (C.2 h) (nI y) (C.1 2) (C.1 1) (C.1 0))) ∧ ∀ h, z.2 ≤ h → h < n → sp_Ag (sp_hr (z.1.1 51) h) (C.2 h)) (P := fun z => hg_G E p l e { frames := 3, cells := 0, slots := 0, locals := 71 } s m args below meth c 5 (MQ below (hg_Qc E (hg_pv (fun τ => sp_RepM τ 51 (sp_go1 C n) n ∧ sp_FrM σ τ))) args s 0 0 (hg_AW E)) z.1 111 [some (.ref (hg_ad E 50)), some (.int (nI y)), some (.int Y), some (.int Z), some (.int (nI z.2))] []) (fun z => n - z.2) ?_ (μ, 0) ?_
        rotate_left
        · subst hμ
          try dsimp only
          exact ⟨Nat.zero_le _, hω2, fun _ _ => rfl, fun _ _ => rfl, fun h hh => absurd hh (Nat.not_lt_zero h), fun h _ hh k hk => (hωr _ (by omega)).trans (hR.ag hh k hk)⟩
        clear hμ μ
        rintro ⟨θ, i⟩ hI ih_111
        try dsimp only at hI ih_111 ⊢
        have hJ := hI
        clear hI
        rename_i hI
        have hin := hJ.1
        have hnθ : θ.1 51 3 = nI n := by rw [hJ.2.2.2.1 3 (by decide), hωr 3 (by decide)]; exact hn
        have et0 : θ.1 51 0 = C.1 0 := by rw [hJ.2.2.2.1 0 (by decide), hωr 0 (by decide)]; exact g0
        have et1 : θ.1 51 1 = nI k1 := by rw [hJ.2.2.2.1 1 (by decide), hωr 1 (by decide), g1]; exact e1
        refine hg_iload4 (pc' := 113) cx dX6_goes_111 rfl ?_
        refine hg_aload0 (pc' := 114) cx dX6_goes_113 rfl ?_
        refine gf_X6_9 (pc' := 117) cx dX6_goes_114 rfl ?_
        refine hg_iconst (pc' := 118) cx (nI 3) dX6_goes_117 (by decide) rfl ?_
        refine hg_iald2 (pc' := 119) cx (by decide) (hg_ceI51 E) (by first | assumption | omega | decide) (by decide) dX6_goes_118 rfl ?_
        refine hg_icmp_ge (pc' := 122) cx 155 dX6_goes_119 (by decide) rfl (fun c_119 => ?_) (fun c_119 => ?_)
        ·
          have hi := hg_ge hnθ (by omega) (by omega) c_119
          refine hg_aload0 (pc' := 156) cx dX6_goes_155 rfl ?_
          refine gf_X6_9 (pc' := 159) cx dX6_goes_156 rfl ?_
          refine hg_iconst (pc' := 160) cx (nI 0) dX6_goes_159 (by decide) rfl ?_
          refine hg_dup2 (pc' := 161) cx rfl rfl dX6_goes_160 rfl ?_
          refine hg_iald2 (pc' := 162) cx (by decide) (hg_ceI51 E) (by first | assumption | omega | decide) (by decide) dX6_goes_161 rfl ?_
          refine hg_iconst (pc' := 163) cx 1 dX6_goes_162 (by decide) rfl ?_
          refine hg_iadd (pc' := 164) cx dX6_goes_163 rfl ?_
          refine hg_iast2 (pc' := 165) cx (by decide) (hg_ceI51 E) (by first | assumption | omega | decide) (by decide) dX6_goes_164 rfl ?_
          refine hg_vret cx dX6_goes_165 ⟨rfl, ?_⟩
          have hii : i = n := by omega
          refine ⟨⟨hn10, ?_, fun k hk => ?_, fun h hh k hk => ?_⟩, hJ.2.1, fun x h1 h2 => ?_⟩
          · simp [sp_go1, va_up]; exact hR.2.1
          · rw [hg_sI_eq, hg_sH_at]
            simp only [sp_go1]
            by_cases q0 : k = 0
            · rw [q0, va_upE, va_upE, et0]
            · rw [va_upN _ _ q0, va_upN _ _ q0, hJ.2.2.2.1 k hk]
              by_cases q2 : k = 2
              · rw [q2, va_upE, hωh, hY, hZ, hq0]
              · rw [va_upN _ _ q2, hωr k q2]; exact hR.2.2.1 k hk
          · rw [hg_sI_eq, hg_sH_at, va_upN _ _ (by omega)]
            have := hJ.2.2.2.2.1 h (by omega) k hk
            rw [← hq0] at this
            exact this
          · rw [hg_sI_eq, hg_sH_ne _ _ h1, hJ.2.2.1 x h1]; exact hωo x h1 h2
        ·
          have hi := hg_nge hnθ (by omega) (by omega) c_119
          have agi := hJ.2.2.2.2.2 i (Nat.le_refl _) hi
          have hvi : vs_H (sp_hr (θ.1 51) i) := (hv.2.2.2.2.2 i hi).ag agi
          have esd : θ.1 55 i = sp_said (C.2 i) (nI y) (C.1 2) := by rw [hJ.2.2.1 55 (by decide)]; exact hω5 i hi
          refine hg_aload0 (pc' := 123) cx dX6_goes_122 rfl ?_
          refine gf_X6_22 (pc' := 126) cx dX6_goes_123 rfl ?_
          refine hg_iload4 (pc' := 128) cx dX6_goes_126 rfl ?_
          refine hg_iald2 (pc' := 129) cx (by decide) (hg_ceI55 E) (by first | assumption | omega | decide) (by decide) dX6_goes_128 rfl ?_
          refine hg_if_lt (pc' := 132) cx 149 dX6_goes_129 (by decide) rfl (fun c_129 => ?_) (fun c_129 => ?_)
          ·
            refine hg_iinc4p (pc' := 152) cx rfl dX6_goes_149 rfl ?_
            refine hg_goto cx 111 dX6_goes_152 (by decide) ?_
            rw [nI_1]
            refine hg_nm (fun μ hμ => ?_)
            refine ih_111 (μ, i + 1) ?_ ?_
            · subst hμ
              try dsimp only
              first
                | (refine ⟨hi, hJ.2.1, hJ.2.2.1, hJ.2.2.2.1, fun h hh => ?_, fun h h1 h2 => hJ.2.2.2.2.2 h (by omega) h2⟩
                   by_cases q : h = i
                   · rw [q]
                     have c9 := c_129
                     rw [esd] at c9
                     unfold sp_hatN
                     have : sp_said (C.2 i) (nI y) (C.1 2) = -1 := by
                       rcases sp_said01 (C.2 i) (nI y) (C.1 2) with z | z | z
                       · exact z
                       · rw [z] at c9; exact absurd c9 (by decide)
                       · rw [z] at c9; exact absurd c9 (by decide)
                     rw [if_pos this]; exact agi
                   · exact hJ.2.2.2.2.1 h (by omega))
                | (obtain ⟨⟨m1, m2⟩, m3, m4⟩ := h_146
                   refine ⟨hi, m1.trans hJ.2.1, fun x hx => (m2 x hx).trans (hJ.2.2.1 x hx), fun k hk => (m3 k (by omega)).trans (hJ.2.2.2.1 k hk), fun h hh => ?_, fun h h1 h2 k hk => ?_⟩
                   · by_cases q : h = i
                     · rw [q, m4]
                       have c9 := c_129
                       rw [esd] at c9
                       rw [esd, et0]
                       unfold sp_jud sp_hatN
                       rw [if_neg (show ¬ sp_said (C.2 i) (nI y) (C.1 2) = -1 from fun z => c9 (by rw [z]; decide)), e1]
                       by_cases d : sp_said (C.2 i) (nI y) (C.1 2) = sp_bit (nI k1) (nI y)
                       · rw [if_pos d, if_pos d]; exact agi.right
                       · rw [if_neg d, if_neg d]; exact agi.wrong _ _ _
                     · intro k hk
                       exact (m3 _ (by omega)).trans (hJ.2.2.2.2.1 h (by omega) k hk)
                   · exact (m3 _ (by omega)).trans (hJ.2.2.2.2.2 h (by omega) h2 k hk))
            · show n - (i + 1) < n - i
              omega
          ·
            refine hg_aload0 (pc' := 133) cx dX6_goes_132 rfl ?_
            refine hg_iload4 (pc' := 135) cx dX6_goes_133 rfl ?_
            refine hg_iload1 (pc' := 136) cx dX6_goes_135 rfl ?_
            refine hg_aload0 (pc' := 137) cx dX6_goes_136 rfl ?_
            refine gf_X6_9 (pc' := 140) cx dX6_goes_137 rfl ?_
            refine hg_iconst (pc' := 141) cx (nI 1) dX6_goes_140 (by decide) rfl ?_
            refine hg_iald2 (pc' := 142) cx (by decide) (hg_ceI51 E) (by first | assumption | omega | decide) (by decide) dX6_goes_141 rfl ?_
            rw [et1]
            refine hg_iload1 (pc' := 143) cx dX6_goes_142 rfl ?_
            refine hg_ishr (pc' := 144) cx dX6_goes_143 rfl ?_
            refine hg_iconst (pc' := 145) cx 1 dX6_goes_144 (by decide) rfl ?_
            refine hg_iand (pc' := 146) cx dX6_goes_145 rfl ?_
            refine cv_X6_104 (pc' := 149) cx (K_X6_isJudged l E _ i (by omega) hvi k1 (by omega) y hy8) ⟨rfl, rfl, Nat.le_of_ble_eq_true rfl, Nat.le_of_ble_eq_true rfl⟩ (Nat.le_of_ble_eq_true rfl) dX6_goes_146 rfl (fun τ_146 h_146 => ?_)
            skip
            refine hg_iinc4p (pc' := 152) cx rfl dX6_goes_149 rfl ?_
            refine hg_goto cx 111 dX6_goes_152 (by decide) ?_
            rw [nI_1]
            refine hg_nm (fun μ hμ => ?_)
            refine ih_111 (μ, i + 1) ?_ ?_
            · subst hμ
              try dsimp only
              first
                | (refine ⟨hi, hJ.2.1, hJ.2.2.1, hJ.2.2.2.1, fun h hh => ?_, fun h h1 h2 => hJ.2.2.2.2.2 h (by omega) h2⟩
                   by_cases q : h = i
                   · rw [q]
                     have c9 := c_129
                     rw [esd] at c9
                     unfold sp_hatN
                     have : sp_said (C.2 i) (nI y) (C.1 2) = -1 := by
                       rcases sp_said01 (C.2 i) (nI y) (C.1 2) with z | z | z
                       · exact z
                       · rw [z] at c9; exact absurd c9 (by decide)
                       · rw [z] at c9; exact absurd c9 (by decide)
                     rw [if_pos this]; exact agi
                   · exact hJ.2.2.2.2.1 h (by omega))
                | (obtain ⟨⟨m1, m2⟩, m3, m4⟩ := h_146
                   refine ⟨hi, m1.trans hJ.2.1, fun x hx => (m2 x hx).trans (hJ.2.2.1 x hx), fun k hk => (m3 k (by omega)).trans (hJ.2.2.2.1 k hk), fun h hh => ?_, fun h h1 h2 k hk => ?_⟩
                   · by_cases q : h = i
                     · rw [q, m4]
                       have c9 := c_129
                       rw [esd] at c9
                       rw [esd, et0]
                       unfold sp_jud sp_hatN
                       rw [if_neg (show ¬ sp_said (C.2 i) (nI y) (C.1 2) = -1 from fun z => c9 (by rw [z]; decide)), e1]
                       by_cases d : sp_said (C.2 i) (nI y) (C.1 2) = sp_bit (nI k1) (nI y)
                       · rw [if_pos d, if_pos d]; exact agi.right
                       · rw [if_neg d, if_neg d]; exact agi.wrong _ _ _
                     · intro k hk
                       exact (m3 _ (by omega)).trans (hJ.2.2.2.2.1 h (by omega) k hk)
                   · exact (m3 _ (by omega)).trans (hJ.2.2.2.2.2 h (by omega) h2 k hk))
            · show n - (i + 1) < n - i
              omega
    ·
      refine hg_aload0 (pc' := 79) cx dX6_goes_78 rfl ?_
      refine gf_X6_9 (pc' := 82) cx dX6_goes_79 rfl ?_
      refine hg_iconst (pc' := 83) cx (nI 2) dX6_goes_82 (by decide) rfl ?_
      refine hg_iald2 (pc' := 84) cx (by decide) (hg_ceI51 E) (by first | assumption | omega | decide) (by decide) dX6_goes_83 rfl ?_
      refine hg_goto cx 107 dX6_goes_84 (by decide) ?_
      refine hg_iast2 (pc' := 108) cx (by decide) (hg_ceI51 E) (by first | assumption | omega | decide) (by decide) dX6_goes_107 rfl ?_
      refine hg_nm (fun ω hω => ?_)
      have hjj : j = n := by omega
      have hω2 : ω.2 = σ.2 := by rw [hω]; exact hI.2.1
      have hωo : ∀ x, x ≠ 51 → x ≠ 55 → ω.1 x = σ.1 x := fun x h1 h2 => by rw [hω, hg_sI_eq, hg_sH_ne _ _ h1]; exact hI.2.2.1 x h2
      have hω5 : ∀ h, h < n → ω.1 55 h = sp_said (C.2 h) (nI y) (C.1 2) := fun h hh => by rw [hω, hg_sI_eq, hg_sH_ne _ _ (by decide)]; exact hI.2.2.2 h (by omega)
      have hωr : ∀ k, k ≠ 2 → ω.1 51 k = σ.1 51 k := fun k hk => by rw [hω, hg_sI_eq, hg_sH_at, va_upN _ _ hk, hI.2.2.1 51 (by decide)]
      have hωh : ω.1 51 2 = sp_heldN (C.1 2) (nI y) Y Z := by
        rw [hω, hg_sI_eq, hg_sH_at, va_upE, hI.2.2.1 51 (by decide), g2, e2, sp_heldN_eq (by omega) hy8]
        first
          | (rw [if_pos c_75]; done)
          | (rw [if_neg c_75, if_neg (Int32.not_lt.mpr c_96)]; done)
          | (rw [if_neg c_75, if_pos (Int32.not_le.mp c_96)]; done)
      clear hω
      refine hg_iconst (pc' := 109) cx (nI 0) dX6_goes_108 (by decide) rfl ?_
      refine hg_istore4 (pc' := 111) cx rfl dX6_goes_109 rfl ?_
      refine hg_nm (fun μ hμ => ?_)
      refine hg_loop (α := hg_Mem × Nat) (I := fun z => z.2 ≤ n ∧ z.1.2 = σ.2 ∧ (∀ x, x ≠ 51 → z.1.1 x = ω.1 x) ∧ (∀ k, k < 4 → z.1.1 51 k = ω.1 51 k) ∧ (∀ h, h < z.2 → sp_Ag (sp_hr (z.1.1 51) h) (sp_hatN (C.2 h) (nI y) (C.1 2) (C.1 1) (C.1 0))) ∧ ∀ h, z.2 ≤ h → h < n → sp_Ag (sp_hr (z.1.1 51) h) (C.2 h)) (P := fun z => hg_G E p l e { frames := 3, cells := 0, slots := 0, locals := 71 } s m args below meth c 5 (MQ below (hg_Qc E (hg_pv (fun τ => sp_RepM τ 51 (sp_go1 C n) n ∧ sp_FrM σ τ))) args s 0 0 (hg_AW E)) z.1 111 [some (.ref (hg_ad E 50)), some (.int (nI y)), some (.int Y), some (.int Z), some (.int (nI z.2))] []) (fun z => n - z.2) ?_ (μ, 0) ?_
      rotate_left
      · subst hμ
        try dsimp only
        exact ⟨Nat.zero_le _, hω2, fun _ _ => rfl, fun _ _ => rfl, fun h hh => absurd hh (Nat.not_lt_zero h), fun h _ hh k hk => (hωr _ (by omega)).trans (hR.ag hh k hk)⟩
      clear hμ μ
      rintro ⟨θ, i⟩ hI ih_111
      try dsimp only at hI ih_111 ⊢
      have hJ := hI
      clear hI
      rename_i hI
      have hin := hJ.1
      have hnθ : θ.1 51 3 = nI n := by rw [hJ.2.2.2.1 3 (by decide), hωr 3 (by decide)]; exact hn
      have et0 : θ.1 51 0 = C.1 0 := by rw [hJ.2.2.2.1 0 (by decide), hωr 0 (by decide)]; exact g0
      have et1 : θ.1 51 1 = nI k1 := by rw [hJ.2.2.2.1 1 (by decide), hωr 1 (by decide), g1]; exact e1
      refine hg_iload4 (pc' := 113) cx dX6_goes_111 rfl ?_
      refine hg_aload0 (pc' := 114) cx dX6_goes_113 rfl ?_
      refine gf_X6_9 (pc' := 117) cx dX6_goes_114 rfl ?_
      refine hg_iconst (pc' := 118) cx (nI 3) dX6_goes_117 (by decide) rfl ?_
      refine hg_iald2 (pc' := 119) cx (by decide) (hg_ceI51 E) (by first | assumption | omega | decide) (by decide) dX6_goes_118 rfl ?_
      refine hg_icmp_ge (pc' := 122) cx 155 dX6_goes_119 (by decide) rfl (fun c_119 => ?_) (fun c_119 => ?_)
      ·
        have hi := hg_ge hnθ (by omega) (by omega) c_119
        refine hg_aload0 (pc' := 156) cx dX6_goes_155 rfl ?_
        refine gf_X6_9 (pc' := 159) cx dX6_goes_156 rfl ?_
        refine hg_iconst (pc' := 160) cx (nI 0) dX6_goes_159 (by decide) rfl ?_
        refine hg_dup2 (pc' := 161) cx rfl rfl dX6_goes_160 rfl ?_
        refine hg_iald2 (pc' := 162) cx (by decide) (hg_ceI51 E) (by first | assumption | omega | decide) (by decide) dX6_goes_161 rfl ?_
        refine hg_iconst (pc' := 163) cx 1 dX6_goes_162 (by decide) rfl ?_
        refine hg_iadd (pc' := 164) cx dX6_goes_163 rfl ?_
        refine hg_iast2 (pc' := 165) cx (by decide) (hg_ceI51 E) (by first | assumption | omega | decide) (by decide) dX6_goes_164 rfl ?_
        refine hg_vret cx dX6_goes_165 ⟨rfl, ?_⟩
        have hii : i = n := by omega
        refine ⟨⟨hn10, ?_, fun k hk => ?_, fun h hh k hk => ?_⟩, hJ.2.1, fun x h1 h2 => ?_⟩
        · simp [sp_go1, va_up]; exact hR.2.1
        · rw [hg_sI_eq, hg_sH_at]
          simp only [sp_go1]
          by_cases q0 : k = 0
          · rw [q0, va_upE, va_upE, et0]
          · rw [va_upN _ _ q0, va_upN _ _ q0, hJ.2.2.2.1 k hk]
            by_cases q2 : k = 2
            · rw [q2, va_upE, hωh, hY, hZ, hq0]
            · rw [va_upN _ _ q2, hωr k q2]; exact hR.2.2.1 k hk
        · rw [hg_sI_eq, hg_sH_at, va_upN _ _ (by omega)]
          have := hJ.2.2.2.2.1 h (by omega) k hk
          rw [← hq0] at this
          exact this
        · rw [hg_sI_eq, hg_sH_ne _ _ h1, hJ.2.2.1 x h1]; exact hωo x h1 h2
      ·
        have hi := hg_nge hnθ (by omega) (by omega) c_119
        have agi := hJ.2.2.2.2.2 i (Nat.le_refl _) hi
        have hvi : vs_H (sp_hr (θ.1 51) i) := (hv.2.2.2.2.2 i hi).ag agi
        have esd : θ.1 55 i = sp_said (C.2 i) (nI y) (C.1 2) := by rw [hJ.2.2.1 55 (by decide)]; exact hω5 i hi
        refine hg_aload0 (pc' := 123) cx dX6_goes_122 rfl ?_
        refine gf_X6_22 (pc' := 126) cx dX6_goes_123 rfl ?_
        refine hg_iload4 (pc' := 128) cx dX6_goes_126 rfl ?_
        refine hg_iald2 (pc' := 129) cx (by decide) (hg_ceI55 E) (by first | assumption | omega | decide) (by decide) dX6_goes_128 rfl ?_
        refine hg_if_lt (pc' := 132) cx 149 dX6_goes_129 (by decide) rfl (fun c_129 => ?_) (fun c_129 => ?_)
        ·
          refine hg_iinc4p (pc' := 152) cx rfl dX6_goes_149 rfl ?_
          refine hg_goto cx 111 dX6_goes_152 (by decide) ?_
          rw [nI_1]
          refine hg_nm (fun μ hμ => ?_)
          refine ih_111 (μ, i + 1) ?_ ?_
          · subst hμ
            try dsimp only
            first
              | (refine ⟨hi, hJ.2.1, hJ.2.2.1, hJ.2.2.2.1, fun h hh => ?_, fun h h1 h2 => hJ.2.2.2.2.2 h (by omega) h2⟩
                 by_cases q : h = i
                 · rw [q]
                   have c9 := c_129
                   rw [esd] at c9
                   unfold sp_hatN
                   have : sp_said (C.2 i) (nI y) (C.1 2) = -1 := by
                     rcases sp_said01 (C.2 i) (nI y) (C.1 2) with z | z | z
                     · exact z
                     · rw [z] at c9; exact absurd c9 (by decide)
                     · rw [z] at c9; exact absurd c9 (by decide)
                   rw [if_pos this]; exact agi
                 · exact hJ.2.2.2.2.1 h (by omega))
              | (obtain ⟨⟨m1, m2⟩, m3, m4⟩ := h_146
                 refine ⟨hi, m1.trans hJ.2.1, fun x hx => (m2 x hx).trans (hJ.2.2.1 x hx), fun k hk => (m3 k (by omega)).trans (hJ.2.2.2.1 k hk), fun h hh => ?_, fun h h1 h2 k hk => ?_⟩
                 · by_cases q : h = i
                   · rw [q, m4]
                     have c9 := c_129
                     rw [esd] at c9
                     rw [esd, et0]
                     unfold sp_jud sp_hatN
                     rw [if_neg (show ¬ sp_said (C.2 i) (nI y) (C.1 2) = -1 from fun z => c9 (by rw [z]; decide)), e1]
                     by_cases d : sp_said (C.2 i) (nI y) (C.1 2) = sp_bit (nI k1) (nI y)
                     · rw [if_pos d, if_pos d]; exact agi.right
                     · rw [if_neg d, if_neg d]; exact agi.wrong _ _ _
                   · intro k hk
                     exact (m3 _ (by omega)).trans (hJ.2.2.2.2.1 h (by omega) k hk)
                 · exact (m3 _ (by omega)).trans (hJ.2.2.2.2.2 h (by omega) h2 k hk))
          · show n - (i + 1) < n - i
            omega
        ·
          refine hg_aload0 (pc' := 133) cx dX6_goes_132 rfl ?_
          refine hg_iload4 (pc' := 135) cx dX6_goes_133 rfl ?_
          refine hg_iload1 (pc' := 136) cx dX6_goes_135 rfl ?_
          refine hg_aload0 (pc' := 137) cx dX6_goes_136 rfl ?_
          refine gf_X6_9 (pc' := 140) cx dX6_goes_137 rfl ?_
          refine hg_iconst (pc' := 141) cx (nI 1) dX6_goes_140 (by decide) rfl ?_
          refine hg_iald2 (pc' := 142) cx (by decide) (hg_ceI51 E) (by first | assumption | omega | decide) (by decide) dX6_goes_141 rfl ?_
          rw [et1]
          refine hg_iload1 (pc' := 143) cx dX6_goes_142 rfl ?_
          refine hg_ishr (pc' := 144) cx dX6_goes_143 rfl ?_
          refine hg_iconst (pc' := 145) cx 1 dX6_goes_144 (by decide) rfl ?_
          refine hg_iand (pc' := 146) cx dX6_goes_145 rfl ?_
          refine cv_X6_104 (pc' := 149) cx (K_X6_isJudged l E _ i (by omega) hvi k1 (by omega) y hy8) ⟨rfl, rfl, Nat.le_of_ble_eq_true rfl, Nat.le_of_ble_eq_true rfl⟩ (Nat.le_of_ble_eq_true rfl) dX6_goes_146 rfl (fun τ_146 h_146 => ?_)
          skip
          refine hg_iinc4p (pc' := 152) cx rfl dX6_goes_149 rfl ?_
          refine hg_goto cx 111 dX6_goes_152 (by decide) ?_
          rw [nI_1]
          refine hg_nm (fun μ hμ => ?_)
          refine ih_111 (μ, i + 1) ?_ ?_
          · subst hμ
            try dsimp only
            first
              | (refine ⟨hi, hJ.2.1, hJ.2.2.1, hJ.2.2.2.1, fun h hh => ?_, fun h h1 h2 => hJ.2.2.2.2.2 h (by omega) h2⟩
                 by_cases q : h = i
                 · rw [q]
                   have c9 := c_129
                   rw [esd] at c9
                   unfold sp_hatN
                   have : sp_said (C.2 i) (nI y) (C.1 2) = -1 := by
                     rcases sp_said01 (C.2 i) (nI y) (C.1 2) with z | z | z
                     · exact z
                     · rw [z] at c9; exact absurd c9 (by decide)
                     · rw [z] at c9; exact absurd c9 (by decide)
                   rw [if_pos this]; exact agi
                 · exact hJ.2.2.2.2.1 h (by omega))
              | (obtain ⟨⟨m1, m2⟩, m3, m4⟩ := h_146
                 refine ⟨hi, m1.trans hJ.2.1, fun x hx => (m2 x hx).trans (hJ.2.2.1 x hx), fun k hk => (m3 k (by omega)).trans (hJ.2.2.2.1 k hk), fun h hh => ?_, fun h h1 h2 k hk => ?_⟩
                 · by_cases q : h = i
                   · rw [q, m4]
                     have c9 := c_129
                     rw [esd] at c9
                     rw [esd, et0]
                     unfold sp_jud sp_hatN
                     rw [if_neg (show ¬ sp_said (C.2 i) (nI y) (C.1 2) = -1 from fun z => c9 (by rw [z]; decide)), e1]
                     by_cases d : sp_said (C.2 i) (nI y) (C.1 2) = sp_bit (nI k1) (nI y)
                     · rw [if_pos d, if_pos d]; exact agi.right
                     · rw [if_neg d, if_neg d]; exact agi.wrong _ _ _
                   · intro k hk
                     exact (m3 _ (by omega)).trans (hJ.2.2.2.2.1 h (by omega) k hk)
                 · exact (m3 _ (by omega)).trans (hJ.2.2.2.2.2 h (by omega) h2 k hk))
          · show n - (i + 1) < n - i
            omega
  ·
    have hj := hg_nge hnρ (by omega) (by omega) c_30
    refine hg_aload0 (pc' := 34) cx dX6_goes_33 rfl ?_
    refine gf_X6_22 (pc' := 37) cx dX6_goes_34 rfl ?_
    refine hg_iload4 (pc' := 39) cx dX6_goes_37 rfl ?_
    refine hg_aload0 (pc' := 40) cx dX6_goes_39 rfl ?_
    refine hg_iload4 (pc' := 42) cx dX6_goes_40 rfl ?_
    refine hg_iconst (pc' := 43) cx (nI 5) dX6_goes_42 (by decide) rfl ?_
    refine cv_X6_48 (pc' := 46) cx (K_X6_it l E _ j (by omega) 5 (by decide)) ⟨rfl, rfl, Nat.le_of_ble_eq_true rfl, Nat.le_of_ble_eq_true rfl⟩ (Nat.le_of_ble_eq_true rfl) dX6_goes_43 rfl (fun r_43 τ_43 h_43 => ?_)
    obtain ⟨rfl, rfl⟩ := h_43
    refine hg_iconst (pc' := 47) cx 1 dX6_goes_46 (by decide) rfl ?_
    refine hg_icmp_ne (pc' := 50) cx 60 dX6_goes_47 (by decide) rfl (fun c_47 => ?_) (fun c_47 => ?_)
    ·
      refine hg_iconst (pc' := 61) cx (-1) dX6_goes_60 (by decide) rfl ?_
      refine hg_iast2 (pc' := 62) cx (by decide) (hg_ceI55 E) (by first | assumption | omega | decide) (by decide) dX6_goes_61 rfl ?_
      refine hg_iinc4p (pc' := 65) cx rfl dX6_goes_62 rfl ?_
      refine hg_goto cx 22 dX6_goes_65 (by decide) ?_
      rw [nI_1]
      refine hg_nm (fun μ hμ => ?_)
      refine ih_22 (μ, j + 1) ?_ ?_
      · subst hμ
        try dsimp only
        rw [hg_sI_eq]
        refine ⟨hj, hI.2.1, fun i hi => (hg_sH_ne _ _ hi).trans (hI.2.2.1 i hi), fun h hh => ?_⟩
        rw [hg_sH_at]
        by_cases q : h = j
        · rw [q, va_upE]
          have ag : sp_Ag (sp_hr (ρ.1 51) j) (C.2 j) := by rw [hI.2.2.1 51 (by decide)]; exact hR.ag hj
          have c9 := c_47
          rw [show ρ.1 51 (4 + 6 * j + 5) = C.2 j 5 from ag 5 (by decide)] at c9
          unfold sp_said
          first
            | (rw [if_pos ((hon j hj).resolve_right c9)]; done)
            | (rw [if_neg (show ¬ C.2 j 5 = 0 from fun z => absurd (z.symm.trans c9) (by decide)), ag.says, hI.2.2.1 51 (by decide), g2]; done)
        · rw [va_upN _ _ q]; exact hI.2.2.2 h (by omega)
      · show n - (j + 1) < n - j
        omega
    ·
      refine hg_aload0 (pc' := 51) cx dX6_goes_50 rfl ?_
      refine hg_iload4 (pc' := 53) cx dX6_goes_51 rfl ?_
      refine hg_iload1 (pc' := 54) cx dX6_goes_53 rfl ?_
      refine cv_X6_55 (pc' := 57) cx (K_X6_saysTo l E _ j (by omega) _) ⟨rfl, rfl, Nat.le_of_ble_eq_true rfl, Nat.le_of_ble_eq_true rfl⟩ (Nat.le_of_ble_eq_true rfl) dX6_goes_54 rfl (fun r_54 τ_54 h_54 => ?_)
      obtain ⟨rfl, rfl⟩ := h_54
      refine hg_goto cx 61 dX6_goes_57 (by decide) ?_
      refine hg_iast2 (pc' := 62) cx (by decide) (hg_ceI55 E) (by first | assumption | omega | decide) (by decide) dX6_goes_61 rfl ?_
      refine hg_iinc4p (pc' := 65) cx rfl dX6_goes_62 rfl ?_
      refine hg_goto cx 22 dX6_goes_65 (by decide) ?_
      rw [nI_1]
      refine hg_nm (fun μ hμ => ?_)
      refine ih_22 (μ, j + 1) ?_ ?_
      · subst hμ
        try dsimp only
        rw [hg_sI_eq]
        refine ⟨hj, hI.2.1, fun i hi => (hg_sH_ne _ _ hi).trans (hI.2.2.1 i hi), fun h hh => ?_⟩
        rw [hg_sH_at]
        by_cases q : h = j
        · rw [q, va_upE]
          have ag : sp_Ag (sp_hr (ρ.1 51) j) (C.2 j) := by rw [hI.2.2.1 51 (by decide)]; exact hR.ag hj
          have c9 := c_47
          rw [show ρ.1 51 (4 + 6 * j + 5) = C.2 j 5 from ag 5 (by decide)] at c9
          unfold sp_said
          first
            | (rw [if_pos ((hon j hj).resolve_right c9)]; done)
            | (rw [if_neg (show ¬ C.2 j 5 = 0 from fun z => absurd (z.symm.trans c9) (by decide)), ag.says, hI.2.2.1 51 (by decide), g2]; done)
        · rw [va_upN _ _ q]; exact hI.2.2.2 h (by omega)
      · show n - (j + 1) < n - j
        omega
set_option maxHeartbeats 4000000 in
set_option maxRecDepth 100000 in
theorem K_X6_goesFor (l : Launch) (E : hg_Wd) (σ : hg_Mem) (C : sp_C) (n : Nat) (hR : sp_RepM σ 51 C n) (B : Nat) (N : Nat) (hB : B + N < 200000) (hN : N ≤ 1000) (hv : vs_C B C n) : hg_C l E yX6_goesFor cX6_goesFor 3 none { frames := 4, cells := 0, slots := 0, locals := 95 } [.ref (hg_ad E 50), .int (nI N)] σ (hg_pv (fun τ => sp_RepM τ 51 (sp_go C n N) n ∧ sp_FrM σ τ)) := by
  refine hg_intro (by decide) [some (.ref (hg_ad E 50)), some (.int (nI N)), none] rfl (Nat.le_of_ble_eq_true rfl) ?_
  intro p e s m args below meth c cx
  have cx : hg_Cx E p s m args meth c cX6_goesFor 3 RX6 none := cx
  refine hg_iconst (pc' := 1) cx (nI 0) dX6_goesFor_0 (by decide) rfl ?_
  refine hg_istore2 (pc' := 2) cx rfl dX6_goesFor_1 rfl ?_
  refine hg_nm (fun μ hμ => ?_)
  refine hg_loop (α := hg_Mem × Nat) (I := fun z => z.2 ≤ N ∧ sp_RepM z.1 51 (sp_go C n z.2) n ∧ sp_FrM σ z.1) (P := fun z => hg_G E p l e { frames := 4, cells := 0, slots := 0, locals := 95 } s m args below meth c 3 (MQ below (hg_Qc E (hg_pv (fun τ => sp_RepM τ 51 (sp_go C n N) n ∧ sp_FrM σ τ))) args s 0 0 (hg_AW E)) z.1 2 [some (.ref (hg_ad E 50)), some (.int (nI N)), some (.int (nI z.2))] []) (fun z => N - z.2) ?_ (μ, 0) ?_
  rotate_left
  · subst hμ
    try dsimp only
    exact ⟨Nat.zero_le _, hR, sp_FrM.rf _⟩
  clear hμ μ
  rintro ⟨τ, j⟩ hI ih_2
  try dsimp only at hI ih_2 ⊢
  have hjN := hI.1
  refine hg_iload2 (pc' := 3) cx dX6_goesFor_2 rfl ?_
  refine hg_iload1 (pc' := 4) cx dX6_goesFor_3 rfl ?_
  refine hg_icmp_ge (pc' := 7) cx 17 dX6_goesFor_4 (by decide) rfl (fun c_4 => ?_) (fun c_4 => ?_)
  ·
    have hj := hg_ge (rfl : nI N = nI N) (by omega) (by omega) c_4
    refine hg_vret cx dX6_goesFor_17 ⟨rfl, ?_⟩
    obtain rfl : j = N := by omega
    exact hI.2
  ·
    have hj := hg_nge (rfl : nI N = nI N) (by omega) (by omega) c_4
    refine hg_aload0 (pc' := 8) cx dX6_goesFor_7 rfl ?_
    refine cv_X6_107 (pc' := 11) cx (K_X6_goes l E _ (sp_go C n j) n hI.2.1 (B + j) (by omega) (vs_go hv j (by omega))) ⟨rfl, rfl, Nat.le_of_ble_eq_true rfl, Nat.le_of_ble_eq_true rfl⟩ (Nat.le_of_ble_eq_true rfl) dX6_goesFor_8 rfl (fun τ_8 h_8 => ?_)
    skip
    refine hg_iinc2p (pc' := 14) cx rfl dX6_goesFor_11 rfl ?_
    refine hg_goto cx 2 dX6_goesFor_14 (by decide) ?_
    rw [nI_1]
    refine hg_nm (fun μ hμ => ?_)
    refine ih_2 (μ, j + 1) ?_ ?_
    · subst hμ
      try dsimp only
      exact ⟨hj, h_8.1, hI.2.2.tr h_8.2⟩
    · show N - (j + 1) < N - j
      omega
