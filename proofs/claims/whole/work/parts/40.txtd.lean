theorem sp_RepM.put2 {σ : hg_Mem} {n k : Nat} {C : sp_C} (h : sp_RepM σ 51 C n) (hk : k < 3) (v : Int32) : sp_RepM (hg_sI σ 51 k v) 51 (va_up C.1 k v, C.2) n := by
  refine ⟨h.1, ?_, fun j hj => ?_, fun x hx j hj => ?_⟩
  · show va_up C.1 k v 3 = _
    rw [va_upN _ _ (by omega)]; exact h.2.1
  · rw [ck_get]
    show _ = va_up C.1 k v j
    by_cases q : j = k
    · rw [if_pos q, q, va_upE]
    · rw [if_neg q, va_upN _ _ q]; exact h.2.2.1 j hj
  · rw [ck_get, if_neg (by omega)]; exact h.2.2.2 x hx j hj
set_option maxHeartbeats 4000000 in
set_option maxRecDepth 100000 in
theorem K_X6_hatItem (l : Launch) (E : hg_Wd) (σ : hg_Mem) (f : Nat → Int32) (L : Nat) (hL : L ≤ 120) (ht : mk_T σ f L) (b : Nat) (hb : b ≤ L) (hS : mk_St σ f L true b) (C : sp_C) (n : Nat) (hR : sp_RepM σ 51 C n) : hg_C l E yX6_hatItem cX6_hatItem 6 none { frames := 5, cells := 0, slots := 0, locals := 113 } [.ref (hg_ad E 50)] σ (hg_pv (fun τ => mk_It σ τ f L (sp_hatI f L (sp_T f L b) b C n))) := by
  refine hg_intro (by decide) [some (.ref (hg_ad E 50)), none, none, none, none, none] rfl (Nat.le_of_ble_eq_true rfl) ?_
  intro p e s m args below meth c cx
  have cx : hg_Cx E p s m args meth c cX6_hatItem 6 RX6 none := cx
  have hn2 : σ.1 51 3 = nI n := (hR.2.2.1 3 (by decide)).trans hR.2.1
  have hn10 := hR.1
  obtain ⟨hB0, hA⟩ : σ.1 50 12 = 0 ∧ mk_At σ f L b := hS.elim (fun z => z.2) (fun z => Bool.noConfusion z.1)
  have hb1 := sp_nx_le f hb
  have eQ1 : (sp_prh2 f L 6 255 0 true (sp_nx f L b)) = (sp_prh f L 6 255 0 (sp_nx f L b)) := by unfold sp_prh2; rw [if_pos rfl]
  have hb3 := (sp_prh_ge f 6 255 0 hb1).2
  rw [← eQ1] at hb3
  have hb4 : (sp_prh2 f L 7 99 50 (sp_prh2 f L 6 255 0 true (sp_nx f L b)).1 (sp_prh2 f L 6 255 0 true (sp_nx f L b)).2.1).2.1 ≤ L := by
    rw [sp_prh2]
    split
    · exact (sp_prh_ge f 7 99 50 hb3).2
    · exact hb3
  refine hg_aload0 (pc' := 1) cx dX6_hatItem_0 rfl ?_
  refine gf_X6_171 (pc' := 4) cx dX6_hatItem_1 rfl ?_
  rw [hA.1]
  refine hg_istore1 (pc' := 5) cx rfl dX6_hatItem_4 rfl ?_
  refine hg_aload0 (pc' := 6) cx dX6_hatItem_5 rfl ?_
  refine hg_aload0 (pc' := 7) cx dX6_hatItem_6 rfl ?_
  refine gf_X6_9 (pc' := 10) cx dX6_hatItem_7 rfl ?_
  refine hg_iconst (pc' := 11) cx (nI 3) dX6_hatItem_10 (by decide) rfl ?_
  refine hg_iald2 (pc' := 12) cx (by decide) (hg_ceI51 E) (by first | assumption | omega | decide) (by decide) dX6_hatItem_11 rfl ?_
  rw [hn2]
  refine hg_bipush (pc' := 14) cx (nI 10) dX6_hatItem_12 (by decide) rfl ?_
  refine hg_icmp_ne (pc' := 17) cx 21 dX6_hatItem_14 (by decide) rfl (fun c_14 => ?_) (fun c_14 => ?_)
  ·
    have hlt : n < 10 := by
      rcases Nat.lt_or_ge n 10 with q | q
      · exact q
      · exact absurd (by rw [show n = 10 by omega]) c_14
    refine hg_iconst (pc' := 22) cx 0 dX6_hatItem_21 (by decide) rfl ?_
    refine pf_X6_177 (pc' := 25) cx ⟨rfl, rfl⟩ dX6_hatItem_22 rfl ?_
    refine hg_aload0 (pc' := 26) cx dX6_hatItem_25 rfl ?_
    refine gf_X6_177 (pc' := 29) cx dX6_hatItem_26 rfl ?_
    rw [ck_get, if_pos rfl]
    refine hg_if_eq (pc' := 32) cx 33 dX6_hatItem_29 (by decide) rfl (fun c_29 => ?_) (fun c_29 => ?_)
    ·
      refine hg_aload0 (pc' := 34) cx dX6_hatItem_33 rfl ?_
      refine cv_X6_181 (pc' := 37) cx (K_X6_reads l E _ f L hL (ht.fi (mk_putB _ _).i) (sp_e f L b) (sp_e_le f hb) (by rw [ck_get, if_neg (by decide)]; exact hA.2.2.1)) ⟨rfl, rfl, Nat.le_of_ble_eq_true rfl, Nat.le_of_ble_eq_true rfl⟩ (Nat.le_of_ble_eq_true rfl) dX6_hatItem_34 rfl (fun τ_34 h_34 => ?_)
      obtain ⟨A34, F34⟩ := h_34
      have G34 : mk_Fb σ τ_34 := (mk_putB _ _).tr F34.b
      have S34 : mk_St τ_34 f L true (sp_nx f L b) := Or.inl ⟨rfl, by rw [F34.2.2 12 (by decide), ck_get, if_pos rfl], A34⟩
      have t34 := ht.fi G34.i
      refine hg_aload0 (pc' := 38) cx dX6_hatItem_37 rfl ?_
      refine hg_bipush (pc' := 40) cx (nI 6) dX6_hatItem_38 (by decide) rfl ?_
      refine hg_iconst (pc' := 41) cx 0 dX6_hatItem_40 (by decide) rfl ?_
      refine hg_sipush (pc' := 44) cx 255 dX6_hatItem_41 (by decide) rfl ?_
      refine hg_iconst (pc' := 45) cx 0 dX6_hatItem_44 (by decide) rfl ?_
      refine cv_X6_190 (pc' := 48) cx (K_X6_perhaps l E _ f L hL t34 true (sp_nx f L b) hb1 S34 6 (by decide) _ _) ⟨rfl, rfl, Nat.le_of_ble_eq_true rfl, Nat.le_of_ble_eq_true rfl⟩ (Nat.le_of_ble_eq_true rfl) dX6_hatItem_45 rfl (fun r_45 τ_45 h_45 => ?_)
      obtain ⟨S45, v45, F45⟩ := h_45
      have G45 := G34.tr F45
      have t45 := ht.fi G45.i
      refine hg_istore2 (pc' := 49) cx rfl dX6_hatItem_48 rfl ?_
      refine hg_aload0 (pc' := 50) cx dX6_hatItem_49 rfl ?_
      refine hg_bipush (pc' := 52) cx (nI 7) dX6_hatItem_50 (by decide) rfl ?_
      refine hg_iconst (pc' := 53) cx 0 dX6_hatItem_52 (by decide) rfl ?_
      refine hg_bipush (pc' := 55) cx 99 dX6_hatItem_53 (by decide) rfl ?_
      refine hg_bipush (pc' := 57) cx 50 dX6_hatItem_55 (by decide) rfl ?_
      refine cv_X6_190 (pc' := 60) cx (K_X6_perhaps l E _ f L hL t45 (sp_prh2 f L 6 255 0 true (sp_nx f L b)).1 (sp_prh2 f L 6 255 0 true (sp_nx f L b)).2.1 hb3 S45 7 (by decide) _ _) ⟨rfl, rfl, Nat.le_of_ble_eq_true rfl, Nat.le_of_ble_eq_true rfl⟩ (Nat.le_of_ble_eq_true rfl) dX6_hatItem_57 rfl (fun r_57 τ_57 h_57 => ?_)
      obtain ⟨S57, v57, F57⟩ := h_57
      have G57 := G45.tr F57
      have t57 := ht.fi G57.i
      refine hg_istore3 (pc' := 61) cx rfl dX6_hatItem_60 rfl ?_
      refine hg_aload0 (pc' := 62) cx dX6_hatItem_61 rfl ?_
      refine hg_bipush (pc' := 64) cx (nI 8) dX6_hatItem_62 (by decide) rfl ?_
      refine cv_X6_184 (pc' := 67) cx (K_X6_passes l E _ f L hL t57 (sp_prh2 f L 7 99 50 (sp_prh2 f L 6 255 0 true (sp_nx f L b)).1 (sp_prh2 f L 6 255 0 true (sp_nx f L b)).2.1).1 (sp_prh2 f L 7 99 50 (sp_prh2 f L 6 255 0 true (sp_nx f L b)).1 (sp_prh2 f L 6 255 0 true (sp_nx f L b)).2.1).2.1 hb4 S57 8 (by decide)) ⟨rfl, rfl, Nat.le_of_ble_eq_true rfl, Nat.le_of_ble_eq_true rfl⟩ (Nat.le_of_ble_eq_true rfl) dX6_hatItem_64 rfl (fun r_64 τ_64 h_64 => ?_)
      skip
      refine hg_if_eq (pc' := 70) cx 74 dX6_hatItem_67 (by decide) rfl (fun c_67 => ?_) (fun c_67 => ?_)
      ·
        obtain ⟨n64, -, e64⟩ := h_64.resolve_left (fun z => absurd (z.2.2.1.symm.trans c_67) (by decide))
        subst e64
        have hn9 := (mk_Rep hR G57).2.2.1 3 (by decide)
        replace hn9 := hn9.trans hR.2.1
        have hok := fun z => (S57.ok z).1
        refine hg_iconst (pc' := 75) cx 1 dX6_hatItem_74 (by decide) rfl ?_
        refine hg_istore4 (pc' := 77) cx rfl dX6_hatItem_75 rfl ?_
        refine hg_aload0 (pc' := 78) cx dX6_hatItem_77 rfl ?_
        refine gf_X6_177 (pc' := 81) cx dX6_hatItem_78 rfl ?_
        refine hg_if_ne (pc' := 84) cx 95 dX6_hatItem_81 (by decide) rfl (fun c_81 => ?_) (fun c_81 => ?_)
        ·
          refine hg_vret cx dX6_hatItem_95 ⟨rfl, ?_⟩
          have s81 := S57.no c_81
          by_cases q : (sp_prh f L 6 255 0 (sp_nx f L b)).1 = true
          · have eQ2 : (sp_prh2 f L 7 99 50 (sp_prh2 f L 6 255 0 true (sp_nx f L b)).1 (sp_prh2 f L 6 255 0 true (sp_nx f L b)).2.1) = (sp_prh f L 7 99 50 (sp_prh f L 6 255 0 (sp_nx f L b)).2.1) := by rw [eQ1, sp_prh2, if_pos q]
            have e0 : sp_hatI f L (sp_T f L b) b C n = (false, (sp_prh f L 7 99 50 (sp_prh f L 6 255 0 (sp_nx f L b)).2.1).2.1, C, n) := by
              unfold sp_hatI
              rw [if_neg (by omega), if_neg (by rw [q]; exact fun z => Bool.noConfusion z), if_pos (by rw [← eQ2]; exact s81.1)]
            rw [e0]
            exact ⟨G57.i, Or.inr ⟨rfl, s81.2.1, by rw [← eQ2]; exact s81.2.2⟩, fun z => Bool.noConfusion z⟩
          · have q2 : (sp_prh f L 6 255 0 (sp_nx f L b)).1 = false := Bool.eq_false_iff.mpr q
            have eQ2 : (sp_prh2 f L 7 99 50 (sp_prh2 f L 6 255 0 true (sp_nx f L b)).1 (sp_prh2 f L 6 255 0 true (sp_nx f L b)).2.1).2.1 = (sp_prh f L 6 255 0 (sp_nx f L b)).2.1 := by rw [eQ1, sp_prh2, if_neg q]
            have e0 : sp_hatI f L (sp_T f L b) b C n = (false, (sp_prh f L 6 255 0 (sp_nx f L b)).2.1, C, n) := by
              unfold sp_hatI
              rw [if_neg (by omega), if_pos q2]
            rw [e0]
            exact ⟨G57.i, Or.inr ⟨rfl, s81.2.1, by rw [← eQ2]; exact s81.2.2⟩, fun z => Bool.noConfusion z⟩
        ·
          have ok2 : (sp_prh2 f L 7 99 50 (sp_prh2 f L 6 255 0 true (sp_nx f L b)).1 (sp_prh2 f L 6 255 0 true (sp_nx f L b)).2.1).1 = true := by first | exact hok c_81 | exact o64
          have ok1 : (sp_prh2 f L 6 255 0 true (sp_nx f L b)).1 = true := by
            by_cases q : (sp_prh2 f L 6 255 0 true (sp_nx f L b)).1 = true
            · exact q
            · rw [sp_prh2, if_neg q] at ok2; exact Bool.noConfusion ok2
          have q1 : (sp_prh f L 6 255 0 (sp_nx f L b)).1 = true := by rw [← eQ1]; exact ok1
          have eQ2 : (sp_prh2 f L 7 99 50 (sp_prh2 f L 6 255 0 true (sp_nx f L b)).1 (sp_prh2 f L 6 255 0 true (sp_nx f L b)).2.1) = (sp_prh f L 7 99 50 (sp_prh f L 6 255 0 (sp_nx f L b)).2.1) := by rw [eQ1, sp_prh2, if_pos q1]
          have q2 : (sp_prh f L 7 99 50 (sp_prh f L 6 255 0 (sp_nx f L b)).2.1).1 = true := by rw [← eQ2]; exact ok2
          refine hg_aload0 (pc' := 85) cx dX6_hatItem_84 rfl ?_
          refine hg_iload1 (pc' := 86) cx dX6_hatItem_85 rfl ?_
          refine hg_iload2 (pc' := 87) cx dX6_hatItem_86 rfl ?_
          refine hg_iload3 (pc' := 88) cx dX6_hatItem_87 rfl ?_
          refine hg_iload4 (pc' := 90) cx dX6_hatItem_88 rfl ?_
          refine cv_X6_79 (pc' := 93) cx (K_X6_comesAs l E _ n hlt hn9 _ _ _ _) ⟨rfl, rfl, Nat.le_of_ble_eq_true rfl, Nat.le_of_ble_eq_true rfl⟩ (Nat.le_of_ble_eq_true rfl) dX6_hatItem_90 rfl (fun r_90 τ_90 h_90 => ?_)
          obtain ⟨rfl, rfl⟩ := h_90
          refine hg_istore5 (pc' := 95) cx rfl dX6_hatItem_93 rfl ?_
          refine hg_vret cx dX6_hatItem_95 ⟨rfl, ?_⟩
          have e0 : sp_hatI f L (sp_T f L b) b C n = (true, (sp_prh f L 7 99 50 (sp_prh f L 6 255 0 (sp_nx f L b)).2.1).2.1, sp_addC C n (sp_newF (nI (sp_T f L b)) (sp_prh f L 6 255 0 (sp_nx f L b)).2.2 (sp_prh f L 7 99 50 (sp_prh f L 6 255 0 (sp_nx f L b)).2.1).2.2 1), n + 1) := by
            unfold sp_hatI
            rw [if_neg (by omega), if_neg (by rw [q1]; exact fun z => Bool.noConfusion z), if_neg (by rw [q2]; exact fun z => Bool.noConfusion z), if_neg (fun z => n64 ⟨ok2, by rw [eQ2]; exact z⟩)]
          rw [e0]
          refine ⟨G57.i.tr ⟨rfl, fun i _ h => hg_sH_ne _ _ h, fun k _ => by rw [hg_sH_ne _ _ (by decide)]⟩, Or.inl ⟨rfl, by rw [hg_sH_ne _ _ (by decide)]; exact c_81, ?_⟩, fun _ => ?_⟩
          · rw [← eQ2]; exact (S57.ok c_81).2.keep (fun k _ _ => by rw [hg_sH_ne _ _ (by decide)])
          · rw [v45 ok1, v57 ok2, eQ2, eQ1]
            exact (mk_Rep hR G57).come hlt _ _ _ _
      ·
        obtain ⟨o64, y64, -, S64, F64⟩ := h_64.resolve_right (fun z => c_67 z.2.1)
        have hn9 := (mk_Rep hR (G57.tr F64.b)).2.2.1 3 (by decide)
        replace hn9 := hn9.trans hR.2.1
        refine hg_iconst (pc' := 71) cx 0 dX6_hatItem_70 (by decide) rfl ?_
        refine hg_goto cx 75 dX6_hatItem_71 (by decide) ?_
        refine hg_istore4 (pc' := 77) cx rfl dX6_hatItem_75 rfl ?_
        refine hg_aload0 (pc' := 78) cx dX6_hatItem_77 rfl ?_
        refine gf_X6_177 (pc' := 81) cx dX6_hatItem_78 rfl ?_
        refine hg_if_ne (pc' := 84) cx 95 dX6_hatItem_81 (by decide) rfl (fun c_81 => ?_) (fun c_81 => ?_)
        ·
          exact absurd (S64.elim (fun z => z.2.1) (fun z => Bool.noConfusion z.1)) c_81
        ·
          have ok2 : (sp_prh2 f L 7 99 50 (sp_prh2 f L 6 255 0 true (sp_nx f L b)).1 (sp_prh2 f L 6 255 0 true (sp_nx f L b)).2.1).1 = true := by first | exact hok c_81 | exact o64
          have ok1 : (sp_prh2 f L 6 255 0 true (sp_nx f L b)).1 = true := by
            by_cases q : (sp_prh2 f L 6 255 0 true (sp_nx f L b)).1 = true
            · exact q
            · rw [sp_prh2, if_neg q] at ok2; exact Bool.noConfusion ok2
          have q1 : (sp_prh f L 6 255 0 (sp_nx f L b)).1 = true := by rw [← eQ1]; exact ok1
          have eQ2 : (sp_prh2 f L 7 99 50 (sp_prh2 f L 6 255 0 true (sp_nx f L b)).1 (sp_prh2 f L 6 255 0 true (sp_nx f L b)).2.1) = (sp_prh f L 7 99 50 (sp_prh f L 6 255 0 (sp_nx f L b)).2.1) := by rw [eQ1, sp_prh2, if_pos q1]
          have q2 : (sp_prh f L 7 99 50 (sp_prh f L 6 255 0 (sp_nx f L b)).2.1).1 = true := by rw [← eQ2]; exact ok2
          refine hg_aload0 (pc' := 85) cx dX6_hatItem_84 rfl ?_
          refine hg_iload1 (pc' := 86) cx dX6_hatItem_85 rfl ?_
          refine hg_iload2 (pc' := 87) cx dX6_hatItem_86 rfl ?_
          refine hg_iload3 (pc' := 88) cx dX6_hatItem_87 rfl ?_
          refine hg_iload4 (pc' := 90) cx dX6_hatItem_88 rfl ?_
          refine cv_X6_79 (pc' := 93) cx (K_X6_comesAs l E _ n hlt hn9 _ _ _ _) ⟨rfl, rfl, Nat.le_of_ble_eq_true rfl, Nat.le_of_ble_eq_true rfl⟩ (Nat.le_of_ble_eq_true rfl) dX6_hatItem_90 rfl (fun r_90 τ_90 h_90 => ?_)
          obtain ⟨rfl, rfl⟩ := h_90
          refine hg_istore5 (pc' := 95) cx rfl dX6_hatItem_93 rfl ?_
          refine hg_vret cx dX6_hatItem_95 ⟨rfl, ?_⟩
          have e0 : sp_hatI f L (sp_T f L b) b C n = (true, sp_nx f L (sp_prh f L 7 99 50 (sp_prh f L 6 255 0 (sp_nx f L b)).2.1).2.1, sp_addC C n (sp_newF (nI (sp_T f L b)) (sp_prh f L 6 255 0 (sp_nx f L b)).2.2 (sp_prh f L 7 99 50 (sp_prh f L 6 255 0 (sp_nx f L b)).2.1).2.2 0), n + 1) := by
            unfold sp_hatI
            rw [if_neg (by omega), if_neg (by rw [q1]; exact fun z => Bool.noConfusion z), if_neg (by rw [q2]; exact fun z => Bool.noConfusion z), if_pos (by rw [← eQ2]; exact y64)]
          rw [e0]
          refine ⟨(G57.tr F64.b).i.tr ⟨rfl, fun i _ h => hg_sH_ne _ _ h, fun k _ => by rw [hg_sH_ne _ _ (by decide)]⟩, Or.inl ⟨rfl, by rw [hg_sH_ne _ _ (by decide)]; exact c_81, ?_⟩, fun _ => ?_⟩
          · rw [← eQ2]; exact (S64.ok c_81).2.keep (fun k _ _ => by rw [hg_sH_ne _ _ (by decide)])
          · rw [v45 ok1, v57 ok2, eQ2, eQ1]
            exact (mk_Rep hR (G57.tr F64.b)).come hlt _ _ _ _
    ·
      exact absurd rfl c_29
  ·
    have h10 : n = 10 := (nI_eq (by omega) (by decide)).mp c_14
    refine hg_iconst (pc' := 18) cx 1 dX6_hatItem_17 (by decide) rfl ?_
    refine hg_goto cx 22 dX6_hatItem_18 (by decide) ?_
    refine pf_X6_177 (pc' := 25) cx ⟨rfl, rfl⟩ dX6_hatItem_22 rfl ?_
    refine hg_aload0 (pc' := 26) cx dX6_hatItem_25 rfl ?_
    refine gf_X6_177 (pc' := 29) cx dX6_hatItem_26 rfl ?_
    rw [ck_get, if_pos rfl]
    refine hg_if_eq (pc' := 32) cx 33 dX6_hatItem_29 (by decide) rfl (fun c_29 => ?_) (fun c_29 => ?_)
    ·
      exact absurd c_29 (by decide)
    ·
      refine hg_vret cx dX6_hatItem_32 ⟨rfl, ?_⟩
      have e0 : sp_hatI f L (sp_T f L b) b C n = (false, b, C, n) := by unfold sp_hatI; rw [if_pos (by omega)]
      rw [e0]
      exact ⟨(mk_putB _ _).i, Or.inr ⟨rfl, by rw [ck_get, if_pos rfl], by rw [ck_get, if_neg (by decide)]; exact hA.2.1⟩, fun z => Bool.noConfusion z⟩
set_option maxHeartbeats 4000000 in
set_option maxRecDepth 100000 in
theorem K_X6_holdsItem (l : Launch) (E : hg_Wd) (σ : hg_Mem) (f : Nat → Int32) (L : Nat) (hL : L ≤ 120) (ht : mk_T σ f L) (b : Nat) (hb : b ≤ L) (hS : mk_St σ f L true b) (C : sp_C) (n : Nat) (hR : sp_RepM σ 51 C n) : hg_C l E yX6_holdsItem cX6_holdsItem 3 none { frames := 4, cells := 0, slots := 0, locals := 89 } [.ref (hg_ad E 50)] σ (hg_pv (fun τ => mk_It σ τ f L (sp_holdsI f L b C n))) := by
  refine hg_intro (by decide) [some (.ref (hg_ad E 50)), none, none] rfl (Nat.le_of_ble_eq_true rfl) ?_
  intro p e s m args below meth c cx
  have cx : hg_Cx E p s m args meth c cX6_holdsItem 3 RX6 none := cx
  have hn2 : σ.1 51 3 = nI n := (hR.2.2.1 3 (by decide)).trans hR.2.1
  have hn10 := hR.1
  obtain ⟨hB0, hA⟩ : σ.1 50 12 = 0 ∧ mk_At σ f L b := hS.elim (fun z => z.2) (fun z => Bool.noConfusion z.1)
  have hb9 : (if (true && decide (sp_num f L b 7)) = true then sp_nx f L b else b) ≤ L := by split; exact sp_nx_le f hb; exact hb
  refine hg_aload0 (pc' := 1) cx dX6_holdsItem_0 rfl ?_
  refine hg_iconst (pc' := 2) cx 0 dX6_holdsItem_1 (by decide) rfl ?_
  refine hg_bipush (pc' := 4) cx 7 dX6_holdsItem_2 (by decide) rfl ?_
  refine cv_X6_187 (pc' := 7) cx (K_X6_number l E _ f L hL ht true b hb hS 7) ⟨rfl, rfl, Nat.le_of_ble_eq_true rfl, Nat.le_of_ble_eq_true rfl⟩ (Nat.le_of_ble_eq_true rfl) dX6_holdsItem_4 rfl (fun r_4 τ_4 h_4 => ?_)
  obtain ⟨S4, v4, F4⟩ := h_4
  have t4 := ht.fi F4.i
  refine hg_istore1 (pc' := 8) cx rfl dX6_holdsItem_7 rfl ?_
  refine hg_aload0 (pc' := 9) cx dX6_holdsItem_8 rfl ?_
  refine hg_bipush (pc' := 11) cx (nI 11) dX6_holdsItem_9 (by decide) rfl ?_
  refine cv_X6_184 (pc' := 14) cx (K_X6_passes l E _ f L hL t4 (true && decide (sp_num f L b 7)) (if (true && decide (sp_num f L b 7)) = true then sp_nx f L b else b) hb9 S4 11 (by decide)) ⟨rfl, rfl, Nat.le_of_ble_eq_true rfl, Nat.le_of_ble_eq_true rfl⟩ (Nat.le_of_ble_eq_true rfl) dX6_holdsItem_11 rfl (fun r_11 τ_11 h_11 => ?_)
  skip
  refine hg_istore2 (pc' := 15) cx rfl dX6_holdsItem_14 rfl ?_
  refine hg_aload0 (pc' := 16) cx dX6_holdsItem_15 rfl ?_
  refine hg_aload0 (pc' := 17) cx dX6_holdsItem_16 rfl ?_
  refine gf_X6_177 (pc' := 20) cx dX6_holdsItem_17 rfl ?_
  refine hg_if_ne (pc' := 23) cx 36 dX6_holdsItem_20 (by decide) rfl (fun c_20 => ?_) (fun c_20 => ?_)
  ·
    have e11 := h_11.resolve_left (fun z => c_20 (z.2.2.2.1.elim (fun y => y.2.1) (fun y => Bool.noConfusion y.1)))
    obtain ⟨n11, -, e11⟩ := e11
    subst e11
    have s20 := S4.no c_20
    refine hg_iconst (pc' := 37) cx 1 dX6_holdsItem_36 (by decide) rfl ?_
    refine hg_goto cx 41 dX6_holdsItem_37 (by decide) ?_
    refine pf_X6_177 (pc' := 44) cx ⟨rfl, rfl⟩ dX6_holdsItem_41 rfl ?_
    refine hg_aload0 (pc' := 45) cx dX6_holdsItem_44 rfl ?_
    refine gf_X6_177 (pc' := 48) cx dX6_holdsItem_45 rfl ?_
    rw [ck_get, if_pos rfl]
    refine hg_if_ne (pc' := 51) cx 76 dX6_holdsItem_48 (by decide) rfl (fun c_48 => ?_) (fun c_48 => ?_)
    ·
      refine hg_vret cx dX6_holdsItem_76 ⟨rfl, ?_⟩
      have eo : (true && decide (sp_num f L b 7)) = false := s20.1
      have nn : ¬ sp_num f L b 7 := fun z => by rw [decide_eq_true z] at eo; exact Bool.noConfusion eo
      have e0 : sp_holdsI f L b C n = (false, b, C, n) := by unfold sp_holdsI; rw [if_neg nn]
      rw [e0]
      have s9 := s20.2.2
      rw [eo, if_neg (fun z => Bool.noConfusion z)] at s9
      exact ⟨(F4.tr (mk_putB _ _)).i, Or.inr ⟨rfl, by rw [ck_get, if_pos rfl], by rw [ck_get, if_neg (by decide)]; exact s9⟩, fun z => Bool.noConfusion z⟩
    ·
      exact absurd c_48 (by decide)
  ·
    refine hg_iload2 (pc' := 24) cx dX6_holdsItem_23 rfl ?_
    refine hg_if_ne (pc' := 27) cx 40 dX6_holdsItem_24 (by decide) rfl (fun c_24 => ?_) (fun c_24 => ?_)
    ·
      obtain ⟨o11, y11, r11, S11, F11⟩ := h_11.resolve_right (fun z => c_24 z.2.1)
      refine hg_iconst (pc' := 41) cx 0 dX6_holdsItem_40 (by decide) rfl ?_
      refine pf_X6_177 (pc' := 44) cx ⟨rfl, rfl⟩ dX6_holdsItem_41 rfl ?_
      refine hg_aload0 (pc' := 45) cx dX6_holdsItem_44 rfl ?_
      refine gf_X6_177 (pc' := 48) cx dX6_holdsItem_45 rfl ?_
      rw [ck_get, if_pos rfl]
      refine hg_if_ne (pc' := 51) cx 76 dX6_holdsItem_48 (by decide) rfl (fun c_48 => ?_) (fun c_48 => ?_)
      ·
        exact absurd rfl c_48
      ·
        refine hg_aload0 (pc' := 52) cx dX6_holdsItem_51 rfl ?_
        refine gf_X6_9 (pc' := 55) cx dX6_holdsItem_52 rfl ?_
        refine hg_iconst (pc' := 56) cx (nI 2) dX6_holdsItem_55 (by decide) rfl ?_
        refine hg_aload0 (pc' := 57) cx dX6_holdsItem_56 rfl ?_
        refine gf_X6_9 (pc' := 60) cx dX6_holdsItem_57 rfl ?_
        refine hg_iconst (pc' := 61) cx (nI 2) dX6_holdsItem_60 (by decide) rfl ?_
        refine hg_iald2 (pc' := 62) cx (by decide) (hg_ceI51 E) (by first | assumption | omega | decide) (by decide) dX6_holdsItem_61 rfl ?_
        refine hg_iload1 (pc' := 63) cx dX6_holdsItem_62 rfl ?_
        refine hg_iload2 (pc' := 64) cx dX6_holdsItem_63 rfl ?_
        refine hg_if_eq (pc' := 67) cx 71 dX6_holdsItem_64 (by decide) rfl (fun c_64 => ?_) (fun c_64 => ?_)
        ·
          exact absurd c_64 c_24
        ·
          refine hg_iconst (pc' := 68) cx 1 dX6_holdsItem_67 (by decide) rfl ?_
          refine hg_goto cx 72 dX6_holdsItem_68 (by decide) ?_
          refine cs_X6_101 (pc' := 75) cx (K_X6_withBit l E _ _ _ _) ⟨rfl, rfl, Nat.le_of_ble_eq_true rfl, Nat.le_of_ble_eq_true rfl⟩ (Nat.le_of_ble_eq_true rfl) dX6_holdsItem_72 rfl (fun r_72 τ_72 h_72 => ?_)
          obtain ⟨rfl, rfl⟩ := h_72
          refine hg_iast2 (pc' := 76) cx (by decide) (hg_ceI51 E) (by first | assumption | omega | decide) (by decide) dX6_holdsItem_75 rfl ?_
          refine hg_vret cx dX6_holdsItem_76 ⟨rfl, ?_⟩
          have nn : sp_num f L b 7 := by
            by_cases q : sp_num f L b 7
            · exact q
            · rw [decide_eq_false q] at o11; exact Bool.noConfusion o11
          rw [o11, if_pos rfl] at y11 S11
          have e0 : sp_holdsI f L b C n = (true, sp_nx f L (sp_nx f L b), (va_up C.1 2 (sp_withBit (C.1 2) (sp_v f L b) 1), C.2), n) := by unfold sp_holdsI; rw [if_pos nn, if_pos y11]
          rw [e0]
          have G := (F4.tr F11.b).tr (mk_putB τ_11 0)
          have R9 := mk_Rep hR G
          refine ⟨G.i.tr (mk_putM _ _ _), Or.inl ⟨rfl, by rw [ck_oth _ _ _ (by decide), ck_get, if_pos rfl], (S11.elim (fun z => z.2.2) (fun z => Bool.noConfusion z.1)).keep (fun k h1 h2 => by rw [ck_oth _ _ _ (by decide), ck_get, if_neg (by omega)])⟩, fun _ => ?_⟩
          rw [v4 o11, R9.2.2.1 2 (by decide)]
          exact R9.put2 (k := 2) (by decide) _
    ·
      obtain ⟨n11, -, e11⟩ := h_11.resolve_left (fun z => absurd (z.2.2.1.symm.trans c_24) (by decide))
      subst e11
      obtain ⟨o20, A20⟩ := S4.ok c_20
      refine hg_aload0 (pc' := 28) cx dX6_holdsItem_27 rfl ?_
      refine hg_bipush (pc' := 30) cx (nI 12) dX6_holdsItem_28 (by decide) rfl ?_
      refine cv_X6_184 (pc' := 33) cx (K_X6_passes l E _ f L hL t4 (true && decide (sp_num f L b 7)) (if (true && decide (sp_num f L b 7)) = true then sp_nx f L b else b) hb9 S4 12 (by decide)) ⟨rfl, rfl, Nat.le_of_ble_eq_true rfl, Nat.le_of_ble_eq_true rfl⟩ (Nat.le_of_ble_eq_true rfl) dX6_holdsItem_30 rfl (fun r_30 τ_30 h_30 => ?_)
      skip
      refine hg_if_ne (pc' := 36) cx 40 dX6_holdsItem_33 (by decide) rfl (fun c_33 => ?_) (fun c_33 => ?_)
      ·
        obtain ⟨o30, y30, r30, S30, F30⟩ := h_30.resolve_right (fun z => c_33 z.2.1)
        refine hg_iconst (pc' := 41) cx 0 dX6_holdsItem_40 (by decide) rfl ?_
        refine pf_X6_177 (pc' := 44) cx ⟨rfl, rfl⟩ dX6_holdsItem_41 rfl ?_
        refine hg_aload0 (pc' := 45) cx dX6_holdsItem_44 rfl ?_
        refine gf_X6_177 (pc' := 48) cx dX6_holdsItem_45 rfl ?_
        rw [ck_get, if_pos rfl]
        refine hg_if_ne (pc' := 51) cx 76 dX6_holdsItem_48 (by decide) rfl (fun c_48 => ?_) (fun c_48 => ?_)
        ·
          exact absurd rfl c_48
        ·
          refine hg_aload0 (pc' := 52) cx dX6_holdsItem_51 rfl ?_
          refine gf_X6_9 (pc' := 55) cx dX6_holdsItem_52 rfl ?_
          refine hg_iconst (pc' := 56) cx (nI 2) dX6_holdsItem_55 (by decide) rfl ?_
          refine hg_aload0 (pc' := 57) cx dX6_holdsItem_56 rfl ?_
          refine gf_X6_9 (pc' := 60) cx dX6_holdsItem_57 rfl ?_
          refine hg_iconst (pc' := 61) cx (nI 2) dX6_holdsItem_60 (by decide) rfl ?_
          refine hg_iald2 (pc' := 62) cx (by decide) (hg_ceI51 E) (by first | assumption | omega | decide) (by decide) dX6_holdsItem_61 rfl ?_
          refine hg_iload1 (pc' := 63) cx dX6_holdsItem_62 rfl ?_
          refine hg_iload2 (pc' := 64) cx dX6_holdsItem_63 rfl ?_
          refine hg_if_eq (pc' := 67) cx 71 dX6_holdsItem_64 (by decide) rfl (fun c_64 => ?_) (fun c_64 => ?_)
          ·
            refine hg_iconst (pc' := 72) cx 0 dX6_holdsItem_71 (by decide) rfl ?_
            refine cs_X6_101 (pc' := 75) cx (K_X6_withBit l E _ _ _ _) ⟨rfl, rfl, Nat.le_of_ble_eq_true rfl, Nat.le_of_ble_eq_true rfl⟩ (Nat.le_of_ble_eq_true rfl) dX6_holdsItem_72 rfl (fun r_72 τ_72 h_72 => ?_)
            obtain ⟨rfl, rfl⟩ := h_72
            refine hg_iast2 (pc' := 76) cx (by decide) (hg_ceI51 E) (by first | assumption | omega | decide) (by decide) dX6_holdsItem_75 rfl ?_
            refine hg_vret cx dX6_holdsItem_76 ⟨rfl, ?_⟩
            have nn : sp_num f L b 7 := by
              by_cases q : sp_num f L b 7
              · exact q
              · rw [decide_eq_false q] at o30; exact Bool.noConfusion o30
            rw [o30, if_pos rfl] at y30 S30
            have n9 : ¬ sp_T f L (sp_nx f L b) = 11 := by rw [y30]; decide
            have e0 : sp_holdsI f L b C n = (true, sp_nx f L (sp_nx f L b), (va_up C.1 2 (sp_withBit (C.1 2) (sp_v f L b) 0), C.2), n) := by unfold sp_holdsI; rw [if_pos nn, if_neg n9, if_pos y30]
            rw [e0]
            have G := (F4.tr F30.b).tr (mk_putB τ_30 0)
            have R9 := mk_Rep hR G
            refine ⟨G.i.tr (mk_putM _ _ _), Or.inl ⟨rfl, by rw [ck_oth _ _ _ (by decide), ck_get, if_pos rfl], (S30.elim (fun z => z.2.2) (fun z => Bool.noConfusion z.1)).keep (fun k h1 h2 => by rw [ck_oth _ _ _ (by decide), ck_get, if_neg (by omega)])⟩, fun _ => ?_⟩
            rw [v4 o30, R9.2.2.1 2 (by decide)]
            exact R9.put2 (k := 2) (by decide) _
          ·
            exact absurd c_24 c_64
      ·
        obtain ⟨n30, -, e30⟩ := h_30.resolve_left (fun z => absurd (z.2.2.1.symm.trans c_33) (by decide))
        subst e30
        refine hg_iconst (pc' := 37) cx 1 dX6_holdsItem_36 (by decide) rfl ?_
        refine hg_goto cx 41 dX6_holdsItem_37 (by decide) ?_
        refine pf_X6_177 (pc' := 44) cx ⟨rfl, rfl⟩ dX6_holdsItem_41 rfl ?_
        refine hg_aload0 (pc' := 45) cx dX6_holdsItem_44 rfl ?_
        refine gf_X6_177 (pc' := 48) cx dX6_holdsItem_45 rfl ?_
        rw [ck_get, if_pos rfl]
        refine hg_if_ne (pc' := 51) cx 76 dX6_holdsItem_48 (by decide) rfl (fun c_48 => ?_) (fun c_48 => ?_)
        ·
          refine hg_vret cx dX6_holdsItem_76 ⟨rfl, ?_⟩
          have nn : sp_num f L b 7 := by
            by_cases q : sp_num f L b 7
            · exact q
            · rw [decide_eq_false q] at o20; exact Bool.noConfusion o20
          rw [o20, if_pos rfl] at n11 n30 A20
          have e0 : sp_holdsI f L b C n = (false, sp_nx f L b, C, n) := by unfold sp_holdsI; rw [if_pos nn, if_neg (fun z => n11 ⟨rfl, z⟩), if_neg (fun z => n30 ⟨rfl, z⟩)]
          rw [e0]
          exact ⟨(F4.tr (mk_putB _ _)).i, Or.inr ⟨rfl, by rw [ck_get, if_pos rfl], by rw [ck_get, if_neg (by decide)]; exact A20.2.1⟩, fun z => Bool.noConfusion z⟩
        ·
          exact absurd c_48 (by decide)
set_option maxHeartbeats 4000000 in
set_option maxRecDepth 100000 in
theorem K_X6_item (l : Launch) (E : hg_Wd) (σ : hg_Mem) (f : Nat → Int32) (L : Nat) (hL : L ≤ 120) (ht : mk_T σ f L) (b : Nat) (hb : b ≤ L) (hS : mk_St σ f L true b) (C : sp_C) (n : Nat) (hR : sp_RepM σ 51 C n) : hg_C l E yX6_item cX6_item 2 none { frames := 6, cells := 0, slots := 0, locals := 138 } [.ref (hg_ad E 50)] σ (hg_pv (fun τ => mk_It σ τ f L (sp_item f L b C n))) := by
  refine hg_intro (by decide) [some (.ref (hg_ad E 50)), none] rfl (Nat.le_of_ble_eq_true rfl) ?_
  intro p e s m args below meth c cx
  have cx : hg_Cx E p s m args meth c cX6_item 2 RX6 none := cx
  have hn2 : σ.1 51 3 = nI n := (hR.2.2.1 3 (by decide)).trans hR.2.1
  have hn10 := hR.1
  obtain ⟨hB0, hA⟩ : σ.1 50 12 = 0 ∧ mk_At σ f L b := hS.elim (fun z => z.2) (fun z => Bool.noConfusion z.1)
  have hT24 := sp_T_24 f L b
  refine hg_aload0 (pc' := 1) cx dX6_item_0 rfl ?_
  refine gf_X6_171 (pc' := 4) cx dX6_item_1 rfl ?_
  rw [hA.1]
  refine hg_iconst (pc' := 5) cx (nI 5) dX6_item_4 (by decide) rfl ?_
  refine hg_icmp_gt (pc' := 8) cx 15 dX6_item_5 (by decide) rfl (fun c_5 => ?_) (fun c_5 => ?_)
  ·
    have k6 : ¬ sp_T f L b < 6 := fun z => nI_nlt (b := sp_T f L b) (a := 5) (by omega) (by decide) c_5
    refine hg_aload0 (pc' := 16) cx dX6_item_15 rfl ?_
    refine hg_bipush (pc' := 18) cx (nI 9) dX6_item_16 (by decide) rfl ?_
    refine cv_X6_184 (pc' := 21) cx (K_X6_passes l E _ f L hL ht true b hb hS 9 (by decide)) ⟨rfl, rfl, Nat.le_of_ble_eq_true rfl, Nat.le_of_ble_eq_true rfl⟩ (Nat.le_of_ble_eq_true rfl) dX6_item_18 rfl (fun r_18 τ_18 h_18 => ?_)
    skip
    refine hg_if_eq (pc' := 24) cx 41 dX6_item_21 (by decide) rfl (fun c_21 => ?_) (fun c_21 => ?_)
    ·
      obtain ⟨n18, -, e18⟩ := h_18.resolve_left (fun z => absurd (z.2.2.1.symm.trans c_21) (by decide))
      subst e18
      refine hg_aload0 (pc' := 42) cx dX6_item_41 rfl ?_
      refine hg_bipush (pc' := 44) cx (nI 10) dX6_item_42 (by decide) rfl ?_
      refine cv_X6_184 (pc' := 47) cx (K_X6_passes l E _ f L hL ht true b hb hS 10 (by decide)) ⟨rfl, rfl, Nat.le_of_ble_eq_true rfl, Nat.le_of_ble_eq_true rfl⟩ (Nat.le_of_ble_eq_true rfl) dX6_item_44 rfl (fun r_44 τ_44 h_44 => ?_)
      skip
      refine hg_if_eq (pc' := 50) cx 57 dX6_item_47 (by decide) rfl (fun c_47 => ?_) (fun c_47 => ?_)
      ·
        obtain ⟨n44, -, e44⟩ := h_44.resolve_left (fun z => absurd (z.2.2.1.symm.trans c_47) (by decide))
        subst e44
        refine hg_aload0 (pc' := 58) cx dX6_item_57 rfl ?_
        refine hg_bipush (pc' := 60) cx (nI 13) dX6_item_58 (by decide) rfl ?_
        refine cv_X6_184 (pc' := 63) cx (K_X6_passes l E _ f L hL ht true b hb hS 13 (by decide)) ⟨rfl, rfl, Nat.le_of_ble_eq_true rfl, Nat.le_of_ble_eq_true rfl⟩ (Nat.le_of_ble_eq_true rfl) dX6_item_60 rfl (fun r_60 τ_60 h_60 => ?_)
        skip
        refine hg_if_eq (pc' := 66) cx 97 dX6_item_63 (by decide) rfl (fun c_63 => ?_) (fun c_63 => ?_)
        ·
          obtain ⟨n60, -, e60⟩ := h_60.resolve_left (fun z => absurd (z.2.2.1.symm.trans c_63) (by decide))
          subst e60
          refine hg_aload0 (pc' := 98) cx dX6_item_97 rfl ?_
          refine hg_iconst (pc' := 99) cx 1 dX6_item_98 (by decide) rfl ?_
          refine pf_X6_177 (pc' := 102) cx ⟨rfl, rfl⟩ dX6_item_99 rfl ?_
          refine hg_vret cx dX6_item_102 ⟨rfl, ?_⟩
          have e1 : sp_item f L b C n = (false, b, C, n) := by unfold sp_item; rw [if_neg k6, if_neg (fun z => n18 ⟨rfl, z⟩), if_neg (fun z => n44 ⟨rfl, z⟩), if_neg (fun z => n60 ⟨rfl, z⟩)]
          rw [e1]
          exact ⟨(mk_putB _ _).i, Or.inr ⟨rfl, by rw [ck_get, if_pos rfl], by rw [ck_get, if_neg (by decide)]; exact hA.2.1⟩, fun z => Bool.noConfusion z⟩
        ·
          obtain ⟨o60, y60, -, S60, F60⟩ := h_60.resolve_right (fun z => c_63 z.2.1)
          refine hg_aload0 (pc' := 67) cx dX6_item_66 rfl ?_
          refine hg_iconst (pc' := 68) cx 0 dX6_item_67 (by decide) rfl ?_
          refine hg_aload0 (pc' := 69) cx dX6_item_68 rfl ?_
          refine gf_X6_9 (pc' := 72) cx dX6_item_69 rfl ?_
          refine hg_iconst (pc' := 73) cx (nI 3) dX6_item_72 (by decide) rfl ?_
          refine hg_iald2 (pc' := 74) cx (by decide) (hg_ceI51 E) (by first | assumption | omega | decide) (by decide) dX6_item_73 rfl ?_
          rw [F60.2.1 51 (by decide), hn2]
          refine hg_iconst (pc' := 75) cx 1 dX6_item_74 (by decide) rfl ?_
          refine hg_isub (pc' := 76) cx dX6_item_75 rfl ?_
          refine cv_X6_187 (pc' := 79) cx (K_X6_number l E _ f L hL (ht.fr F60) true (sp_nx f L b) (sp_nx_le f hb) S60 (nI n - 1)) ⟨rfl, rfl, Nat.le_of_ble_eq_true rfl, Nat.le_of_ble_eq_true rfl⟩ (Nat.le_of_ble_eq_true rfl) dX6_item_76 rfl (fun r_76 τ_76 h_76 => ?_)
          obtain ⟨S76, v76, F76⟩ := h_76
          refine hg_istore1 (pc' := 80) cx rfl dX6_item_79 rfl ?_
          refine hg_aload0 (pc' := 81) cx dX6_item_80 rfl ?_
          refine gf_X6_177 (pc' := 84) cx dX6_item_81 rfl ?_
          refine hg_if_ne (pc' := 87) cx 94 dX6_item_84 (by decide) rfl (fun c_84 => ?_) (fun c_84 => ?_)
          ·
            have s84 := S76.no c_84
            refine hg_goto cx 102 dX6_item_94 (by decide) ?_
            refine hg_vret cx dX6_item_102 ⟨rfl, ?_⟩
            have e1 : sp_item f L b C n = sp_liftI f L (sp_nx f L b) C n := by unfold sp_item; rw [if_neg k6, if_neg (fun z => n18 ⟨rfl, z⟩), if_neg (fun z => n44 ⟨rfl, z⟩), if_pos y60]
            rw [e1]
            have eo : (true && decide (sp_num f L (sp_nx f L b) (nI n - 1))) = false := s84.1
            have nn : ¬ sp_num f L (sp_nx f L b) (nI n - 1) := fun z => by rw [decide_eq_true z] at eo; exact Bool.noConfusion eo
            have e0 : sp_liftI f L (sp_nx f L b) C n = (false, sp_nx f L b, C, n) := by unfold sp_liftI; rw [if_neg nn]
            have S9 := S76
            rw [eo, if_neg (fun z => Bool.noConfusion z)] at S9
            rw [e0]
            exact ⟨(F60.b.tr F76).i, S9, fun z => Bool.noConfusion z⟩
          ·
            obtain ⟨o84, A84⟩ := S76.ok c_84
            have nn : sp_num f L (sp_nx f L b) (nI n - 1) := by
              by_cases q : sp_num f L (sp_nx f L b) (nI n - 1)
              · exact q
              · rw [decide_eq_false q] at o84; exact Bool.noConfusion o84
            obtain ⟨j, hjn, ej⟩ := sp_num_lt hn10 nn
            rw [v76 o84, ej]
            refine hg_aload0 (pc' := 88) cx dX6_item_87 rfl ?_
            refine hg_iload1 (pc' := 89) cx dX6_item_88 rfl ?_
            refine hg_iconst (pc' := 90) cx (nI 5) dX6_item_89 (by decide) rfl ?_
            refine hg_iconst (pc' := 91) cx 0 dX6_item_90 (by decide) rfl ?_
            refine cv_X6_74 (pc' := 94) cx (K_X6_put l E _ j (by omega) 5 (by decide) _) ⟨rfl, rfl, Nat.le_of_ble_eq_true rfl, Nat.le_of_ble_eq_true rfl⟩ (Nat.le_of_ble_eq_true rfl) dX6_item_91 rfl (fun τ_91 h_91 => ?_)
            obtain rfl := h_91
            refine hg_goto cx 102 dX6_item_94 (by decide) ?_
            refine hg_vret cx dX6_item_102 ⟨rfl, ?_⟩
            have e1 : sp_item f L b C n = sp_liftI f L (sp_nx f L b) C n := by unfold sp_item; rw [if_neg k6, if_neg (fun z => n18 ⟨rfl, z⟩), if_neg (fun z => n44 ⟨rfl, z⟩), if_pos y60]
            rw [e1]
            have e0 : sp_liftI f L (sp_nx f L b) C n = (true, sp_nx f L (sp_nx f L b), sp_hatF C j 5 0, n) := by unfold sp_liftI; rw [if_pos nn, ej, nI_clamp (by omega)]
            have S9 := S76
            rw [o84, if_pos rfl] at S9
            rw [e0]
            exact ⟨(F60.b.tr F76).i.tr (mk_putM _ _ _), S9.oth (ck_oth _ _ _ (by decide)), fun _ => (mk_Rep hR (F60.b.tr F76)).putF hjn (k := 5) (by decide) 0⟩
      ·
        obtain ⟨o44, y44, -, S44, F44⟩ := h_44.resolve_right (fun z => c_47 z.2.1)
        refine hg_aload0 (pc' := 51) cx dX6_item_50 rfl ?_
        refine cv_X6_196 (pc' := 54) cx (K_X6_holdsItem l E _ f L hL (ht.fr F44) (sp_nx f L b) (sp_nx_le f hb) S44 C n (mk_Rep hR F44.b)) ⟨rfl, rfl, Nat.le_of_ble_eq_true rfl, Nat.le_of_ble_eq_true rfl⟩ (Nat.le_of_ble_eq_true rfl) dX6_item_51 rfl (fun τ_51 h_51 => ?_)
        skip
        refine hg_goto cx 102 dX6_item_54 (by decide) ?_
        refine hg_vret cx dX6_item_102 ⟨rfl, ?_⟩
        have e1 : sp_item f L b C n = sp_holdsI f L (sp_nx f L b) C n := by unfold sp_item; rw [if_neg k6, if_neg (fun z => n18 ⟨rfl, z⟩), if_pos y44]
        rw [e1]
        exact ⟨F44.b.i.tr h_51.1, h_51.2⟩
    ·
      obtain ⟨o18, y18, -, S18, F18⟩ := h_18.resolve_right (fun z => c_21 z.2.1)
      refine hg_aload0 (pc' := 25) cx dX6_item_24 rfl ?_
      refine gf_X6_9 (pc' := 28) cx dX6_item_25 rfl ?_
      refine hg_iconst (pc' := 29) cx (nI 1) dX6_item_28 (by decide) rfl ?_
      refine hg_aload0 (pc' := 30) cx dX6_item_29 rfl ?_
      refine hg_iconst (pc' := 31) cx 0 dX6_item_30 (by decide) rfl ?_
      refine hg_sipush (pc' := 34) cx 255 dX6_item_31 (by decide) rfl ?_
      refine cv_X6_187 (pc' := 37) cx (K_X6_number l E _ f L hL (ht.fr F18) true (sp_nx f L b) (sp_nx_le f hb) S18 255) ⟨rfl, rfl, Nat.le_of_ble_eq_true rfl, Nat.le_of_ble_eq_true rfl⟩ (Nat.le_of_ble_eq_true rfl) dX6_item_34 rfl (fun r_34 τ_34 h_34 => ?_)
      obtain ⟨S34, v34, F34⟩ := h_34
      refine hg_iast2 (pc' := 38) cx (by decide) (hg_ceI51 E) (by first | assumption | omega | decide) (by decide) dX6_item_37 rfl ?_
      refine hg_goto cx 102 dX6_item_38 (by decide) ?_
      refine hg_vret cx dX6_item_102 ⟨rfl, ?_⟩
      have e1 : sp_item f L b C n = sp_truthI f L (sp_nx f L b) C n := by unfold sp_item; rw [if_neg k6, if_pos y18]
      rw [e1]
      have G := F18.b.tr F34
      by_cases q : sp_num f L (sp_nx f L b) 255
      · have eo : (true && decide (sp_num f L (sp_nx f L b) 255)) = true := by rw [decide_eq_true q]; rfl
        have e0 : sp_truthI f L (sp_nx f L b) C n = (true, sp_nx f L (sp_nx f L b), (va_up C.1 1 (sp_v f L (sp_nx f L b)), C.2), n) := by unfold sp_truthI; rw [if_pos q]
        rw [eo, if_pos rfl] at S34
        rw [e0]
        refine ⟨G.i.tr (mk_putM _ _ _), S34.oth (ck_oth _ _ _ (by decide)), fun _ => ?_⟩
        rw [v34 eo]
        exact (mk_Rep hR G).put2 (k := 1) (by decide) _
      · have eo : (true && decide (sp_num f L (sp_nx f L b) 255)) = false := by rw [decide_eq_false q]; rfl
        have e0 : sp_truthI f L (sp_nx f L b) C n = (false, sp_nx f L b, C, n) := by unfold sp_truthI; rw [if_neg q]
        rw [eo, if_neg (fun z => Bool.noConfusion z)] at S34
        rw [e0]
        exact ⟨G.i.tr (mk_putM _ _ _), S34.oth (ck_oth _ _ _ (by decide)), fun z => Bool.noConfusion z⟩
  ·
    have k6 : sp_T f L b < 6 := by
      have := hg_ngt (a := 5) (b := sp_T f L b) (by omega) (by omega) c_5
      omega
    refine hg_aload0 (pc' := 9) cx dX6_item_8 rfl ?_
    refine cv_X6_193 (pc' := 12) cx (K_X6_hatItem l E _ f L hL ht b hb hS C n hR) ⟨rfl, rfl, Nat.le_of_ble_eq_true rfl, Nat.le_of_ble_eq_true rfl⟩ (Nat.le_of_ble_eq_true rfl) dX6_item_9 rfl (fun τ_9 h_9 => ?_)
    skip
    refine hg_goto cx 102 dX6_item_12 (by decide) ?_
    refine hg_vret cx dX6_item_102 ⟨rfl, ?_⟩
    unfold sp_item
    rw [if_pos k6]
    exact h_9
set_option maxHeartbeats 4000000 in
set_option maxRecDepth 100000 in
theorem K_X6_lobby (l : Launch) (E : hg_Wd) (σ : hg_Mem) (S : sp_S) (hc : cw_M σ S) (hv : vs_S S) : hg_C l E yX6_lobby cX6_lobby 2 (some .int) { frames := 7, cells := 0, slots := 0, locals := 159 } [.ref (hg_ad E 50)] σ (hg_pi (fun r τ => mw_P σ (op_lobby S ) r τ)) := by
  refine hg_intro (by decide) [some (.ref (hg_ad E 50)), none] rfl (Nat.le_of_ble_eq_true rfl) ?_
  intro p e s m args below meth c cx
  have cx : hg_Cx E p s m args meth c cX6_lobby 2 RX6 (some .int) := cx
  obtain ⟨hn10, hn, g0, g1, g2, hag⟩ := hc.get
  obtain ⟨L, hL, eL⟩ := hv.2.2.2.1
  have ht : mk_T σ (S.2.1 2) L := ⟨by rw [hc.2.2.2.1, eL], hc.2.2.2.2.2.1⟩
  have eW : sp_lobR S = sp_lob (S.2.1 2) L 200 1 (sp_b (S.2.1 2) L 0) (S.1 0).1 (S.1 0).2 := by unfold sp_lobR; rw [eL, nI_clamp (by omega)]
  refine hg_aload0 (pc' := 1) cx dX6_lobby_0 rfl ?_
  refine cv_X6_120 (pc' := 4) cx (K_X6_thinks l E _ ) ⟨rfl, rfl, Nat.le_of_ble_eq_true rfl, Nat.le_of_ble_eq_true rfl⟩ (Nat.le_of_ble_eq_true rfl) dX6_lobby_1 rfl (fun τ_1 h_1 => ?_)
  obtain ⟨hT, hT1⟩ := h_1
  have hRt := hc.1.keep hT1
  have t1 : mk_T τ_1 (S.2.1 2) L := ⟨by rw [hT.2.1 50 (by decide) (by decide) (by decide)]; exact ht.1, fun k hk => by rw [hT.2.1 56 (by decide) (by decide) (by decide)]; exact ht.2 k hk⟩
  refine hg_aload0 (pc' := 5) cx dX6_lobby_4 rfl ?_
  refine hg_iconst (pc' := 6) cx (nI 0) dX6_lobby_5 (by decide) rfl ?_
  refine pf_X6_157 (pc' := 9) cx dX6_lobby_6 rfl ?_
  refine hg_aload0 (pc' := 10) cx dX6_lobby_9 rfl ?_
  refine hg_iconst (pc' := 11) cx 0 dX6_lobby_10 (by decide) rfl ?_
  refine pf_X6_177 (pc' := 14) cx ⟨rfl, rfl⟩ dX6_lobby_11 rfl ?_
  refine hg_nm (fun ω hω => ?_)
  have w10 : ω.1 50 10 = nI 0 := by rw [hω]; simp (decide := true) only [ck_get, if_true, if_false]
  have w12 : ω.1 50 12 = 0 := by rw [hω]; simp (decide := true) only [ck_get, if_true, if_false]
  have F11 : mk_Fb τ_1 ω := by rw [hω]; exact (mk_put _ _ (by decide)).b.tr (mk_putB _ _)
  have t11 := t1.fi F11.i
  clear hω
  refine hg_aload0 (pc' := 15) cx dX6_lobby_14 rfl ?_
  refine cv_X6_181 (pc' := 18) cx (K_X6_reads l E _ (S.2.1 2) L hL t11 0 (Nat.zero_le _) w10) ⟨rfl, rfl, Nat.le_of_ble_eq_true rfl, Nat.le_of_ble_eq_true rfl⟩ (Nat.le_of_ble_eq_true rfl) dX6_lobby_15 rfl (fun τ_15 h_15 => ?_)
  obtain ⟨A15, F15⟩ := h_15
  have G15 : mk_Fi τ_1 τ_15 := F11.i.tr F15.b.i
  have t15 := t1.fi G15
  have S15 : mk_St τ_15 (S.2.1 2) L true (sp_b (S.2.1 2) L 0) := Or.inl ⟨rfl, by rw [F15.2.2 12 (by decide)]; exact w12, A15⟩
  have R15 := mk_Rep hRt (F11.tr F15.b)
  refine hg_aload0 (pc' := 19) cx dX6_lobby_18 rfl ?_
  refine cv_X6_199 (pc' := 22) cx (K_X6_item l E _ (S.2.1 2) L hL t15 (sp_b (S.2.1 2) L 0) (sp_b_le _ (Nat.zero_le _)) S15 (S.1 0).1 (S.1 0).2 R15) ⟨rfl, rfl, Nat.le_of_ble_eq_true rfl, Nat.le_of_ble_eq_true rfl⟩ (Nat.le_of_ble_eq_true rfl) dX6_lobby_19 rfl (fun τ_19 h_19 => ?_)
  obtain ⟨F19, S19, R19⟩ := h_19
  refine hg_iconst (pc' := 23) cx (nI 1) dX6_lobby_22 (by decide) rfl ?_
  refine hg_istore1 (pc' := 24) cx rfl dX6_lobby_23 rfl ?_
  refine hg_nm (fun μ hμ => ?_)
  refine hg_loop (α := hg_Mem × Nat × Nat × sp_C × Nat) (I := fun z => 1 ≤ z.2.1 ∧ 2 * (z.2.1 - 1) ≤ z.2.2.1 ∧ z.2.2.1 ≤ L ∧ mk_Fi τ_1 z.1 ∧ True ∧ mk_St z.1 (S.2.1 2) L (sp_item (S.2.1 2) L z.2.2.1 z.2.2.2.1 z.2.2.2.2).1 (sp_item (S.2.1 2) L z.2.2.1 z.2.2.2.1 z.2.2.2.2).2.1 ∧ ((sp_item (S.2.1 2) L z.2.2.1 z.2.2.2.1 z.2.2.2.2).1 = true → sp_RepM z.1 51 (sp_item (S.2.1 2) L z.2.2.1 z.2.2.2.1 z.2.2.2.2).2.2.1 (sp_item (S.2.1 2) L z.2.2.1 z.2.2.2.1 z.2.2.2.2).2.2.2) ∧ sp_lob (S.2.1 2) L 200 1 (sp_b (S.2.1 2) L 0) (S.1 0).1 (S.1 0).2 = sp_lob (S.2.1 2) L (201 - z.2.1) z.2.1 z.2.2.1 z.2.2.2.1 z.2.2.2.2) (P := fun z => hg_G E p l e { frames := 7, cells := 0, slots := 0, locals := 159 } s m args below meth c 2 (MQ below (hg_Qc E (hg_pi (fun r τ => mw_P σ (op_lobby S ) r τ))) args s 0 0 (hg_AW E)) z.1 24 [some (.ref (hg_ad E 50)), some (.int (nI z.2.1))] []) (fun z => 200 - z.2.1) ?_ (μ, 1, sp_b (S.2.1 2) L 0, (S.1 0).1, (S.1 0).2) ?_
  rotate_left
  · subst hμ
    try dsimp only
    exact ⟨Nat.le_refl _, Nat.zero_le _, sp_b_le _ (Nat.zero_le _), G15.tr F19, trivial, S19, R19, rfl⟩
  clear hμ μ
  rintro ⟨τ, i, b, D, k⟩ hI ih_24
  try dsimp only at hI ih_24 ⊢
  have hi1 := hI.1
  have hi2 := hI.2.1
  have hbL := hI.2.2.1
  have htτ := t1.fi hI.2.2.2.1
  have g18 := sp_item_ge (S.2.1 2) D k hbL
  refine hg_aload0 (pc' := 25) cx dX6_lobby_24 rfl ?_
  refine hg_bipush (pc' := 27) cx (nI 21) dX6_lobby_25 (by decide) rfl ?_
  refine cv_X6_184 (pc' := 30) cx (K_X6_passes l E _ (S.2.1 2) L hL htτ (sp_item (S.2.1 2) L b D k).1 (sp_item (S.2.1 2) L b D k).2.1 g18.2.1 hI.2.2.2.2.2.1 21 (by decide)) ⟨rfl, rfl, Nat.le_of_ble_eq_true rfl, Nat.le_of_ble_eq_true rfl⟩ (Nat.le_of_ble_eq_true rfl) dX6_lobby_27 rfl (fun r_27 τ_27 h_27 => ?_)
  skip
  refine hg_if_eq (pc' := 33) cx 43 dX6_lobby_30 (by decide) rfl (fun c_30 => ?_) (fun c_30 => ?_)
  ·
    obtain ⟨n27, -, e27⟩ := h_27.resolve_left (fun z => absurd (z.2.2.1.symm.trans c_30) (by decide))
    subst e27
    refine hg_aload0 (pc' := 44) cx dX6_lobby_43 rfl ?_
    refine hg_aload0 (pc' := 45) cx dX6_lobby_44 rfl ?_
    refine gf_X6_177 (pc' := 48) cx dX6_lobby_45 rfl ?_
    refine hg_if_ne (pc' := 51) cx 60 dX6_lobby_48 (by decide) rfl (fun c_48 => ?_) (fun c_48 => ?_)
    ·
      have s48 := hI.2.2.2.2.2.1.no c_48
      refine hg_iconst (pc' := 61) cx 1 dX6_lobby_60 (by decide) rfl ?_
      refine hg_goto cx 65 dX6_lobby_61 (by decide) ?_
      refine pf_X6_177 (pc' := 68) cx ⟨rfl, rfl⟩ dX6_lobby_65 rfl ?_
      refine hg_aload0 (pc' := 69) cx dX6_lobby_68 rfl ?_
      refine hg_iconst (pc' := 70) cx 0 dX6_lobby_69 (by decide) rfl ?_
      refine pf_X6_147 (pc' := 73) cx dX6_lobby_70 rfl ?_
      refine hg_aload0 (pc' := 74) cx dX6_lobby_73 rfl ?_
      refine gf_X6_177 (pc' := 77) cx dX6_lobby_74 rfl ?_
      rw [ck_get, if_neg (by decide), ck_get, if_pos rfl]
      refine hg_if_ne (pc' := 80) cx 82 dX6_lobby_77 (by decide) rfl (fun c_77 => ?_) (fun c_77 => ?_)
      ·
        refine hg_aload0 (pc' := 83) cx dX6_lobby_82 rfl ?_
        refine cv_X6_123 (pc' := 86) cx (K_X6_putsBack l E _ ) ⟨rfl, rfl, Nat.le_of_ble_eq_true rfl, Nat.le_of_ble_eq_true rfl⟩ (Nat.le_of_ble_eq_true rfl) dX6_lobby_83 rfl (fun τ_83 h_83 => ?_)
        skip
        refine hg_iconst (pc' := 87) cx (-1) dX6_lobby_86 (by decide) rfl ?_
        refine hg_aload0 (pc' := 88) cx dX6_lobby_87 rfl ?_
        refine gf_X6_154 (pc' := 91) cx dX6_lobby_88 rfl ?_
        refine hg_isub (pc' := 92) cx dX6_lobby_91 rfl ?_
        refine hg_iret cx dX6_lobby_92 ⟨_, rfl, ?_⟩
        have e0 : (sp_lobR S).1 = false ∧ (sp_lobR S).2.1 = (sp_item (S.2.1 2) L b D k).2.1 := by
          rw [eW, hI.2.2.2.2.2.2.2, show 201 - i = (200 - i) + 1 by omega, sp_lob, if_pos s48.1]
          exact ⟨rfl, rfl⟩
        unfold op_lobby
        rw [if_neg (by rw [e0.1]; exact fun z => Bool.noConfusion z), e0.2]
        have G := hI.2.2.2.1.tr (mk_putB τ 1).i
        have q := hc.lob (τ := τ_83) (S.1 0).1 (S.1 0).2 (h_83.1.1.trans (G.1.trans hT.1)) (fun j h1 h2 h3 h4 => by rw [h_83.1.2 j h2, ck_oth _ _ _ h1]; exact (G.2.1 j h1 h2).trans (hT.2.1 j h2 h3 h4)) (by rw [h_83.1.2 50 (by decide), ck_get, if_neg (by decide), G.2.2 3 (by decide), hT.2.1 50 (by decide) (by decide) (by decide)]) (by rw [h_83.1.2 50 (by decide), ck_get, if_pos rfl]) (hc.1.keep (fun x hx => by rw [h_83.2 x hx, ck_oth _ _ _ (by decide), G.2.1 53 (by decide) (by decide)]; exact hT.2.2 x hx))
        rw [sp_sC_self] at q
        refine ⟨?_, q⟩
        rw [h_83.1.2 50 (by decide), ck_get, if_neg (by decide), ck_get, if_neg (by decide), hI.2.2.2.2.2.1.at]
      ·
        exact absurd c_77 (by decide)
    ·
      obtain ⟨o48, A48⟩ := hI.2.2.2.2.2.1.ok c_48
      have hT24 := sp_T_24 (S.2.1 2) L (sp_item (S.2.1 2) L b D k).2.1
      refine hg_aload0 (pc' := 52) cx dX6_lobby_51 rfl ?_
      refine gf_X6_171 (pc' := 55) cx dX6_lobby_52 rfl ?_
      rw [A48.1]
      refine hg_bipush (pc' := 57) cx (nI 22) dX6_lobby_55 (by decide) rfl ?_
      refine hg_icmp_eq (pc' := 60) cx 64 dX6_lobby_57 (by decide) rfl (fun c_57 => ?_) (fun c_57 => ?_)
      ·
        have T22 : sp_T (S.2.1 2) L (sp_item (S.2.1 2) L b D k).2.1 = 22 := (nI_eq (by omega) (by decide)).mp c_57
        refine hg_iconst (pc' := 65) cx 0 dX6_lobby_64 (by decide) rfl ?_
        refine pf_X6_177 (pc' := 68) cx ⟨rfl, rfl⟩ dX6_lobby_65 rfl ?_
        refine hg_aload0 (pc' := 69) cx dX6_lobby_68 rfl ?_
        refine hg_iconst (pc' := 70) cx 0 dX6_lobby_69 (by decide) rfl ?_
        refine pf_X6_147 (pc' := 73) cx dX6_lobby_70 rfl ?_
        refine hg_aload0 (pc' := 74) cx dX6_lobby_73 rfl ?_
        refine gf_X6_177 (pc' := 77) cx dX6_lobby_74 rfl ?_
        rw [ck_get, if_neg (by decide), ck_get, if_pos rfl]
        refine hg_if_ne (pc' := 80) cx 82 dX6_lobby_77 (by decide) rfl (fun c_77 => ?_) (fun c_77 => ?_)
        ·
          exact absurd rfl c_77
        ·
          refine hg_iload1 (pc' := 81) cx dX6_lobby_80 rfl ?_
          refine hg_iret cx dX6_lobby_81 ⟨_, rfl, ?_⟩
          have e0 : sp_lobR S = (true, (sp_item (S.2.1 2) L b D k).2.1, i, (sp_item (S.2.1 2) L b D k).2.2.1, (sp_item (S.2.1 2) L b D k).2.2.2) := by
            rw [eW, hI.2.2.2.2.2.2.2, show 201 - i = (200 - i) + 1 by omega, sp_lob, if_neg (by rw [o48]; exact fun z => Bool.noConfusion z), if_pos T22]
          unfold op_lobby
          rw [e0, if_pos rfl]
          have G := hI.2.2.2.1.tr (mk_putB τ 0).i
          refine ⟨rfl, hc.lob _ _ (G.1.trans hT.1) (fun j h1 h2 h3 h4 => ?_) ?_ ?_ ?_⟩
          · rw [ck_oth _ _ _ h1]; exact (G.2.1 j h1 h2).trans (hT.2.1 j h2 h3 h4)
          · rw [ck_get, if_neg (by decide), G.2.2 3 (by decide), hT.2.1 50 (by decide) (by decide) (by decide)]
          · rw [ck_get, if_pos rfl]
          · exact (hI.2.2.2.2.2.2.1 o48).keep (fun x _ => by rw [ck_oth _ _ _ (by decide), ck_oth _ _ _ (by decide)])
      ·
        have T22 : ¬ sp_T (S.2.1 2) L (sp_item (S.2.1 2) L b D k).2.1 = 22 := fun z => c_57 (by rw [z])
        refine hg_iconst (pc' := 61) cx 1 dX6_lobby_60 (by decide) rfl ?_
        refine hg_goto cx 65 dX6_lobby_61 (by decide) ?_
        refine pf_X6_177 (pc' := 68) cx ⟨rfl, rfl⟩ dX6_lobby_65 rfl ?_
        refine hg_aload0 (pc' := 69) cx dX6_lobby_68 rfl ?_
        refine hg_iconst (pc' := 70) cx 0 dX6_lobby_69 (by decide) rfl ?_
        refine pf_X6_147 (pc' := 73) cx dX6_lobby_70 rfl ?_
        refine hg_aload0 (pc' := 74) cx dX6_lobby_73 rfl ?_
        refine gf_X6_177 (pc' := 77) cx dX6_lobby_74 rfl ?_
        rw [ck_get, if_neg (by decide), ck_get, if_pos rfl]
        refine hg_if_ne (pc' := 80) cx 82 dX6_lobby_77 (by decide) rfl (fun c_77 => ?_) (fun c_77 => ?_)
        ·
          refine hg_aload0 (pc' := 83) cx dX6_lobby_82 rfl ?_
          refine cv_X6_123 (pc' := 86) cx (K_X6_putsBack l E _ ) ⟨rfl, rfl, Nat.le_of_ble_eq_true rfl, Nat.le_of_ble_eq_true rfl⟩ (Nat.le_of_ble_eq_true rfl) dX6_lobby_83 rfl (fun τ_83 h_83 => ?_)
          skip
          refine hg_iconst (pc' := 87) cx (-1) dX6_lobby_86 (by decide) rfl ?_
          refine hg_aload0 (pc' := 88) cx dX6_lobby_87 rfl ?_
          refine gf_X6_154 (pc' := 91) cx dX6_lobby_88 rfl ?_
          refine hg_isub (pc' := 92) cx dX6_lobby_91 rfl ?_
          refine hg_iret cx dX6_lobby_92 ⟨_, rfl, ?_⟩
          have e0 : (sp_lobR S).1 = false ∧ (sp_lobR S).2.1 = (sp_item (S.2.1 2) L b D k).2.1 := by
            rw [eW, hI.2.2.2.2.2.2.2, show 201 - i = (200 - i) + 1 by omega, sp_lob, if_neg (by rw [o48]; exact fun z => Bool.noConfusion z), if_neg T22, if_neg (fun z => n27 ⟨o48, z⟩)]
            exact ⟨rfl, rfl⟩
          unfold op_lobby
          rw [if_neg (by rw [e0.1]; exact fun z => Bool.noConfusion z), e0.2]
          have G := hI.2.2.2.1.tr (mk_putB τ 1).i
          have q := hc.lob (τ := τ_83) (S.1 0).1 (S.1 0).2 (h_83.1.1.trans (G.1.trans hT.1)) (fun j h1 h2 h3 h4 => by rw [h_83.1.2 j h2, ck_oth _ _ _ h1]; exact (G.2.1 j h1 h2).trans (hT.2.1 j h2 h3 h4)) (by rw [h_83.1.2 50 (by decide), ck_get, if_neg (by decide), G.2.2 3 (by decide), hT.2.1 50 (by decide) (by decide) (by decide)]) (by rw [h_83.1.2 50 (by decide), ck_get, if_pos rfl]) (hc.1.keep (fun x hx => by rw [h_83.2 x hx, ck_oth _ _ _ (by decide), G.2.1 53 (by decide) (by decide)]; exact hT.2.2 x hx))
          rw [sp_sC_self] at q
          refine ⟨?_, q⟩
          rw [h_83.1.2 50 (by decide), ck_get, if_neg (by decide), ck_get, if_neg (by decide), hI.2.2.2.2.2.1.at]
        ·
          exact absurd c_77 (by decide)
  ·
    obtain ⟨o27, y27, -, S27, F27⟩ := h_27.resolve_right (fun z => c_30 z.2.1)
    refine hg_aload0 (pc' := 34) cx dX6_lobby_33 rfl ?_
    refine cv_X6_199 (pc' := 37) cx (K_X6_item l E _ (S.2.1 2) L hL (htτ.fr F27) (sp_nx (S.2.1 2) L (sp_item (S.2.1 2) L b D k).2.1) (sp_nx_le _ g18.2.1) S27 (sp_item (S.2.1 2) L b D k).2.2.1 (sp_item (S.2.1 2) L b D k).2.2.2 (mk_Rep (hI.2.2.2.2.2.2.1 o27) F27.b)) ⟨rfl, rfl, Nat.le_of_ble_eq_true rfl, Nat.le_of_ble_eq_true rfl⟩ (Nat.le_of_ble_eq_true rfl) dX6_lobby_34 rfl (fun τ_34 h_34 => ?_)
    obtain ⟨F34, S34, R34⟩ := h_34
    refine hg_iinc1p (pc' := 40) cx rfl dX6_lobby_37 rfl ?_
    refine hg_goto cx 24 dX6_lobby_40 (by decide) ?_
    rw [nI_1]
    refine hg_nm (fun μ hμ => ?_)
    refine ih_24 (μ, i + 1, sp_nx (S.2.1 2) L (sp_item (S.2.1 2) L b D k).2.1, (sp_item (S.2.1 2) L b D k).2.2.1, (sp_item (S.2.1 2) L b D k).2.2.2) ?_ ?_
    · subst hμ
      try dsimp only
      have q1 := g18.2.2 o27
      have T21 : sp_T (S.2.1 2) L (sp_item (S.2.1 2) L b D k).2.1 = 21 := y27
      have q2 : (sp_item (S.2.1 2) L b D k).2.1 < L := by
        rcases sp_TC (S.2.1 2) L (sp_item (S.2.1 2) L b D k).2.1 with ⟨h1, h2, h3⟩ | ⟨h1, h2, h3⟩ | ⟨h1, h2, h3⟩ | ⟨h1, h2, h3, h4⟩ | ⟨h1, h2, h3⟩
        · omega
        · exact h3
        · exact h3
        · exact h3
        · exact h3
      have q3 := sp_nx_gt (S.2.1 2) q2
      refine ⟨by omega, by omega, sp_nx_le _ g18.2.1, hI.2.2.2.1.tr (F27.b.i.tr F34), trivial, S34, R34, ?_⟩
      rw [hI.2.2.2.2.2.2.2, show 201 - i = (200 - i) + 1 by omega, sp_lob, if_neg (by rw [o27]; exact fun z => Bool.noConfusion z), if_neg (by rw [T21]; decide), if_pos T21, show 201 - (i + 1) = 200 - i by omega]
    · show 200 - (i + 1) < 200 - i
      omega
