theorem ck_put2 (σ : hg_Mem) (k : Nat) (v : Int32) : ck_Fr2 σ (hg_sI σ 2 k v) := ⟨rfl, fun _ _ h _ => ck_oth σ k v h⟩
theorem ck_putH (σ : hg_Mem) {j : Nat} (hj : j < 10) (k : Nat) (v : Int32) : ck_Fr2 σ (hg_sI σ (10 + 10 * 2 + j) k v) := ⟨rfl, fun _ _ _ h => ck_oth σ k v (by omega)⟩
theorem sp_Rep.addG {τ : hg_Mem} {C : sp_C} {n : Nat} {g g' : Nat → Int32} (h : sp_Rep τ 2 (sp_addC C n g) (n + 1)) (e : sp_Ag g g') : sp_Rep τ 2 (sp_addC C n g') (n + 1) := by
  refine ⟨h.1, h.2.1, h.2.2.1, fun x hx k hk => ?_⟩
  have q := h.2.2.2 x hx k hk
  rw [q]
  show va_up C.2 n g x k = va_up C.2 n g' x k
  by_cases z : x = n
  · rw [z, va_upE, va_upE]; exact e k hk
  · rw [va_upN _ _ z, va_upN _ _ z]
theorem sp_Rep.addH {τ : hg_Mem} {C : sp_C} {n : Nat} {g g' : Nat → Int32} (hn : n < 10) (h : sp_Rep τ 2 (sp_addC C n g) (n + 1)) (k : Nat) (v : Int32) (e : sp_Ag (va_up g k v) g') : sp_Rep (hg_sI τ (10 + 10 * 2 + n) k v) 2 (sp_addC C n g') (n + 1) := by
  have a : sp_Ag (τ.1 (10 + 10 * 2 + n)) g := fun y hy => by
    have q := h.2.2.2 n (Nat.lt_succ_self n) y hy
    rw [q]
    show va_up C.2 n g n y = g y
    rw [va_upE]
  have b := (h.setH (Nat.lt_succ_self n) (sp_Ag.up a k (rfl : v = v))).1
  refine sp_Rep.addG (g := va_up g k v) ?_ e
  refine ⟨b.1, b.2.1, b.2.2.1, fun x hx y hy => ?_⟩
  have q := b.2.2.2 x hx y hy
  refine Eq.trans q ?_
  show va_up (va_up C.2 n g) n (va_up g k v) x y = va_up C.2 n (va_up g k v) x y
  by_cases z : x = n
  · rw [z, va_upE, va_upE]
  · rw [va_upN _ _ z, va_upN _ _ z, va_upN _ _ z]
theorem sp_newF_1 (k v w f o : Int32) : sp_Ag (va_up (sp_newF k v f o) 1 w) (sp_newF k w f o) := by
  intro j hj
  rcases (show j = 0 ∨ j = 1 ∨ j = 2 ∨ j = 3 ∨ j = 4 ∨ j = 5 by omega) with rfl | rfl | rfl | rfl | rfl | rfl <;> rfl
theorem sp_newF_4 (k v f w o : Int32) : sp_Ag (va_up (sp_newF k v f o) 4 w) (sp_newF k v w o) := by
  intro j hj
  rcases (show j = 0 ∨ j = 1 ∨ j = 2 ∨ j = 3 ∨ j = 4 ∨ j = 5 by omega) with rfl | rfl | rfl | rfl | rfl | rfl <;> rfl
theorem sp_newF_5 (k v f o w : Int32) : sp_Ag (va_up (sp_newF k v f o) 5 w) (sp_newF k v f w) := by
  intro j hj
  rcases (show j = 0 ∨ j = 1 ∨ j = 2 ∨ j = 3 ∨ j = 4 ∨ j = 5 by omega) with rfl | rfl | rfl | rfl | rfl | rfl <;> rfl
theorem sp_m1 : ∀ b, b ≤ 120 → (-1 : Int32) - nI b < 0 := by decide +kernel
theorem sp_wB1 (x q : Int32) : sp_withBit x q 1 = x ||| ((1 : Int32) <<< (q &&& 31)) := by unfold sp_withBit; rw [if_pos rfl]
theorem sp_wB0 (x q : Int32) : sp_withBit x q 0 = x &&& (((1 : Int32) <<< (q &&& 31)) ^^^ (-1)) := by unfold sp_withBit; rw [if_neg (by decide)]
set_option maxHeartbeats 4000000 in
set_option maxRecDepth 100000 in
theorem K_X0_truthItem (l : Launch) (E : hg_Wd) (σ : hg_Mem) (f : Nat → Int32) (L : Nat) (hL : L ≤ 120) (ht : ck_T σ f L) (b : Nat) (hb : b ≤ L) (hA : ck_At σ f L b) (C : sp_C) (n : Nat) (hR : sp_Rep σ 2 C n) : hg_C l E yX0_truthItem cX0_truthItem 1 (some .boolean) { frames := 2, cells := 0, slots := 0, locals := 44 } [.ref (hg_ad E 9)] σ (hg_pi (fun r τ => ck_It σ τ r f L (sp_truthI f L b C n))) := by
  refine hg_intro (by decide) [some (.ref (hg_ad E 9))] rfl (Nat.le_of_ble_eq_true rfl) ?_
  intro p e s m args below meth c cx
  have cx : hg_Cx E p s m args meth c cX0_truthItem 1 RX0 (some .boolean) := cx
  refine hg_aload0 (pc' := 1) cx dX0_truthItem_0 rfl ?_
  refine hg_sipush (pc' := 4) cx 255 dX0_truthItem_1 (by decide) rfl ?_
  refine cv_X0_86 (pc' := 7) cx (K_X0_isNumberUpTo l E _ f L hL ht b hb hA _) ⟨rfl, rfl, Nat.le_of_ble_eq_true rfl, Nat.le_of_ble_eq_true rfl⟩ (Nat.le_of_ble_eq_true rfl) dX0_truthItem_4 rfl (fun r_4 τ_4 h_4 => ?_)
  obtain ⟨rfl, rfl⟩ := h_4
  refine hg_if_ne (pc' := 10) cx 12 dX0_truthItem_7 (by decide) rfl (fun c_7 => ?_) (fun c_7 => ?_)
  ·
    have hnum := hg_b1 c_7
    refine hg_aload0 (pc' := 13) cx dX0_truthItem_12 rfl ?_
    refine gf_X0_15 (pc' := 16) cx dX0_truthItem_13 rfl ?_
    refine hg_aload0 (pc' := 17) cx dX0_truthItem_16 rfl ?_
    refine gf_X0_89 (pc' := 20) cx dX0_truthItem_17 rfl ?_
    rw [hA.2.2.2 hnum.1]
    refine pf_X0_105 (pc' := 23) cx (by first | assumption | omega | decide) (by first | assumption | omega | decide) dX0_truthItem_20 rfl ?_
    refine hg_aload0 (pc' := 24) cx dX0_truthItem_23 rfl ?_
    refine cv_X0_23 (pc' := 27) cx (K_X0_next l E _ f L hL (ht.fr (ck_put2 _ _ _)) (sp_e f L b) (sp_e_le f hb) (by rw [ck_oth _ _ _ (by decide)]; exact hA.2.2.1)) ⟨rfl, rfl, Nat.le_of_ble_eq_true rfl, Nat.le_of_ble_eq_true rfl⟩ (Nat.le_of_ble_eq_true rfl) dX0_truthItem_24 rfl (fun τ_24 h_24 => ?_)
    skip
    refine hg_iconst (pc' := 28) cx 1 dX0_truthItem_27 (by decide) rfl ?_
    refine hg_zret cx rfl dX0_truthItem_28 ⟨_, rfl, ?_⟩
    unfold sp_truthI
    rw [if_pos hnum]
    exact ⟨(ck_put2 _ _ _).tr h_24.2.two, Or.inl ⟨rfl, rfl, h_24.1, ck_Rep (hR.set (k := 1) (by decide) _).1 h_24.2⟩⟩
  ·
    have hnum := hg_b0 c_7
    refine hg_iconst (pc' := 11) cx 0 dX0_truthItem_10 (by decide) rfl ?_
    refine hg_zret cx rfl dX0_truthItem_11 ⟨_, rfl, ?_⟩
    unfold sp_truthI
    rw [if_neg hnum]
    exact ⟨ck_Fr2.rf _, Or.inr ⟨rfl, rfl, hA.2.1⟩⟩
set_option maxHeartbeats 4000000 in
set_option maxRecDepth 100000 in
theorem K_X0_holdsItem (l : Launch) (E : hg_Wd) (σ : hg_Mem) (f : Nat → Int32) (L : Nat) (hL : L ≤ 120) (ht : ck_T σ f L) (b : Nat) (hb : b ≤ L) (hA : ck_At σ f L b) (C : sp_C) (n : Nat) (hR : sp_Rep σ 2 C n) : hg_C l E yX0_holdsItem cX0_holdsItem 2 (some .boolean) { frames := 7, cells := 0, slots := 0, locals := 150 } [.ref (hg_ad E 9)] σ (hg_pi (fun r τ => ck_It σ τ r f L (sp_holdsI f L b C n))) := by
  refine hg_intro (by decide) [some (.ref (hg_ad E 9)), none] rfl (Nat.le_of_ble_eq_true rfl) ?_
  intro p e s m args below meth c cx
  have cx : hg_Cx E p s m args meth c cX0_holdsItem 2 RX0 (some .boolean) := cx
  refine hg_aload0 (pc' := 1) cx dX0_holdsItem_0 rfl ?_
  refine hg_bipush (pc' := 3) cx 7 dX0_holdsItem_1 (by decide) rfl ?_
  refine cv_X0_86 (pc' := 6) cx (K_X0_isNumberUpTo l E _ f L hL ht b hb hA _) ⟨rfl, rfl, Nat.le_of_ble_eq_true rfl, Nat.le_of_ble_eq_true rfl⟩ (Nat.le_of_ble_eq_true rfl) dX0_holdsItem_3 rfl (fun r_3 τ_3 h_3 => ?_)
  obtain ⟨rfl, rfl⟩ := h_3
  refine hg_if_ne (pc' := 9) cx 11 dX0_holdsItem_6 (by decide) rfl (fun c_6 => ?_) (fun c_6 => ?_)
  ·
    have hnum := hg_b1 c_6
    refine hg_iconst (pc' := 12) cx 1 dX0_holdsItem_11 (by decide) rfl ?_
    refine hg_aload0 (pc' := 13) cx dX0_holdsItem_12 rfl ?_
    refine gf_X0_89 (pc' := 16) cx dX0_holdsItem_13 rfl ?_
    rw [hA.2.2.2 hnum.1]
    refine hg_ishl (pc' := 17) cx dX0_holdsItem_16 rfl ?_
    refine hg_istore1 (pc' := 18) cx rfl dX0_holdsItem_17 rfl ?_
    refine hg_aload0 (pc' := 19) cx dX0_holdsItem_18 rfl ?_
    refine cv_X0_23 (pc' := 22) cx (K_X0_next l E _ f L hL ht (sp_e f L b) (sp_e_le f hb) hA.2.2.1) ⟨rfl, rfl, Nat.le_of_ble_eq_true rfl, Nat.le_of_ble_eq_true rfl⟩ (Nat.le_of_ble_eq_true rfl) dX0_holdsItem_19 rfl (fun τ_19 h_19 => ?_)
    obtain ⟨A1, F1⟩ := h_19
    have t1 := ht.fr F1.two
    have R1 := ck_Rep hR F1
    refine hg_aload0 (pc' := 23) cx dX0_holdsItem_22 rfl ?_
    refine hg_ldcS (pc' := 25) (i := 11) (tx := "yes") cx rfl dX0_holdsItem_23 rfl ?_
    refine cv_X0_51 (pc' := 28) cx (K_X0_takes l E _ f L hL t1 (sp_nx f L b) (sp_nx_le f hb) A1 11 (by decide)) ⟨rfl, rfl, Nat.le_of_ble_eq_true rfl, Nat.le_of_ble_eq_true rfl⟩ (Nat.le_of_ble_eq_true rfl) dX0_holdsItem_25 rfl (fun r_25 τ_25 h_25 => ?_)
    skip
    refine hg_if_eq (pc' := 31) cx 46 dX0_holdsItem_28 (by decide) rfl (fun c_28 => ?_) (fun c_28 => ?_)
    ·
      obtain ⟨n25, -, e25⟩ := h_25.resolve_left (fun z => absurd (z.2.1.symm.trans c_28) (by decide))
      subst e25
      refine hg_aload0 (pc' := 47) cx dX0_holdsItem_46 rfl ?_
      refine hg_ldcS (pc' := 49) (i := 12) (tx := "no") cx rfl dX0_holdsItem_47 rfl ?_
      refine cv_X0_51 (pc' := 52) cx (K_X0_takes l E _ f L hL t1 (sp_nx f L b) (sp_nx_le f hb) A1 12 (by decide)) ⟨rfl, rfl, Nat.le_of_ble_eq_true rfl, Nat.le_of_ble_eq_true rfl⟩ (Nat.le_of_ble_eq_true rfl) dX0_holdsItem_49 rfl (fun r_49 τ_49 h_49 => ?_)
      skip
      refine hg_if_eq (pc' := 55) cx 72 dX0_holdsItem_52 (by decide) rfl (fun c_52 => ?_) (fun c_52 => ?_)
      ·
        obtain ⟨n49, -, e49⟩ := h_49.resolve_left (fun z => absurd (z.2.1.symm.trans c_52) (by decide))
        subst e49
        refine hg_iconst (pc' := 73) cx 0 dX0_holdsItem_72 (by decide) rfl ?_
        refine hg_zret cx rfl dX0_holdsItem_73 ⟨_, rfl, ?_⟩
        unfold sp_holdsI
        rw [if_pos hnum, if_neg (show ¬ sp_T f L (sp_nx f L b) = 11 from n25), if_neg (show ¬ sp_T f L (sp_nx f L b) = 12 from n49)]
        exact ⟨F1.two, Or.inr ⟨rfl, rfl, A1.2.1⟩⟩
      ·
        obtain ⟨y49, -, A49, F49⟩ := h_49.resolve_right (fun z => c_52 z.2.1)
        have R2 := ck_Rep R1 F49
        refine hg_aload0 (pc' := 56) cx dX0_holdsItem_55 rfl ?_
        refine gf_X0_15 (pc' := 59) cx dX0_holdsItem_56 rfl ?_
        refine hg_dup (pc' := 60) cx rfl dX0_holdsItem_59 rfl ?_
        refine gf_X0_109 (pc' := 63) cx (by first | assumption | omega | decide) (by first | assumption | omega | decide) dX0_holdsItem_60 rfl ?_
        rw [R2.2.2.1 2 (by decide)]
        refine hg_iload1 (pc' := 64) cx dX0_holdsItem_63 rfl ?_
        refine hg_iconst (pc' := 65) cx (-1) dX0_holdsItem_64 (by decide) rfl ?_
        refine hg_ixor (pc' := 66) cx dX0_holdsItem_65 rfl ?_
        refine hg_iand (pc' := 67) cx dX0_holdsItem_66 rfl ?_
        refine pf_X0_109 (pc' := 70) cx (by first | assumption | omega | decide) (by first | assumption | omega | decide) dX0_holdsItem_67 rfl ?_
        refine hg_iconst (pc' := 71) cx 1 dX0_holdsItem_70 (by decide) rfl ?_
        refine hg_zret cx rfl dX0_holdsItem_71 ⟨_, rfl, ?_⟩
        unfold sp_holdsI
        rw [if_pos hnum, if_neg (show ¬ sp_T f L (sp_nx f L b) = 11 from n25), if_pos (show sp_T f L (sp_nx f L b) = 12 from y49), sp_wB0]
        exact ⟨F1.two.tr (F49.two.tr (ck_put2 _ _ _)), Or.inl ⟨rfl, rfl, A49.oth (ck_oth _ _ _ (by decide)), (R2.set (k := 2) (by decide) _).1⟩⟩
    ·
      obtain ⟨y25, -, A25, F25⟩ := h_25.resolve_right (fun z => c_28 z.2.1)
      have R2 := ck_Rep R1 F25
      refine hg_aload0 (pc' := 32) cx dX0_holdsItem_31 rfl ?_
      refine gf_X0_15 (pc' := 35) cx dX0_holdsItem_32 rfl ?_
      refine hg_dup (pc' := 36) cx rfl dX0_holdsItem_35 rfl ?_
      refine gf_X0_109 (pc' := 39) cx (by first | assumption | omega | decide) (by first | assumption | omega | decide) dX0_holdsItem_36 rfl ?_
      rw [R2.2.2.1 2 (by decide)]
      refine hg_iload1 (pc' := 40) cx dX0_holdsItem_39 rfl ?_
      refine hg_ior (pc' := 41) cx dX0_holdsItem_40 rfl ?_
      refine pf_X0_109 (pc' := 44) cx (by first | assumption | omega | decide) (by first | assumption | omega | decide) dX0_holdsItem_41 rfl ?_
      refine hg_iconst (pc' := 45) cx 1 dX0_holdsItem_44 (by decide) rfl ?_
      refine hg_zret cx rfl dX0_holdsItem_45 ⟨_, rfl, ?_⟩
      unfold sp_holdsI
      rw [if_pos hnum, if_pos (show sp_T f L (sp_nx f L b) = 11 from y25), sp_wB1]
      exact ⟨F1.two.tr (F25.two.tr (ck_put2 _ _ _)), Or.inl ⟨rfl, rfl, A25.oth (ck_oth _ _ _ (by decide)), (R2.set (k := 2) (by decide) _).1⟩⟩
  ·
    have hnum := hg_b0 c_6
    refine hg_iconst (pc' := 10) cx 0 dX0_holdsItem_9 (by decide) rfl ?_
    refine hg_zret cx rfl dX0_holdsItem_10 ⟨_, rfl, ?_⟩
    unfold sp_holdsI
    rw [if_neg hnum]
    exact ⟨ck_Fr2.rf _, Or.inr ⟨rfl, rfl, hA.2.1⟩⟩
set_option maxHeartbeats 4000000 in
set_option maxRecDepth 100000 in
theorem K_X0_liftItem (l : Launch) (E : hg_Wd) (σ : hg_Mem) (f : Nat → Int32) (L : Nat) (hL : L ≤ 120) (ht : ck_T σ f L) (b : Nat) (hb : b ≤ L) (hA : ck_At σ f L b) (C : sp_C) (n : Nat) (hR : sp_Rep σ 2 C n) : hg_C l E yX0_liftItem cX0_liftItem 1 (some .boolean) { frames := 2, cells := 0, slots := 0, locals := 44 } [.ref (hg_ad E 9)] σ (hg_pi (fun r τ => ck_It σ τ r f L (sp_liftI f L b C n))) := by
  refine hg_intro (by decide) [some (.ref (hg_ad E 9))] rfl (Nat.le_of_ble_eq_true rfl) ?_
  intro p e s m args below meth c cx
  have cx : hg_Cx E p s m args meth c cX0_liftItem 1 RX0 (some .boolean) := cx
  have hn2 : σ.1 2 3 = nI n := (hR.2.2.1 3 (by decide)).trans hR.2.1
  have hn10 := hR.1
  refine hg_aload0 (pc' := 1) cx dX0_liftItem_0 rfl ?_
  refine hg_aload0 (pc' := 2) cx dX0_liftItem_1 rfl ?_
  refine gf_X0_15 (pc' := 5) cx dX0_liftItem_2 rfl ?_
  refine gf_X0_81 (pc' := 8) cx (by first | assumption | omega | decide) (by first | assumption | omega | decide) dX0_liftItem_5 rfl ?_
  rw [hn2]
  refine hg_iconst (pc' := 9) cx 1 dX0_liftItem_8 (by decide) rfl ?_
  refine hg_isub (pc' := 10) cx dX0_liftItem_9 rfl ?_
  refine cv_X0_86 (pc' := 13) cx (K_X0_isNumberUpTo l E _ f L hL ht b hb hA _) ⟨rfl, rfl, Nat.le_of_ble_eq_true rfl, Nat.le_of_ble_eq_true rfl⟩ (Nat.le_of_ble_eq_true rfl) dX0_liftItem_10 rfl (fun r_10 τ_10 h_10 => ?_)
  obtain ⟨rfl, rfl⟩ := h_10
  refine hg_if_ne (pc' := 16) cx 18 dX0_liftItem_13 (by decide) rfl (fun c_13 => ?_) (fun c_13 => ?_)
  ·
    have hnum := hg_b1 c_13
    obtain ⟨j, hjn, ej⟩ := sp_num_lt hn10 hnum
    refine hg_aload0 (pc' := 19) cx dX0_liftItem_18 rfl ?_
    refine gf_X0_15 (pc' := 22) cx dX0_liftItem_19 rfl ?_
    refine hg_aload0 (pc' := 23) cx dX0_liftItem_22 rfl ?_
    refine gf_X0_89 (pc' := 26) cx dX0_liftItem_23 rfl ?_
    rw [hA.2.2.2 hnum.1, ej]
    refine cv_X0_114 (pc' := 29) cx (by first | assumption | omega | decide) (by first | assumption | omega | decide) (K_X3_has l E _ 2 (by decide) (by decide) n hR.1 hn2 _) ⟨rfl, rfl, Nat.le_of_ble_eq_true rfl, Nat.le_of_ble_eq_true rfl⟩ (Nat.le_of_ble_eq_true rfl) dX0_liftItem_26 rfl (fun r_26 τ_26 h_26 => ?_)
    obtain ⟨rfl, rfl⟩ := h_26
    refine hg_if_eq (pc' := 32) cx 48 dX0_liftItem_29 (by decide) rfl (fun c_29 => ?_) (fun c_29 => ?_)
    ·
      exact absurd ⟨nI_pos' (by omega), nI_lt hjn (by omega)⟩ (hg_b0 c_29)
    ·
      refine hg_aload0 (pc' := 33) cx dX0_liftItem_32 rfl ?_
      refine gf_X0_15 (pc' := 36) cx dX0_liftItem_33 rfl ?_
      refine gf_X0_77 (pc' := 39) cx (by first | assumption | omega | decide) (by first | assumption | omega | decide) dX0_liftItem_36 rfl ?_
      refine hg_aload0 (pc' := 40) cx dX0_liftItem_39 rfl ?_
      refine gf_X0_89 (pc' := 43) cx dX0_liftItem_40 rfl ?_
      rw [hA.2.2.2 hnum.1, ej]
      refine hg_seat (t := 2) (j := j) cx (by decide) (by decide) (by omega) dX0_liftItem_43 rfl ?_
      refine hg_iconst (pc' := 45) cx 0 dX0_liftItem_44 (by decide) rfl ?_
      refine pf_X0_102 (pc' := 48) cx (by first | assumption | omega | decide) (by first | assumption | omega | decide) dX0_liftItem_45 rfl ?_
      refine hg_aload0 (pc' := 49) cx dX0_liftItem_48 rfl ?_
      refine cv_X0_23 (pc' := 52) cx (K_X0_next l E _ f L hL (ht.fr (ck_putH _ (by omega) _ _)) (sp_e f L b) (sp_e_le f hb) (by rw [ck_oth _ _ _ (by omega)]; exact hA.2.2.1)) ⟨rfl, rfl, Nat.le_of_ble_eq_true rfl, Nat.le_of_ble_eq_true rfl⟩ (Nat.le_of_ble_eq_true rfl) dX0_liftItem_49 rfl (fun τ_49 h_49 => ?_)
      skip
      refine hg_iconst (pc' := 53) cx 1 dX0_liftItem_52 (by decide) rfl ?_
      refine hg_zret cx rfl dX0_liftItem_53 ⟨_, rfl, ?_⟩
      unfold sp_liftI
      rw [if_pos hnum, ej, nI_clamp (by omega)]
      exact ⟨(ck_putH _ (by omega) _ _).tr h_49.2.two, Or.inl ⟨rfl, rfl, h_49.1, ck_Rep (hR.setH hjn (sp_Ag.up (fun y hy => hR.2.2.2 j hjn y hy) 5 (rfl : (0 : Int32) = 0))).1 h_49.2⟩⟩
  ·
    have hnum := hg_b0 c_13
    refine hg_iconst (pc' := 17) cx 0 dX0_liftItem_16 (by decide) rfl ?_
    refine hg_zret cx rfl dX0_liftItem_17 ⟨_, rfl, ?_⟩
    unfold sp_liftI
    rw [if_neg hnum]
    exact ⟨ck_Fr2.rf _, Or.inr ⟨rfl, rfl, hA.2.1⟩⟩
set_option maxHeartbeats 4000000 in
set_option maxRecDepth 100000 in
theorem K_X0_hatItem (l : Launch) (E : hg_Wd) (σ : hg_Mem) (f : Nat → Int32) (L : Nat) (hL : L ≤ 120) (ht : ck_T σ f L) (b : Nat) (hb : b ≤ L) (hA : ck_At σ f L b) (C : sp_C) (n : Nat) (hR : sp_Rep σ 2 C n) (k : Nat) : hg_C l E yX0_hatItem cX0_hatItem 3 (some .boolean) { frames := 7, cells := 0, slots := 0, locals := 150 } [.ref (hg_ad E 9), .int (nI k)] σ (hg_pi (fun r τ => ck_It σ τ r f L (sp_hatI f L k b C n))) := by
  refine hg_intro (by decide) [some (.ref (hg_ad E 9)), some (.int (nI k)), none] rfl (Nat.le_of_ble_eq_true rfl) ?_
  intro p e s m args below meth c cx
  have cx : hg_Cx E p s m args meth c cX0_hatItem 3 RX0 (some .boolean) := cx
  have hn2 : σ.1 2 3 = nI n := (hR.2.2.1 3 (by decide)).trans hR.2.1
  have hn10 := hR.1
  have hb1 := sp_nx_le f hb
  have hb3 := (sp_prh_ge f 6 255 0 hb1).2
  have hb4 := (sp_prh_ge f 7 99 50 hb3).2
  refine hg_aload0 (pc' := 1) cx dX0_hatItem_0 rfl ?_
  refine gf_X0_15 (pc' := 4) cx dX0_hatItem_1 rfl ?_
  refine cv_X0_68 (pc' := 7) cx (by first | assumption | omega | decide) (by first | assumption | omega | decide) (K_X3_isFull l E _ 2 (by decide) (by decide)) ⟨rfl, rfl, Nat.le_of_ble_eq_true rfl, Nat.le_of_ble_eq_true rfl⟩ (Nat.le_of_ble_eq_true rfl) dX0_hatItem_4 rfl (fun r_4 τ_4 h_4 => ?_)
  obtain ⟨rfl, rfl⟩ := h_4
  refine hg_if_eq (pc' := 10) cx 12 dX0_hatItem_7 (by decide) rfl (fun c_7 => ?_) (fun c_7 => ?_)
  ·
    have hlt : n < 10 := by
      rcases Nat.lt_or_ge n 10 with q | q
      · exact q
      · exact absurd (by rw [hn2]; exact nI_le q (by omega)) (hg_b0 c_7)
    refine hg_aload0 (pc' := 13) cx dX0_hatItem_12 rfl ?_
    refine gf_X0_15 (pc' := 16) cx dX0_hatItem_13 rfl ?_
    refine hg_iload1 (pc' := 17) cx dX0_hatItem_16 rfl ?_
    refine hg_iconst (pc' := 18) cx 0 dX0_hatItem_17 (by decide) rfl ?_
    refine cv_X0_73 (pc' := 21) cx (by first | assumption | omega | decide) (by first | assumption | omega | decide) (K_X3_add l E _ 2 (by decide) (by decide) n hlt hn2 (nI k) 0) ⟨rfl, rfl, Nat.le_of_ble_eq_true rfl, Nat.le_of_ble_eq_true rfl⟩ (Nat.le_of_ble_eq_true rfl) dX0_hatItem_18 rfl (fun τ_18 h_18 => ?_)
    have hF0 := (hR.add hlt (nI k) 0).2
    have R1 : sp_Rep τ_18 2 (sp_addC C n (sp_newF (nI k) 0 50 1)) (n + 1) := by rw [h_18]; exact (hR.add hlt (nI k) 0).1
    rw [← h_18] at hF0
    have F1 : ck_Fr2 σ τ_18 := ⟨hF0.1, fun i _ h2 h3 => hF0.2 i h2 (by omega)⟩
    have A1 := hA.oth (hF0.2 9 (by decide) (by decide))
    have t1 := ht.fr F1
    have hn3 : τ_18.1 2 3 = nI (n + 1) := (R1.2.2.1 3 (by decide)).trans R1.2.1
    refine hg_aload0 (pc' := 22) cx dX0_hatItem_21 rfl ?_
    refine gf_X0_15 (pc' := 25) cx dX0_hatItem_22 rfl ?_
    refine gf_X0_77 (pc' := 28) cx (by first | assumption | omega | decide) (by first | assumption | omega | decide) dX0_hatItem_25 rfl ?_
    refine hg_aload0 (pc' := 29) cx dX0_hatItem_28 rfl ?_
    refine gf_X0_15 (pc' := 32) cx dX0_hatItem_29 rfl ?_
    refine gf_X0_81 (pc' := 35) cx (by first | assumption | omega | decide) (by first | assumption | omega | decide) dX0_hatItem_32 rfl ?_
    rw [hn3]
    refine hg_iconst (pc' := 36) cx 1 dX0_hatItem_35 (by decide) rfl ?_
    refine hg_isub (pc' := 37) cx dX0_hatItem_36 rfl ?_
    rw [nI_pred]
    refine hg_seat (t := 2) (j := n) cx (by decide) (by decide) (by omega) dX0_hatItem_37 rfl ?_
    refine hg_astore2 (pc' := 39) cx rfl dX0_hatItem_38 rfl ?_
    refine hg_aload0 (pc' := 40) cx dX0_hatItem_39 rfl ?_
    refine cv_X0_23 (pc' := 43) cx (K_X0_next l E _ f L hL t1 (sp_e f L b) (sp_e_le f hb) A1.2.2.1) ⟨rfl, rfl, Nat.le_of_ble_eq_true rfl, Nat.le_of_ble_eq_true rfl⟩ (Nat.le_of_ble_eq_true rfl) dX0_hatItem_40 rfl (fun τ_40 h_40 => ?_)
    obtain ⟨A2, F2⟩ := h_40
    have t2 := t1.fr F2.two
    have R2 := ck_Rep R1 F2
    refine hg_aload0 (pc' := 44) cx dX0_hatItem_43 rfl ?_
    refine hg_ldcS (pc' := 46) (i := 6) (tx := "view") cx rfl dX0_hatItem_44 rfl ?_
    refine cv_X0_51 (pc' := 49) cx (K_X0_takes l E _ f L hL t2 (sp_nx f L b) hb1 A2 6 (by decide)) ⟨rfl, rfl, Nat.le_of_ble_eq_true rfl, Nat.le_of_ble_eq_true rfl⟩ (Nat.le_of_ble_eq_true rfl) dX0_hatItem_46 rfl (fun r_46 τ_46 h_46 => ?_)
    skip
    refine hg_if_eq (pc' := 52) cx 76 dX0_hatItem_49 (by decide) rfl (fun c_49 => ?_) (fun c_49 => ?_)
    ·
      obtain ⟨n46, -, e46⟩ := h_46.resolve_left (fun z => absurd (z.2.1.symm.trans c_49) (by decide))
      subst e46
      have eP : (sp_prh f L 6 255 0 (sp_nx f L b)) = (true, sp_nx f L b, 0) := by unfold sp_prh; rw [if_neg (show ¬ sp_T f L (sp_nx f L b) = 6 from n46)]
      have A3 : ck_At τ_40 f L (sp_prh f L 6 255 0 (sp_nx f L b)).2.1 := by rw [eP]; exact A2
      have R3 : sp_Rep τ_40 2 (sp_addC C n (sp_newF (nI k) (sp_prh f L 6 255 0 (sp_nx f L b)).2.2 50 1)) (n + 1) := by rw [eP]; exact R2
      have F3 : ck_Fr2 σ τ_40 := F1.tr F2.two
      have ok1 : ¬ (sp_prh f L 6 255 0 (sp_nx f L b)).1 = false := by rw [eP]; exact fun z => Bool.noConfusion z
      have t3 := ht.fr F3
      refine hg_aload0 (pc' := 77) cx dX0_hatItem_76 rfl ?_
      refine hg_ldcS (pc' := 79) (i := 7) (tx := "faith") cx rfl dX0_hatItem_77 rfl ?_
      refine cv_X0_51 (pc' := 82) cx (K_X0_takes l E _ f L hL t3 (sp_prh f L 6 255 0 (sp_nx f L b)).2.1 hb3 A3 7 (by decide)) ⟨rfl, rfl, Nat.le_of_ble_eq_true rfl, Nat.le_of_ble_eq_true rfl⟩ (Nat.le_of_ble_eq_true rfl) dX0_hatItem_79 rfl (fun r_79 τ_79 h_79 => ?_)
      skip
      refine hg_if_eq (pc' := 85) cx 108 dX0_hatItem_82 (by decide) rfl (fun c_82 => ?_) (fun c_82 => ?_)
      ·
        obtain ⟨n79, -, e79⟩ := h_79.resolve_left (fun z => absurd (z.2.1.symm.trans c_82) (by decide))
        subst e79
        have eQ : (sp_prh f L 7 99 50 (sp_prh f L 6 255 0 (sp_nx f L b)).2.1) = (true, (sp_prh f L 6 255 0 (sp_nx f L b)).2.1, 50) := by rw [sp_prh, if_neg (show ¬ sp_T f L (sp_prh f L 6 255 0 (sp_nx f L b)).2.1 = 7 from n79)]
        have A4 := A3
        rw [show (sp_prh f L 6 255 0 (sp_nx f L b)).2.1 = (sp_prh f L 7 99 50 (sp_prh f L 6 255 0 (sp_nx f L b)).2.1).2.1 from by rw [eQ]] at A4
        have R4 := R3
        rw [show (50 : Int32) = (sp_prh f L 7 99 50 (sp_prh f L 6 255 0 (sp_nx f L b)).2.1).2.2 from by rw [eQ]] at R4
        have F4 := F3
        have ok2 : ¬ (sp_prh f L 7 99 50 (sp_prh f L 6 255 0 (sp_nx f L b)).2.1).1 = false := by rw [eQ]; exact fun z => Bool.noConfusion z
        have t4 := t3
        refine hg_aload0 (pc' := 109) cx dX0_hatItem_108 rfl ?_
        refine hg_ldcS (pc' := 111) (i := 8) (tx := "off") cx rfl dX0_hatItem_109 rfl ?_
        refine cv_X0_51 (pc' := 114) cx (K_X0_takes l E _ f L hL t4 (sp_prh f L 7 99 50 (sp_prh f L 6 255 0 (sp_nx f L b)).2.1).2.1 hb4 A4 8 (by decide)) ⟨rfl, rfl, Nat.le_of_ble_eq_true rfl, Nat.le_of_ble_eq_true rfl⟩ (Nat.le_of_ble_eq_true rfl) dX0_hatItem_111 rfl (fun r_111 τ_111 h_111 => ?_)
        skip
        refine hg_if_eq (pc' := 117) cx 122 dX0_hatItem_114 (by decide) rfl (fun c_114 => ?_) (fun c_114 => ?_)
        ·
          obtain ⟨n111, -, e111⟩ := h_111.resolve_left (fun z => absurd (z.2.1.symm.trans c_114) (by decide))
          subst e111
          refine hg_iconst (pc' := 123) cx 1 dX0_hatItem_122 (by decide) rfl ?_
          refine hg_zret cx rfl dX0_hatItem_123 ⟨_, rfl, ?_⟩
          unfold sp_hatI
          rw [if_neg (show ¬ 10 ≤ n by omega), if_neg ok1, if_neg ok2, if_neg (show ¬ sp_T f L (sp_prh f L 7 99 50 (sp_prh f L 6 255 0 (sp_nx f L b)).2.1).2.1 = 8 from n111)]
          exact ⟨F4, Or.inl ⟨rfl, rfl, A4, R4⟩⟩
        ·
          obtain ⟨y111, -, A111, F111⟩ := h_111.resolve_right (fun z => c_114 z.2.1)
          refine hg_aload2 (pc' := 118) cx dX0_hatItem_117 rfl ?_
          refine hg_iconst (pc' := 119) cx 0 dX0_hatItem_118 (by decide) rfl ?_
          refine pf_X0_102 (pc' := 122) cx (by first | assumption | omega | decide) (by first | assumption | omega | decide) dX0_hatItem_119 rfl ?_
          refine hg_iconst (pc' := 123) cx 1 dX0_hatItem_122 (by decide) rfl ?_
          refine hg_zret cx rfl dX0_hatItem_123 ⟨_, rfl, ?_⟩
          unfold sp_hatI
          rw [if_neg (show ¬ 10 ≤ n by omega), if_neg ok1, if_neg ok2, if_pos (show sp_T f L (sp_prh f L 7 99 50 (sp_prh f L 6 255 0 (sp_nx f L b)).2.1).2.1 = 8 from y111)]
          exact ⟨F4.tr (F111.two.tr (ck_putH _ hlt _ _)), Or.inl ⟨rfl, rfl, A111.oth (ck_oth _ _ _ (by omega)), sp_Rep.addH hlt (ck_Rep R4 F111) 5 _ (sp_newF_5 _ _ _ _ _)⟩⟩
      ·
        obtain ⟨y79, -, A79, F79⟩ := h_79.resolve_right (fun z => c_82 z.2.1)
        refine hg_aload0 (pc' := 86) cx dX0_hatItem_85 rfl ?_
        refine hg_bipush (pc' := 88) cx 99 dX0_hatItem_86 (by decide) rfl ?_
        refine cv_X0_86 (pc' := 91) cx (K_X0_isNumberUpTo l E _ f L hL (t3.fr F79.two) (sp_nx f L (sp_prh f L 6 255 0 (sp_nx f L b)).2.1) (sp_nx_le f hb3) A79 _) ⟨rfl, rfl, Nat.le_of_ble_eq_true rfl, Nat.le_of_ble_eq_true rfl⟩ (Nat.le_of_ble_eq_true rfl) dX0_hatItem_88 rfl (fun r_88 τ_88 h_88 => ?_)
        obtain ⟨rfl, rfl⟩ := h_88
        refine hg_if_ne (pc' := 94) cx 96 dX0_hatItem_91 (by decide) rfl (fun c_91 => ?_) (fun c_91 => ?_)
        ·
          have hnum2 := hg_b1 c_91
          refine hg_aload2 (pc' := 97) cx dX0_hatItem_96 rfl ?_
          refine hg_aload0 (pc' := 98) cx dX0_hatItem_97 rfl ?_
          refine gf_X0_89 (pc' := 101) cx dX0_hatItem_98 rfl ?_
          rw [A79.2.2.2 hnum2.1]
          refine pf_X0_98 (pc' := 104) cx (by first | assumption | omega | decide) (by first | assumption | omega | decide) dX0_hatItem_101 rfl ?_
          refine hg_aload0 (pc' := 105) cx dX0_hatItem_104 rfl ?_
          refine cv_X0_23 (pc' := 108) cx (K_X0_next l E _ f L hL ((t3.fr F79.two).fr (ck_putH _ hlt _ _)) (sp_e f L (sp_nx f L (sp_prh f L 6 255 0 (sp_nx f L b)).2.1)) (sp_e_le f (sp_nx_le f hb3)) (by rw [ck_oth _ _ _ (by omega)]; exact A79.2.2.1)) ⟨rfl, rfl, Nat.le_of_ble_eq_true rfl, Nat.le_of_ble_eq_true rfl⟩ (Nat.le_of_ble_eq_true rfl) dX0_hatItem_105 rfl (fun τ_105 h_105 => ?_)
          obtain ⟨A105, F105⟩ := h_105
          have eQ : (sp_prh f L 7 99 50 (sp_prh f L 6 255 0 (sp_nx f L b)).2.1) = (true, sp_nx f L (sp_nx f L (sp_prh f L 6 255 0 (sp_nx f L b)).2.1), sp_v f L (sp_nx f L (sp_prh f L 6 255 0 (sp_nx f L b)).2.1)) := by rw [sp_prh, if_pos (show sp_T f L (sp_prh f L 6 255 0 (sp_nx f L b)).2.1 = 7 from y79), if_pos hnum2]
          have A4 : ck_At τ_105 f L (sp_prh f L 7 99 50 (sp_prh f L 6 255 0 (sp_nx f L b)).2.1).2.1 := by rw [eQ]; exact A105
          have R4 : sp_Rep τ_105 2 (sp_addC C n (sp_newF (nI k) (sp_prh f L 6 255 0 (sp_nx f L b)).2.2 (sp_prh f L 7 99 50 (sp_prh f L 6 255 0 (sp_nx f L b)).2.1).2.2 1)) (n + 1) := by rw [eQ]; exact ck_Rep (sp_Rep.addH hlt (ck_Rep R3 F79) 4 _ (sp_newF_4 _ _ _ _ _)) F105
          have F4 : ck_Fr2 σ τ_105 := F3.tr (F79.two.tr ((ck_putH _ hlt _ _).tr F105.two))
          have ok2 : ¬ (sp_prh f L 7 99 50 (sp_prh f L 6 255 0 (sp_nx f L b)).2.1).1 = false := by rw [eQ]; exact fun z => Bool.noConfusion z
          have t4 := ht.fr F4
          refine hg_aload0 (pc' := 109) cx dX0_hatItem_108 rfl ?_
          refine hg_ldcS (pc' := 111) (i := 8) (tx := "off") cx rfl dX0_hatItem_109 rfl ?_
          refine cv_X0_51 (pc' := 114) cx (K_X0_takes l E _ f L hL t4 (sp_prh f L 7 99 50 (sp_prh f L 6 255 0 (sp_nx f L b)).2.1).2.1 hb4 A4 8 (by decide)) ⟨rfl, rfl, Nat.le_of_ble_eq_true rfl, Nat.le_of_ble_eq_true rfl⟩ (Nat.le_of_ble_eq_true rfl) dX0_hatItem_111 rfl (fun r_111 τ_111 h_111 => ?_)
          skip
          refine hg_if_eq (pc' := 117) cx 122 dX0_hatItem_114 (by decide) rfl (fun c_114 => ?_) (fun c_114 => ?_)
          ·
            obtain ⟨n111, -, e111⟩ := h_111.resolve_left (fun z => absurd (z.2.1.symm.trans c_114) (by decide))
            subst e111
            refine hg_iconst (pc' := 123) cx 1 dX0_hatItem_122 (by decide) rfl ?_
            refine hg_zret cx rfl dX0_hatItem_123 ⟨_, rfl, ?_⟩
            unfold sp_hatI
            rw [if_neg (show ¬ 10 ≤ n by omega), if_neg ok1, if_neg ok2, if_neg (show ¬ sp_T f L (sp_prh f L 7 99 50 (sp_prh f L 6 255 0 (sp_nx f L b)).2.1).2.1 = 8 from n111)]
            exact ⟨F4, Or.inl ⟨rfl, rfl, A4, R4⟩⟩
          ·
            obtain ⟨y111, -, A111, F111⟩ := h_111.resolve_right (fun z => c_114 z.2.1)
            refine hg_aload2 (pc' := 118) cx dX0_hatItem_117 rfl ?_
            refine hg_iconst (pc' := 119) cx 0 dX0_hatItem_118 (by decide) rfl ?_
            refine pf_X0_102 (pc' := 122) cx (by first | assumption | omega | decide) (by first | assumption | omega | decide) dX0_hatItem_119 rfl ?_
            refine hg_iconst (pc' := 123) cx 1 dX0_hatItem_122 (by decide) rfl ?_
            refine hg_zret cx rfl dX0_hatItem_123 ⟨_, rfl, ?_⟩
            unfold sp_hatI
            rw [if_neg (show ¬ 10 ≤ n by omega), if_neg ok1, if_neg ok2, if_pos (show sp_T f L (sp_prh f L 7 99 50 (sp_prh f L 6 255 0 (sp_nx f L b)).2.1).2.1 = 8 from y111)]
            exact ⟨F4.tr (F111.two.tr (ck_putH _ hlt _ _)), Or.inl ⟨rfl, rfl, A111.oth (ck_oth _ _ _ (by omega)), sp_Rep.addH hlt (ck_Rep R4 F111) 5 _ (sp_newF_5 _ _ _ _ _)⟩⟩
        ·
          have hnum2 := hg_b0 c_91
          have eQ : (sp_prh f L 7 99 50 (sp_prh f L 6 255 0 (sp_nx f L b)).2.1) = (false, sp_nx f L (sp_prh f L 6 255 0 (sp_nx f L b)).2.1, 0) := by rw [sp_prh, if_pos (show sp_T f L (sp_prh f L 6 255 0 (sp_nx f L b)).2.1 = 7 from y79), if_neg hnum2]
          refine hg_iconst (pc' := 95) cx 0 dX0_hatItem_94 (by decide) rfl ?_
          refine hg_zret cx rfl dX0_hatItem_95 ⟨_, rfl, ?_⟩
          unfold sp_hatI
          rw [if_neg (show ¬ 10 ≤ n by omega), if_neg ok1, if_pos (by rw [eQ]), eQ]
          exact ⟨F3.tr F79.two, Or.inr ⟨rfl, rfl, A79.2.1⟩⟩
    ·
      obtain ⟨y46, -, A46, F46⟩ := h_46.resolve_right (fun z => c_49 z.2.1)
      refine hg_aload0 (pc' := 53) cx dX0_hatItem_52 rfl ?_
      refine hg_sipush (pc' := 56) cx 255 dX0_hatItem_53 (by decide) rfl ?_
      refine cv_X0_86 (pc' := 59) cx (K_X0_isNumberUpTo l E _ f L hL (t2.fr F46.two) (sp_nx f L (sp_nx f L b)) (sp_nx_le f hb1) A46 _) ⟨rfl, rfl, Nat.le_of_ble_eq_true rfl, Nat.le_of_ble_eq_true rfl⟩ (Nat.le_of_ble_eq_true rfl) dX0_hatItem_56 rfl (fun r_56 τ_56 h_56 => ?_)
      obtain ⟨rfl, rfl⟩ := h_56
      refine hg_if_ne (pc' := 62) cx 64 dX0_hatItem_59 (by decide) rfl (fun c_59 => ?_) (fun c_59 => ?_)
      ·
        have hnum := hg_b1 c_59
        refine hg_aload2 (pc' := 65) cx dX0_hatItem_64 rfl ?_
        refine hg_aload0 (pc' := 66) cx dX0_hatItem_65 rfl ?_
        refine gf_X0_89 (pc' := 69) cx dX0_hatItem_66 rfl ?_
        rw [A46.2.2.2 hnum.1]
        refine pf_X0_92 (pc' := 72) cx (by first | assumption | omega | decide) (by first | assumption | omega | decide) dX0_hatItem_69 rfl ?_
        refine hg_aload0 (pc' := 73) cx dX0_hatItem_72 rfl ?_
        refine cv_X0_23 (pc' := 76) cx (K_X0_next l E _ f L hL ((t2.fr F46.two).fr (ck_putH _ hlt _ _)) (sp_e f L (sp_nx f L (sp_nx f L b))) (sp_e_le f (sp_nx_le f hb1)) (by rw [ck_oth _ _ _ (by omega)]; exact A46.2.2.1)) ⟨rfl, rfl, Nat.le_of_ble_eq_true rfl, Nat.le_of_ble_eq_true rfl⟩ (Nat.le_of_ble_eq_true rfl) dX0_hatItem_73 rfl (fun τ_73 h_73 => ?_)
        obtain ⟨A73, F73⟩ := h_73
        have eP : (sp_prh f L 6 255 0 (sp_nx f L b)) = (true, sp_nx f L (sp_nx f L (sp_nx f L b)), sp_v f L (sp_nx f L (sp_nx f L b))) := by unfold sp_prh; rw [if_pos (show sp_T f L (sp_nx f L b) = 6 from y46), if_pos hnum]
        have A3 : ck_At τ_73 f L (sp_prh f L 6 255 0 (sp_nx f L b)).2.1 := by rw [eP]; exact A73
        have R3 : sp_Rep τ_73 2 (sp_addC C n (sp_newF (nI k) (sp_prh f L 6 255 0 (sp_nx f L b)).2.2 50 1)) (n + 1) := by rw [eP]; exact ck_Rep (sp_Rep.addH hlt (ck_Rep R2 F46) 1 _ (sp_newF_1 _ _ _ _ _)) F73
        have F3 : ck_Fr2 σ τ_73 := F1.tr (F2.two.tr (F46.two.tr ((ck_putH _ hlt _ _).tr F73.two)))
        have ok1 : ¬ (sp_prh f L 6 255 0 (sp_nx f L b)).1 = false := by rw [eP]; exact fun z => Bool.noConfusion z
        have t3 := ht.fr F3
        refine hg_aload0 (pc' := 77) cx dX0_hatItem_76 rfl ?_
        refine hg_ldcS (pc' := 79) (i := 7) (tx := "faith") cx rfl dX0_hatItem_77 rfl ?_
        refine cv_X0_51 (pc' := 82) cx (K_X0_takes l E _ f L hL t3 (sp_prh f L 6 255 0 (sp_nx f L b)).2.1 hb3 A3 7 (by decide)) ⟨rfl, rfl, Nat.le_of_ble_eq_true rfl, Nat.le_of_ble_eq_true rfl⟩ (Nat.le_of_ble_eq_true rfl) dX0_hatItem_79 rfl (fun r_79 τ_79 h_79 => ?_)
        skip
        refine hg_if_eq (pc' := 85) cx 108 dX0_hatItem_82 (by decide) rfl (fun c_82 => ?_) (fun c_82 => ?_)
        ·
          obtain ⟨n79, -, e79⟩ := h_79.resolve_left (fun z => absurd (z.2.1.symm.trans c_82) (by decide))
          subst e79
          have eQ : (sp_prh f L 7 99 50 (sp_prh f L 6 255 0 (sp_nx f L b)).2.1) = (true, (sp_prh f L 6 255 0 (sp_nx f L b)).2.1, 50) := by rw [sp_prh, if_neg (show ¬ sp_T f L (sp_prh f L 6 255 0 (sp_nx f L b)).2.1 = 7 from n79)]
          have A4 := A3
          rw [show (sp_prh f L 6 255 0 (sp_nx f L b)).2.1 = (sp_prh f L 7 99 50 (sp_prh f L 6 255 0 (sp_nx f L b)).2.1).2.1 from by rw [eQ]] at A4
          have R4 := R3
          rw [show (50 : Int32) = (sp_prh f L 7 99 50 (sp_prh f L 6 255 0 (sp_nx f L b)).2.1).2.2 from by rw [eQ]] at R4
          have F4 := F3
          have ok2 : ¬ (sp_prh f L 7 99 50 (sp_prh f L 6 255 0 (sp_nx f L b)).2.1).1 = false := by rw [eQ]; exact fun z => Bool.noConfusion z
          have t4 := t3
          refine hg_aload0 (pc' := 109) cx dX0_hatItem_108 rfl ?_
          refine hg_ldcS (pc' := 111) (i := 8) (tx := "off") cx rfl dX0_hatItem_109 rfl ?_
          refine cv_X0_51 (pc' := 114) cx (K_X0_takes l E _ f L hL t4 (sp_prh f L 7 99 50 (sp_prh f L 6 255 0 (sp_nx f L b)).2.1).2.1 hb4 A4 8 (by decide)) ⟨rfl, rfl, Nat.le_of_ble_eq_true rfl, Nat.le_of_ble_eq_true rfl⟩ (Nat.le_of_ble_eq_true rfl) dX0_hatItem_111 rfl (fun r_111 τ_111 h_111 => ?_)
          skip
          refine hg_if_eq (pc' := 117) cx 122 dX0_hatItem_114 (by decide) rfl (fun c_114 => ?_) (fun c_114 => ?_)
          ·
            obtain ⟨n111, -, e111⟩ := h_111.resolve_left (fun z => absurd (z.2.1.symm.trans c_114) (by decide))
            subst e111
            refine hg_iconst (pc' := 123) cx 1 dX0_hatItem_122 (by decide) rfl ?_
            refine hg_zret cx rfl dX0_hatItem_123 ⟨_, rfl, ?_⟩
            unfold sp_hatI
            rw [if_neg (show ¬ 10 ≤ n by omega), if_neg ok1, if_neg ok2, if_neg (show ¬ sp_T f L (sp_prh f L 7 99 50 (sp_prh f L 6 255 0 (sp_nx f L b)).2.1).2.1 = 8 from n111)]
            exact ⟨F4, Or.inl ⟨rfl, rfl, A4, R4⟩⟩
          ·
            obtain ⟨y111, -, A111, F111⟩ := h_111.resolve_right (fun z => c_114 z.2.1)
            refine hg_aload2 (pc' := 118) cx dX0_hatItem_117 rfl ?_
            refine hg_iconst (pc' := 119) cx 0 dX0_hatItem_118 (by decide) rfl ?_
            refine pf_X0_102 (pc' := 122) cx (by first | assumption | omega | decide) (by first | assumption | omega | decide) dX0_hatItem_119 rfl ?_
            refine hg_iconst (pc' := 123) cx 1 dX0_hatItem_122 (by decide) rfl ?_
            refine hg_zret cx rfl dX0_hatItem_123 ⟨_, rfl, ?_⟩
            unfold sp_hatI
            rw [if_neg (show ¬ 10 ≤ n by omega), if_neg ok1, if_neg ok2, if_pos (show sp_T f L (sp_prh f L 7 99 50 (sp_prh f L 6 255 0 (sp_nx f L b)).2.1).2.1 = 8 from y111)]
            exact ⟨F4.tr (F111.two.tr (ck_putH _ hlt _ _)), Or.inl ⟨rfl, rfl, A111.oth (ck_oth _ _ _ (by omega)), sp_Rep.addH hlt (ck_Rep R4 F111) 5 _ (sp_newF_5 _ _ _ _ _)⟩⟩
        ·
          obtain ⟨y79, -, A79, F79⟩ := h_79.resolve_right (fun z => c_82 z.2.1)
          refine hg_aload0 (pc' := 86) cx dX0_hatItem_85 rfl ?_
          refine hg_bipush (pc' := 88) cx 99 dX0_hatItem_86 (by decide) rfl ?_
          refine cv_X0_86 (pc' := 91) cx (K_X0_isNumberUpTo l E _ f L hL (t3.fr F79.two) (sp_nx f L (sp_prh f L 6 255 0 (sp_nx f L b)).2.1) (sp_nx_le f hb3) A79 _) ⟨rfl, rfl, Nat.le_of_ble_eq_true rfl, Nat.le_of_ble_eq_true rfl⟩ (Nat.le_of_ble_eq_true rfl) dX0_hatItem_88 rfl (fun r_88 τ_88 h_88 => ?_)
          obtain ⟨rfl, rfl⟩ := h_88
          refine hg_if_ne (pc' := 94) cx 96 dX0_hatItem_91 (by decide) rfl (fun c_91 => ?_) (fun c_91 => ?_)
          ·
            have hnum2 := hg_b1 c_91
            refine hg_aload2 (pc' := 97) cx dX0_hatItem_96 rfl ?_
            refine hg_aload0 (pc' := 98) cx dX0_hatItem_97 rfl ?_
            refine gf_X0_89 (pc' := 101) cx dX0_hatItem_98 rfl ?_
            rw [A79.2.2.2 hnum2.1]
            refine pf_X0_98 (pc' := 104) cx (by first | assumption | omega | decide) (by first | assumption | omega | decide) dX0_hatItem_101 rfl ?_
            refine hg_aload0 (pc' := 105) cx dX0_hatItem_104 rfl ?_
            refine cv_X0_23 (pc' := 108) cx (K_X0_next l E _ f L hL ((t3.fr F79.two).fr (ck_putH _ hlt _ _)) (sp_e f L (sp_nx f L (sp_prh f L 6 255 0 (sp_nx f L b)).2.1)) (sp_e_le f (sp_nx_le f hb3)) (by rw [ck_oth _ _ _ (by omega)]; exact A79.2.2.1)) ⟨rfl, rfl, Nat.le_of_ble_eq_true rfl, Nat.le_of_ble_eq_true rfl⟩ (Nat.le_of_ble_eq_true rfl) dX0_hatItem_105 rfl (fun τ_105 h_105 => ?_)
            obtain ⟨A105, F105⟩ := h_105
            have eQ : (sp_prh f L 7 99 50 (sp_prh f L 6 255 0 (sp_nx f L b)).2.1) = (true, sp_nx f L (sp_nx f L (sp_prh f L 6 255 0 (sp_nx f L b)).2.1), sp_v f L (sp_nx f L (sp_prh f L 6 255 0 (sp_nx f L b)).2.1)) := by rw [sp_prh, if_pos (show sp_T f L (sp_prh f L 6 255 0 (sp_nx f L b)).2.1 = 7 from y79), if_pos hnum2]
            have A4 : ck_At τ_105 f L (sp_prh f L 7 99 50 (sp_prh f L 6 255 0 (sp_nx f L b)).2.1).2.1 := by rw [eQ]; exact A105
            have R4 : sp_Rep τ_105 2 (sp_addC C n (sp_newF (nI k) (sp_prh f L 6 255 0 (sp_nx f L b)).2.2 (sp_prh f L 7 99 50 (sp_prh f L 6 255 0 (sp_nx f L b)).2.1).2.2 1)) (n + 1) := by rw [eQ]; exact ck_Rep (sp_Rep.addH hlt (ck_Rep R3 F79) 4 _ (sp_newF_4 _ _ _ _ _)) F105
            have F4 : ck_Fr2 σ τ_105 := F3.tr (F79.two.tr ((ck_putH _ hlt _ _).tr F105.two))
            have ok2 : ¬ (sp_prh f L 7 99 50 (sp_prh f L 6 255 0 (sp_nx f L b)).2.1).1 = false := by rw [eQ]; exact fun z => Bool.noConfusion z
            have t4 := ht.fr F4
            refine hg_aload0 (pc' := 109) cx dX0_hatItem_108 rfl ?_
            refine hg_ldcS (pc' := 111) (i := 8) (tx := "off") cx rfl dX0_hatItem_109 rfl ?_
            refine cv_X0_51 (pc' := 114) cx (K_X0_takes l E _ f L hL t4 (sp_prh f L 7 99 50 (sp_prh f L 6 255 0 (sp_nx f L b)).2.1).2.1 hb4 A4 8 (by decide)) ⟨rfl, rfl, Nat.le_of_ble_eq_true rfl, Nat.le_of_ble_eq_true rfl⟩ (Nat.le_of_ble_eq_true rfl) dX0_hatItem_111 rfl (fun r_111 τ_111 h_111 => ?_)
            skip
            refine hg_if_eq (pc' := 117) cx 122 dX0_hatItem_114 (by decide) rfl (fun c_114 => ?_) (fun c_114 => ?_)
            ·
              obtain ⟨n111, -, e111⟩ := h_111.resolve_left (fun z => absurd (z.2.1.symm.trans c_114) (by decide))
              subst e111
              refine hg_iconst (pc' := 123) cx 1 dX0_hatItem_122 (by decide) rfl ?_
              refine hg_zret cx rfl dX0_hatItem_123 ⟨_, rfl, ?_⟩
              unfold sp_hatI
              rw [if_neg (show ¬ 10 ≤ n by omega), if_neg ok1, if_neg ok2, if_neg (show ¬ sp_T f L (sp_prh f L 7 99 50 (sp_prh f L 6 255 0 (sp_nx f L b)).2.1).2.1 = 8 from n111)]
              exact ⟨F4, Or.inl ⟨rfl, rfl, A4, R4⟩⟩
            ·
              obtain ⟨y111, -, A111, F111⟩ := h_111.resolve_right (fun z => c_114 z.2.1)
              refine hg_aload2 (pc' := 118) cx dX0_hatItem_117 rfl ?_
              refine hg_iconst (pc' := 119) cx 0 dX0_hatItem_118 (by decide) rfl ?_
              refine pf_X0_102 (pc' := 122) cx (by first | assumption | omega | decide) (by first | assumption | omega | decide) dX0_hatItem_119 rfl ?_
              refine hg_iconst (pc' := 123) cx 1 dX0_hatItem_122 (by decide) rfl ?_
              refine hg_zret cx rfl dX0_hatItem_123 ⟨_, rfl, ?_⟩
              unfold sp_hatI
              rw [if_neg (show ¬ 10 ≤ n by omega), if_neg ok1, if_neg ok2, if_pos (show sp_T f L (sp_prh f L 7 99 50 (sp_prh f L 6 255 0 (sp_nx f L b)).2.1).2.1 = 8 from y111)]
              exact ⟨F4.tr (F111.two.tr (ck_putH _ hlt _ _)), Or.inl ⟨rfl, rfl, A111.oth (ck_oth _ _ _ (by omega)), sp_Rep.addH hlt (ck_Rep R4 F111) 5 _ (sp_newF_5 _ _ _ _ _)⟩⟩
          ·
            have hnum2 := hg_b0 c_91
            have eQ : (sp_prh f L 7 99 50 (sp_prh f L 6 255 0 (sp_nx f L b)).2.1) = (false, sp_nx f L (sp_prh f L 6 255 0 (sp_nx f L b)).2.1, 0) := by rw [sp_prh, if_pos (show sp_T f L (sp_prh f L 6 255 0 (sp_nx f L b)).2.1 = 7 from y79), if_neg hnum2]
            refine hg_iconst (pc' := 95) cx 0 dX0_hatItem_94 (by decide) rfl ?_
            refine hg_zret cx rfl dX0_hatItem_95 ⟨_, rfl, ?_⟩
            unfold sp_hatI
            rw [if_neg (show ¬ 10 ≤ n by omega), if_neg ok1, if_pos (by rw [eQ]), eQ]
            exact ⟨F3.tr F79.two, Or.inr ⟨rfl, rfl, A79.2.1⟩⟩
      ·
        have hnum := hg_b0 c_59
        have eP : (sp_prh f L 6 255 0 (sp_nx f L b)) = (false, sp_nx f L (sp_nx f L b), 0) := by unfold sp_prh; rw [if_pos (show sp_T f L (sp_nx f L b) = 6 from y46), if_neg hnum]
        refine hg_iconst (pc' := 63) cx 0 dX0_hatItem_62 (by decide) rfl ?_
        refine hg_zret cx rfl dX0_hatItem_63 ⟨_, rfl, ?_⟩
        unfold sp_hatI
        rw [if_neg (show ¬ 10 ≤ n by omega), if_pos (by rw [eP]), eP]
        exact ⟨F1.tr (F2.two.tr F46.two), Or.inr ⟨rfl, rfl, A46.2.1⟩⟩
  ·
    have h10 : 10 ≤ n := hg_ge (n := 10) (j := n) rfl (by omega) (by omega) (hn2 ▸ hg_b1 c_7)
    refine hg_iconst (pc' := 11) cx 0 dX0_hatItem_10 (by decide) rfl ?_
    refine hg_zret cx rfl dX0_hatItem_11 ⟨_, rfl, ?_⟩
    unfold sp_hatI
    rw [if_pos h10]
    exact ⟨ck_Fr2.rf _, Or.inr ⟨rfl, rfl, hA.2.1⟩⟩
set_option maxHeartbeats 4000000 in
set_option maxRecDepth 100000 in
theorem K_X0_item (l : Launch) (E : hg_Wd) (σ : hg_Mem) (f : Nat → Int32) (L : Nat) (hL : L ≤ 120) (ht : ck_T σ f L) (b : Nat) (hb : b ≤ L) (hA : ck_At σ f L b) (C : sp_C) (n : Nat) (hR : sp_Rep σ 2 C n) : hg_C l E yX0_item cX0_item 2 (some .boolean) { frames := 8, cells := 0, slots := 0, locals := 172 } [.ref (hg_ad E 9)] σ (hg_pi (fun r τ => ck_It σ τ r f L (sp_item f L b C n))) := by
  refine hg_intro (by decide) [some (.ref (hg_ad E 9)), none] rfl (Nat.le_of_ble_eq_true rfl) ?_
  intro p e s m args below meth c cx
  have cx : hg_Cx E p s m args meth c cX0_item 2 RX0 (some .boolean) := cx
  refine hg_aload0 (pc' := 1) cx dX0_item_0 rfl ?_
  refine cv_X0_41 (pc' := 4) cx (K_X0_kindNamed l E _ f L hL ht b hb hA) ⟨rfl, rfl, Nat.le_of_ble_eq_true rfl, Nat.le_of_ble_eq_true rfl⟩ (Nat.le_of_ble_eq_true rfl) dX0_item_1 rfl (fun r_1 τ_1 h_1 => ?_)
  obtain ⟨rfl, rfl⟩ := h_1
  refine hg_istore1 (pc' := 5) cx rfl dX0_item_4 rfl ?_
  refine hg_iload1 (pc' := 6) cx dX0_item_5 rfl ?_
  refine hg_if_lt (pc' := 9) cx 15 dX0_item_6 (by decide) rfl (fun c_6 => ?_) (fun c_6 => ?_)
  ·
    have k6 : ¬ sp_T f L b < 6 := fun z => nI_pos (n := sp_T f L b) (by omega) (by rw [if_pos z] at c_6; exact c_6)
    refine hg_aload0 (pc' := 16) cx dX0_item_15 rfl ?_
    refine hg_ldcS (pc' := 18) (i := 9) (tx := "truth") cx rfl dX0_item_16 rfl ?_
    refine cv_X0_51 (pc' := 21) cx (K_X0_takes l E _ f L hL ht b hb hA 9 (by decide)) ⟨rfl, rfl, Nat.le_of_ble_eq_true rfl, Nat.le_of_ble_eq_true rfl⟩ (Nat.le_of_ble_eq_true rfl) dX0_item_18 rfl (fun r_18 τ_18 h_18 => ?_)
    skip
    refine hg_if_eq (pc' := 24) cx 29 dX0_item_21 (by decide) rfl (fun c_21 => ?_) (fun c_21 => ?_)
    ·
      obtain ⟨n18, -, e18⟩ := h_18.resolve_left (fun z => absurd (z.2.1.symm.trans c_21) (by decide))
      subst e18
      refine hg_aload0 (pc' := 30) cx dX0_item_29 rfl ?_
      refine hg_ldcS (pc' := 32) (i := 10) (tx := "holds") cx rfl dX0_item_30 rfl ?_
      refine cv_X0_51 (pc' := 35) cx (K_X0_takes l E _ f L hL ht b hb hA 10 (by decide)) ⟨rfl, rfl, Nat.le_of_ble_eq_true rfl, Nat.le_of_ble_eq_true rfl⟩ (Nat.le_of_ble_eq_true rfl) dX0_item_32 rfl (fun r_32 τ_32 h_32 => ?_)
      skip
      refine hg_if_eq (pc' := 38) cx 43 dX0_item_35 (by decide) rfl (fun c_35 => ?_) (fun c_35 => ?_)
      ·
        obtain ⟨n32, -, e32⟩ := h_32.resolve_left (fun z => absurd (z.2.1.symm.trans c_35) (by decide))
        subst e32
        refine hg_aload0 (pc' := 44) cx dX0_item_43 rfl ?_
        refine hg_ldcS (pc' := 46) (i := 13) (tx := "lift") cx rfl dX0_item_44 rfl ?_
        refine cv_X0_51 (pc' := 49) cx (K_X0_takes l E _ f L hL ht b hb hA 13 (by decide)) ⟨rfl, rfl, Nat.le_of_ble_eq_true rfl, Nat.le_of_ble_eq_true rfl⟩ (Nat.le_of_ble_eq_true rfl) dX0_item_46 rfl (fun r_46 τ_46 h_46 => ?_)
        skip
        refine hg_if_eq (pc' := 52) cx 57 dX0_item_49 (by decide) rfl (fun c_49 => ?_) (fun c_49 => ?_)
        ·
          obtain ⟨n46, -, e46⟩ := h_46.resolve_left (fun z => absurd (z.2.1.symm.trans c_49) (by decide))
          subst e46
          refine hg_iconst (pc' := 58) cx 0 dX0_item_57 (by decide) rfl ?_
          refine hg_zret cx rfl dX0_item_58 ⟨_, rfl, ?_⟩
          unfold sp_item
          rw [if_neg k6, if_neg (show ¬ sp_T f L b = 9 from n18), if_neg (show ¬ sp_T f L b = 10 from n32), if_neg (show ¬ sp_T f L b = 13 from n46)]
          exact ⟨ck_Fr2.rf _, Or.inr ⟨rfl, rfl, hA.2.1⟩⟩
        ·
          obtain ⟨y46, -, A46, F46⟩ := h_46.resolve_right (fun z => c_49 z.2.1)
          refine hg_aload0 (pc' := 53) cx dX0_item_52 rfl ?_
          refine cv_X0_65 (pc' := 56) cx (K_X0_liftItem l E _ f L hL (ht.fr F46.two) (sp_nx f L b) (sp_nx_le f hb) A46 C n (ck_Rep hR F46)) ⟨rfl, rfl, Nat.le_of_ble_eq_true rfl, Nat.le_of_ble_eq_true rfl⟩ (Nat.le_of_ble_eq_true rfl) dX0_item_53 rfl (fun r_53 τ_53 h_53 => ?_)
          skip
          refine hg_zret cx (ck_It.z h_53) dX0_item_56 ⟨_, rfl, ?_⟩
          unfold sp_item
          rw [if_neg k6, if_neg (show ¬ sp_T f L b = 9 from n18), if_neg (show ¬ sp_T f L b = 10 from n32), if_pos (show sp_T f L b = 13 from y46)]
          exact ck_It.fr F46.two h_53
      ·
        obtain ⟨y32, -, A32, F32⟩ := h_32.resolve_right (fun z => c_35 z.2.1)
        refine hg_aload0 (pc' := 39) cx dX0_item_38 rfl ?_
        refine cv_X0_60 (pc' := 42) cx (K_X0_holdsItem l E _ f L hL (ht.fr F32.two) (sp_nx f L b) (sp_nx_le f hb) A32 C n (ck_Rep hR F32)) ⟨rfl, rfl, Nat.le_of_ble_eq_true rfl, Nat.le_of_ble_eq_true rfl⟩ (Nat.le_of_ble_eq_true rfl) dX0_item_39 rfl (fun r_39 τ_39 h_39 => ?_)
        skip
        refine hg_zret cx (ck_It.z h_39) dX0_item_42 ⟨_, rfl, ?_⟩
        unfold sp_item
        rw [if_neg k6, if_neg (show ¬ sp_T f L b = 9 from n18), if_pos (show sp_T f L b = 10 from y32)]
        exact ck_It.fr F32.two h_39
    ·
      obtain ⟨y18, -, A18, F18⟩ := h_18.resolve_right (fun z => c_21 z.2.1)
      refine hg_aload0 (pc' := 25) cx dX0_item_24 rfl ?_
      refine cv_X0_55 (pc' := 28) cx (K_X0_truthItem l E _ f L hL (ht.fr F18.two) (sp_nx f L b) (sp_nx_le f hb) A18 C n (ck_Rep hR F18)) ⟨rfl, rfl, Nat.le_of_ble_eq_true rfl, Nat.le_of_ble_eq_true rfl⟩ (Nat.le_of_ble_eq_true rfl) dX0_item_25 rfl (fun r_25 τ_25 h_25 => ?_)
      skip
      refine hg_zret cx (ck_It.z h_25) dX0_item_28 ⟨_, rfl, ?_⟩
      unfold sp_item
      rw [if_neg k6, if_pos (show sp_T f L b = 9 from y18)]
      exact ck_It.fr F18.two h_25
  ·
    have k6 : sp_T f L b < 6 := Decidable.byContradiction (fun z => c_6 (by rw [if_neg z]; decide))
    rw [if_pos k6]
    refine hg_aload0 (pc' := 10) cx dX0_item_9 rfl ?_
    refine hg_iload1 (pc' := 11) cx dX0_item_10 rfl ?_
    refine cv_X0_45 (pc' := 14) cx (K_X0_hatItem l E _ f L hL ht b hb hA C n hR (sp_T f L b)) ⟨rfl, rfl, Nat.le_of_ble_eq_true rfl, Nat.le_of_ble_eq_true rfl⟩ (Nat.le_of_ble_eq_true rfl) dX0_item_11 rfl (fun r_11 τ_11 h_11 => ?_)
    skip
    refine hg_zret cx (ck_It.z h_11) dX0_item_14 ⟨_, rfl, ?_⟩
    unfold sp_item
    rw [if_pos k6]
    exact h_11
set_option maxHeartbeats 4000000 in
set_option maxRecDepth 100000 in
theorem K_X0_takeDown (l : Launch) (E : hg_Wd) (σ : hg_Mem) (f : Nat → Int32) (L : Nat) (hL : L ≤ 120) (ht : ck_T σ f L) (C : sp_C) (n : Nat) (hR : sp_Rep σ 2 C n) : hg_C l E yX0_takeDown cX0_takeDown 2 (some .int) { frames := 9, cells := 0, slots := 0, locals := 193 } [.ref (hg_ad E 9)] σ (hg_pi (fun r τ => ck_Fr2 σ τ ∧ (((sp_lob f L 200 1 (sp_b f L 0) C n).1 = true ∧ r = nI (sp_lob f L 200 1 (sp_b f L 0) C n).2.2.1 ∧ sp_Rep τ 2 (sp_lob f L 200 1 (sp_b f L 0) C n).2.2.2.1 (sp_lob f L 200 1 (sp_b f L 0) C n).2.2.2.2) ∨ ((sp_lob f L 200 1 (sp_b f L 0) C n).1 = false ∧ r = -1 - nI (sp_lob f L 200 1 (sp_b f L 0) C n).2.1)))) := by
  refine hg_intro (by decide) [some (.ref (hg_ad E 9)), none] rfl (Nat.le_of_ble_eq_true rfl) ?_
  intro p e s m args below meth c cx
  have cx : hg_Cx E p s m args meth c cX0_takeDown 2 RX0 (some .int) := cx
  refine hg_aload0 (pc' := 1) cx dX0_takeDown_0 rfl ?_
  refine hg_iconst (pc' := 2) cx (nI 0) dX0_takeDown_1 (by decide) rfl ?_
  refine pf_X0_19 (pc' := 5) cx dX0_takeDown_2 rfl ?_
  refine hg_iconst (pc' := 6) cx (nI 1) dX0_takeDown_5 (by decide) rfl ?_
  refine hg_istore1 (pc' := 7) cx rfl dX0_takeDown_6 rfl ?_
  refine hg_nm (fun μ hμ => ?_)
  refine hg_loop (α := hg_Mem × Nat × Nat × sp_C × Nat) (I := fun z => 1 ≤ z.2.1 ∧ 2 * (z.2.1 - 1) ≤ z.2.2.1 ∧ z.2.2.1 ≤ L ∧ ck_Fr2 σ z.1 ∧ z.1.1 9 4 = nI z.2.2.1 ∧ sp_Rep z.1 2 z.2.2.2.1 z.2.2.2.2 ∧ sp_lob f L 200 1 (sp_b f L 0) C n = sp_lob f L (201 - z.2.1) z.2.1 (sp_b f L z.2.2.1) z.2.2.2.1 z.2.2.2.2) (P := fun z => hg_G E p l e { frames := 9, cells := 0, slots := 0, locals := 193 } s m args below meth c 2 (MQ below (hg_Qc E (hg_pi (fun r τ => ck_Fr2 σ τ ∧ (((sp_lob f L 200 1 (sp_b f L 0) C n).1 = true ∧ r = nI (sp_lob f L 200 1 (sp_b f L 0) C n).2.2.1 ∧ sp_Rep τ 2 (sp_lob f L 200 1 (sp_b f L 0) C n).2.2.2.1 (sp_lob f L 200 1 (sp_b f L 0) C n).2.2.2.2) ∨ ((sp_lob f L 200 1 (sp_b f L 0) C n).1 = false ∧ r = -1 - nI (sp_lob f L 200 1 (sp_b f L 0) C n).2.1))))) args s 0 0 (hg_AW E)) z.1 7 [some (.ref (hg_ad E 9)), some (.int (nI z.2.1))] []) (fun z => 200 - z.2.1) ?_ (μ, 1, 0, C, n) ?_
  rotate_left
  · subst hμ
    try dsimp only
    exact ⟨Nat.le_refl _, by decide, Nat.zero_le _, (ck_put9 _ _ _).two, by rw [ck_get, if_pos rfl], ck_Rep hR (ck_put9 _ _ _), rfl⟩
  clear hμ μ
  rintro ⟨τ, i, en, D, k⟩ hI ih_7
  try dsimp only at hI ih_7 ⊢
  have hi1 := hI.1
  have hi2 := hI.2.1
  have hen := hI.2.2.1
  have hF := hI.2.2.2.1
  refine hg_iload1 (pc' := 8) cx dX0_takeDown_7 rfl ?_
  refine hg_bipush (pc' := 10) cx (nI 120) dX0_takeDown_8 (by decide) rfl ?_
  refine hg_icmp_gt (pc' := 13) cx 61 dX0_takeDown_10 (by decide) rfl (fun c_10 => ?_) (fun c_10 => ?_)
  ·
    have := hg_gt (a := 120) (b := i) (by omega) (by omega) c_10
    omega
  ·
    refine hg_aload0 (pc' := 14) cx dX0_takeDown_13 rfl ?_
    refine cv_X0_23 (pc' := 17) cx (K_X0_next l E _ f L hL (ht.fr hF) en hen hI.2.2.2.2.1) ⟨rfl, rfl, Nat.le_of_ble_eq_true rfl, Nat.le_of_ble_eq_true rfl⟩ (Nat.le_of_ble_eq_true rfl) dX0_takeDown_14 rfl (fun τ_14 h_14 => ?_)
    obtain ⟨A1, F1⟩ := h_14
    have t1 := (ht.fr hF).fr F1.two
    refine hg_aload0 (pc' := 18) cx dX0_takeDown_17 rfl ?_
    refine cv_X0_26 (pc' := 21) cx (K_X0_item l E _ f L hL t1 (sp_b f L en) (sp_b_le f hen) A1 D k (ck_Rep hI.2.2.2.2.2.1 F1)) ⟨rfl, rfl, Nat.le_of_ble_eq_true rfl, Nat.le_of_ble_eq_true rfl⟩ (Nat.le_of_ble_eq_true rfl) dX0_takeDown_18 rfl (fun r_18 τ_18 h_18 => ?_)
    have g18 := sp_item_ge f D k (sp_b_le f hen)
    have gb := sp_b_ge f L en
    refine hg_if_ne (pc' := 24) cx 31 dX0_takeDown_21 (by decide) rfl (fun c_21 => ?_) (fun c_21 => ?_)
    ·
      obtain ⟨w1, -, A2, R2⟩ := h_18.2.resolve_right (fun z => c_21 z.2.1)
      have w9 : ¬ (sp_item f L (sp_b f L en) D k).1 = false := by rw [w1]; exact fun z => Bool.noConfusion z
      have g9 := sp_c_le f L (sp_item f L (sp_b f L en) D k).2.1
      refine hg_aload0 (pc' := 32) cx dX0_takeDown_31 rfl ?_
      refine gf_X0_33 (pc' := 35) cx dX0_takeDown_32 rfl ?_
      rw [A2.1]
      refine hg_if_ne (pc' := 38) cx 40 dX0_takeDown_35 (by decide) rfl (fun c_35 => ?_) (fun c_35 => ?_)
      ·
        have T22 : ¬ sp_T f L (sp_item f L (sp_b f L en) D k).2.1 = 22 := fun z => c_35 (by rw [(sp_T_end f L _).mp z]; rfl)
        refine hg_aload0 (pc' := 41) cx dX0_takeDown_40 rfl ?_
        refine gf_X0_33 (pc' := 44) cx dX0_takeDown_41 rfl ?_
        rw [A2.1]
        refine hg_iconst (pc' := 45) cx (nI 3) dX0_takeDown_44 (by decide) rfl ?_
        refine hg_icmp_eq (pc' := 48) cx 55 dX0_takeDown_45 (by decide) rfl (fun c_45 => ?_) (fun c_45 => ?_)
        ·
          have T21 : sp_T f L (sp_item f L (sp_b f L en) D k).2.1 = 21 := (sp_T_semi f L _).mpr ((nI_eq (by omega) (by decide)).mp c_45)
          refine hg_iinc1p (pc' := 58) cx rfl dX0_takeDown_55 rfl ?_
          refine hg_goto cx 7 dX0_takeDown_58 (by decide) ?_
          rw [nI_1]
          refine hg_nm (fun μ hμ => ?_)
          refine ih_7 (μ, i + 1, sp_e f L (sp_item f L (sp_b f L en) D k).2.1, (sp_item f L (sp_b f L en) D k).2.2.1, (sp_item f L (sp_b f L en) D k).2.2.2) ?_ ?_
          · subst hμ
            try dsimp only
            have q1 := g18.2.2 w1
            have q2 : sp_e f L (sp_item f L (sp_b f L en) D k).2.1 = (sp_item f L (sp_b f L en) D k).2.1 + 1 := by
              rcases sp_TC f L (sp_item f L (sp_b f L en) D k).2.1 with ⟨h1, h2, h3⟩ | ⟨h1, h2, h3⟩ | ⟨h1, h2, h3⟩ | ⟨h1, h2, h3, h4⟩ | ⟨h1, h2, h3⟩
              · omega
              · rw [(sp_T_semi f L _).mp T21] at h1; omega
              · omega
              · exact h4
              · omega
            refine ⟨by omega, by omega, sp_e_le f g18.2.1, hF.tr (F1.two.tr h_18.1), A2.2.2.1, R2, ?_⟩
            rw [hI.2.2.2.2.2.2, show 201 - i = (200 - i) + 1 by omega, sp_lob, if_neg w9, if_neg T22, if_pos T21, show 201 - (i + 1) = 200 - i by omega]
            rfl
          · show 200 - (i + 1) < 200 - i
            omega
        ·
          have T21 : ¬ sp_T f L (sp_item f L (sp_b f L en) D k).2.1 = 21 := fun z => c_45 (by rw [(sp_T_semi f L _).mp z])
          refine hg_iconst (pc' := 49) cx (-1) dX0_takeDown_48 (by decide) rfl ?_
          refine hg_aload0 (pc' := 50) cx dX0_takeDown_49 rfl ?_
          refine gf_X0_30 (pc' := 53) cx dX0_takeDown_50 rfl ?_
          rw [A2.2.1]
          refine hg_isub (pc' := 54) cx dX0_takeDown_53 rfl ?_
          refine hg_iret cx dX0_takeDown_54 ⟨_, rfl, ?_⟩
          refine ⟨hF.tr (F1.two.tr h_18.1), Or.inr ?_⟩
          rw [hI.2.2.2.2.2.2, show 201 - i = (200 - i) + 1 by omega, sp_lob, if_neg w9, if_neg T22, if_neg T21]
          exact ⟨rfl, rfl⟩
      ·
        have T22 : sp_T f L (sp_item f L (sp_b f L en) D k).2.1 = 22 := (sp_T_end f L _).mpr ((nI_eq (b := 0) (by omega) (by decide)).mp c_35)
        refine hg_iload1 (pc' := 39) cx dX0_takeDown_38 rfl ?_
        refine hg_iret cx dX0_takeDown_39 ⟨_, rfl, ?_⟩
        refine ⟨hF.tr (F1.two.tr h_18.1), Or.inl ?_⟩
        rw [hI.2.2.2.2.2.2, show 201 - i = (200 - i) + 1 by omega, sp_lob, if_neg w9, if_pos T22]
        exact ⟨rfl, rfl, R2⟩
    ·
      obtain ⟨w1, -, w3⟩ := h_18.2.resolve_left (fun z => absurd (z.2.1.symm.trans c_21) (by decide))
      refine hg_iconst (pc' := 25) cx (-1) dX0_takeDown_24 (by decide) rfl ?_
      refine hg_aload0 (pc' := 26) cx dX0_takeDown_25 rfl ?_
      refine gf_X0_30 (pc' := 29) cx dX0_takeDown_26 rfl ?_
      rw [w3]
      refine hg_isub (pc' := 30) cx dX0_takeDown_29 rfl ?_
      refine hg_iret cx dX0_takeDown_30 ⟨_, rfl, ?_⟩
      refine ⟨hF.tr (F1.two.tr h_18.1), Or.inr ?_⟩
      rw [hI.2.2.2.2.2.2, show 201 - i = (200 - i) + 1 by omega, sp_lob, if_pos w1]
      exact ⟨rfl, rfl⟩
set_option maxHeartbeats 4000000 in
set_option maxRecDepth 100000 in
theorem K_X5_lobby (l : Launch) (E : hg_Wd) (σ : hg_Mem) (S : sp_S) (hc : cw_C σ S) (hv : vs_S S) : hg_C l E yX5_lobby cX5_lobby 2 (some .int) { frames := 10, cells := 0, slots := 0, locals := 214 } [.ref (hg_ad E 0)] σ (hg_pi (fun r τ => cw_P σ (op_lobby S ) r τ)) := by
  refine hg_intro (by decide) [some (.ref (hg_ad E 0)), none] rfl (Nat.le_of_ble_eq_true rfl) ?_
  intro p e s m args below meth c cx
  have cx : hg_Cx E p s m args meth c cX5_lobby 2 RX5 (some .int) := cx
  obtain ⟨hn10, hn, g0, g1, g2, hag⟩ := hc.get
  obtain ⟨L, hL, eL⟩ := hv.2.2.2.1
  refine hg_aload0 (pc' := 1) cx dX5_lobby_0 rfl ?_
  refine gf_X5_16 (pc' := 4) cx dX5_lobby_1 rfl ?_
  refine hg_aload0 (pc' := 5) cx dX5_lobby_4 rfl ?_
  refine gf_X5_10 (pc' := 8) cx dX5_lobby_5 rfl ?_
  refine cv_X5_150 (pc' := 11) cx (by first | assumption | omega | decide) (by first | assumption | omega | decide) (K_X3_become l E _ 2 (by decide) (by decide) 1 (by decide) (by decide) (by decide) (S.1 0).2 hn10 hn) ⟨rfl, rfl, Nat.le_of_ble_eq_true rfl, Nat.le_of_ble_eq_true rfl⟩ (Nat.le_of_ble_eq_true rfl) dX5_lobby_8 rfl (fun τ_8 h_8 => ?_)
  obtain ⟨hF1, h4, hA⟩ := h_8
  have hR2 := hc.1.bec h4 hA
  obtain ⟨hc1, hf1⟩ := hc.fr2 hF1
  have ht1 : ck_T τ_8 (S.2.1 2) L := ⟨by rw [hc1.2.2.2.1, eL], hc1.2.2.2.2.2.1⟩
  refine hg_aload0 (pc' := 12) cx dX5_lobby_11 rfl ?_
  refine gf_X5_34 (pc' := 15) cx dX5_lobby_12 rfl ?_
  refine cv_X5_190 (pc' := 18) cx (K_X0_takeDown l E _ (S.2.1 2) L hL ht1 (S.1 0).1 (S.1 0).2 hR2) ⟨rfl, rfl, Nat.le_of_ble_eq_true rfl, Nat.le_of_ble_eq_true rfl⟩ (Nat.le_of_ble_eq_true rfl) dX5_lobby_15 rfl (fun r_15 τ_15 h_15 => ?_)
  obtain ⟨F2, h15⟩ := h_15
  obtain ⟨hc2, hf2⟩ := hc1.ck F2
  have eW : (sp_lobR S) = sp_lob (S.2.1 2) L 200 1 (sp_b (S.2.1 2) L 0) (S.1 0).1 (S.1 0).2 := by unfold sp_lobR; rw [eL, nI_clamp (by omega)]
  have hit := sp_lob_it (S.2.1 2) (L := L) 200 1 (sp_b (S.2.1 2) L 0) (S.1 0).1 (S.1 0).2 (sp_b_le _ (Nat.zero_le _))
  rw [← eW] at h15 hit
  refine hg_istore1 (pc' := 19) cx rfl dX5_lobby_18 rfl ?_
  refine hg_iload1 (pc' := 20) cx dX5_lobby_19 rfl ?_
  refine hg_if_lt (pc' := 23) cx 34 dX5_lobby_20 (by decide) rfl (fun c_20 => ?_) (fun c_20 => ?_)
  ·
    obtain ⟨w1, w2⟩ := h15.resolve_left (fun z => by rw [z.2.1] at c_20; exact nI_pos (by omega) c_20)
    refine hg_aload0 (pc' := 35) cx dX5_lobby_34 rfl ?_
    refine gf_X5_25 (pc' := 38) cx dX5_lobby_35 rfl ?_
    refine hg_iconst (pc' := 39) cx 0 dX5_lobby_38 (by decide) rfl ?_
    refine pf_X5_185 (pc' := 42) cx dX5_lobby_39 rfl ?_
    refine hg_iload1 (pc' := 43) cx dX5_lobby_42 rfl ?_
    refine hg_iret cx dX5_lobby_43 ⟨_, rfl, ?_⟩
    unfold op_lobby
    rw [if_neg (by rw [w1]; exact fun z => Bool.noConfusion z)]
    exact ⟨w2, (hc2.len 0).1, hf1.tr (hf2.tr (hc2.len 0).2)⟩
  ·
    obtain ⟨w1, w2, R2⟩ := h15.resolve_right (fun z => c_20 (by rw [z.2]; exact sp_m1 _ (by omega)))
    refine hg_aload0 (pc' := 24) cx dX5_lobby_23 rfl ?_
    refine gf_X5_10 (pc' := 27) cx dX5_lobby_24 rfl ?_
    refine hg_aload0 (pc' := 28) cx dX5_lobby_27 rfl ?_
    refine gf_X5_16 (pc' := 31) cx dX5_lobby_28 rfl ?_
    refine cv_X5_150 (pc' := 34) cx (by first | assumption | omega | decide) (by first | assumption | omega | decide) (K_X3_become l E _ 1 (by decide) (by decide) 2 (by decide) (by decide) (by decide) (sp_lobR S).2.2.2.2 R2.1 ((R2.2.2.1 3 (by decide)).trans R2.2.1)) ⟨rfl, rfl, Nat.le_of_ble_eq_true rfl, Nat.le_of_ble_eq_true rfl⟩ (Nat.le_of_ble_eq_true rfl) dX5_lobby_31 rfl (fun τ_31 h_31 => ?_)
    obtain ⟨hF3, h43, hA3⟩ := h_31
    have R3 := R2.bec h43 hA3
    obtain ⟨hc3, hf3⟩ := hc2.setC _ _ hF3 R3
    refine hg_aload0 (pc' := 35) cx dX5_lobby_34 rfl ?_
    refine gf_X5_25 (pc' := 38) cx dX5_lobby_35 rfl ?_
    refine hg_iconst (pc' := 39) cx 0 dX5_lobby_38 (by decide) rfl ?_
    refine pf_X5_185 (pc' := 42) cx dX5_lobby_39 rfl ?_
    refine hg_iload1 (pc' := 43) cx dX5_lobby_42 rfl ?_
    refine hg_iret cx dX5_lobby_43 ⟨_, rfl, ?_⟩
    unfold op_lobby
    rw [if_pos w1]
    exact ⟨w2, (hc3.len 0).1, hf1.tr (hf2.tr (hf3.tr (hc3.len 0).2))⟩
