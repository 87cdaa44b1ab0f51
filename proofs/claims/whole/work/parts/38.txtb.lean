theorem ck_put2 (σ : hg_Mem) (k : Nat) (v : Int32) : ck_Fr2 σ (hg_sI σ 2 k v) := ⟨rfl, fun _ _ h _ => ck_oth σ k v h⟩
theorem ck_putH (σ : hg_Mem) {j : Nat} (hj : j < 10) (k : Nat) (v : Int32) : ck_Fr2 σ (hg_sI σ (10 + 10 * 2 + j) k v) := ⟨rfl, fun _ _ _ h => ck_oth σ k v (by omega)⟩
theorem sp_Rep.addG {τ : hg_Mem} {C : sp_C} {n : Nat} {g g' : Nat → Int32} (h : sp_Rep τ 2 (sp_addC C n g) (n + 1)) (e : sp_Ag g g') : sp_Rep τ 2 (sp_addC C n g') (n + 1) := by
  refine ⟨h.1, h.2.1, h.2.2.1, fun x hx k hk => ?_⟩
  have q := h.2.2.2 x hx k hk
  rw [q]
  show va_up C.2 n g x k = va_up C.2 n g' x k
  by_cases z : x = n
  · rw [z, va_upE, va_upE]; exact e k hk
  · rw [va_upN _ _ z, va_upN _ _ z]
theorem sp_Rep.addH {τ : hg_Mem} {C : sp_C} {n : Nat} {g g' : Nat → Int32} (hn : n < 10) (h : sp_Rep τ 2 (sp_addC C n g) (n + 1)) (k : Nat) (v : Int32) (e : sp_Ag (va_up g k v) g') : sp_Rep (hg_sI τ (10 + 10 * 2 + n) k v) 2 (sp_addC C n g') (n + 1) := by
  have a : sp_Ag (τ.1 (10 + 10 * 2 + n)) g := fun y hy => by
    have q := h.2.2.2 n (Nat.lt_succ_self n) y hy
    rw [q]
    show va_up C.2 n g n y = g y
    rw [va_upE]
  have b := (h.setH (Nat.lt_succ_self n) (sp_Ag.up a k (rfl : v = v))).1
  refine sp_Rep.addG (g := va_up g k v) ?_ e
  refine ⟨b.1, b.2.1, b.2.2.1, fun x hx y hy => ?_⟩
  have q := b.2.2.2 x hx y hy
  refine Eq.trans q ?_
  show va_up (va_up C.2 n g) n (va_up g k v) x y = va_up C.2 n (va_up g k v) x y
  by_cases z : x = n
  · rw [z, va_upE, va_upE]
  · rw [va_upN _ _ z, va_upN _ _ z, va_upN _ _ z]
theorem sp_newF_1 (k v w f o : Int32) : sp_Ag (va_up (sp_newF k v f o) 1 w) (sp_newF k w f o) := by
  intro j hj
  rcases (show j = 0 ∨ j = 1 ∨ j = 2 ∨ j = 3 ∨ j = 4 ∨ j = 5 by omega) with rfl | rfl | rfl | rfl | rfl | rfl <;> rfl
theorem sp_newF_4 (k v f w o : Int32) : sp_Ag (va_up (sp_newF k v f o) 4 w) (sp_newF k v w o) := by
  intro j hj
  rcases (show j = 0 ∨ j = 1 ∨ j = 2 ∨ j = 3 ∨ j = 4 ∨ j = 5 by omega) with rfl | rfl | rfl | rfl | rfl | rfl <;> rfl
theorem sp_newF_5 (k v f o w : Int32) : sp_Ag (va_up (sp_newF k v f o) 5 w) (sp_newF k v f w) := by
  intro j hj
  rcases (show j = 0 ∨ j = 1 ∨ j = 2 ∨ j = 3 ∨ j = 4 ∨ j = 5 by omega) with rfl | rfl | rfl | rfl | rfl | rfl <;> rfl
theorem sp_m1 : ∀ b, b ≤ 120 → (-1 : Int32) - nI b < 0 := by decide +kernel
theorem sp_wB1 (x q : Int32) : sp_withBit x q 1 = x ||| ((1 : Int32) <<< (q &&& 31)) := by unfold sp_withBit; rw [if_pos rfl]
theorem sp_wB0 (x q : Int32) : sp_withBit x q 0 = x &&& (((1 : Int32) <<< (q &&& 31)) ^^^ (-1)) := by unfold sp_withBit; rw [if_neg (by decide)]
set_option maxHeartbeats 4000000 in
set_option maxRecDepth 100000 in
theorem K_X0_truthItem (l : Launch) (E : hg_Wd) (σ : hg_Mem) (f : Nat → Int32) (L : Nat) (hL : L ≤ 120) (ht : ck_T σ f L) (b : Nat) (hb : b ≤ L) (hA : ck_At σ f L b) (C : sp_C) (n : Nat) (hR : sp_Rep σ 2 C n) : hg_C l E yX0_truthItem cX0_truthItem 2 (some .boolean) { frames := 2, cells := 0, slots := 0, locals := 44 } [.ref (hg_ad E 9), .ref (hg_ad E 2)] σ (hg_pi (fun r τ => ck_It σ τ r f L (sp_truthI f L b C n))) := by
  refine hg_intro (by decide) [some (.ref (hg_ad E 9)), some (.ref (hg_ad E 2))] rfl (Nat.le_of_ble_eq_true rfl) ?_
  intro p e s m args below meth c cx
  have cx : hg_Cx E p s m args meth c cX0_truthItem 2 RX0 (some .boolean) := cx
  refine hg_aload0 (pc' := 1) cx dX0_truthItem_0 rfl ?_
  refine hg_sipush (pc' := 4) cx 255 dX0_truthItem_1 (by decide) rfl ?_
  refine cv_X0_84 (pc' := 7) cx (K_X0_isNumberUpTo l E _ f L hL ht b hb hA _) ⟨rfl, rfl, Nat.le_of_ble_eq_true rfl, Nat.le_of_ble_eq_true rfl⟩ (Nat.le_of_ble_eq_true rfl) dX0_truthItem_4 rfl (fun r_4 τ_4 h_4 => ?_)
  obtain ⟨rfl, rfl⟩ := h_4
  refine hg_if_ne (pc' := 10) cx 12 dX0_truthItem_7 (by decide) rfl (fun c_7 => ?_) (fun c_7 => ?_)
  ·
    have hnum := hg_b1 c_7
    refine hg_aload1 (pc' := 13) cx dX0_truthItem_12 rfl ?_
    refine hg_aload0 (pc' := 14) cx dX0_truthItem_13 rfl ?_
    refine gf_X0_88 (pc' := 17) cx dX0_truthItem_14 rfl ?_
    rw [hA.2.2.2 hnum.1]
    refine pf_X0_104 (pc' := 20) cx (by first | assumption | omega | decide) (by first | assumption | omega | decide) dX0_truthItem_17 rfl ?_
    refine hg_aload0 (pc' := 21) cx dX0_truthItem_20 rfl ?_
    refine cv_X0_22 (pc' := 24) cx (K_X0_next l E _ f L hL (ht.fr (ck_put2 _ _ _)) (sp_e f L b) (sp_e_le f hb) (by rw [ck_oth _ _ _ (by decide)]; exact hA.2.2.1)) ⟨rfl, rfl, Nat.le_of_ble_eq_true rfl, Nat.le_of_ble_eq_true rfl⟩ (Nat.le_of_ble_eq_true rfl) dX0_truthItem_21 rfl (fun τ_21 h_21 => ?_)
    skip
    refine hg_iconst (pc' := 25) cx 1 dX0_truthItem_24 (by decide) rfl ?_
    refine hg_zret cx rfl dX0_truthItem_25 ⟨_, rfl, ?_⟩
    unfold sp_truthI
    rw [if_pos hnum]
    exact ⟨(ck_put2 _ _ _).tr h_21.2.two, Or.inl ⟨rfl, rfl, h_21.1, ck_Rep (hR.set (k := 1) (by decide) _).1 h_21.2⟩⟩
  ·
    have hnum := hg_b0 c_7
    refine hg_iconst (pc' := 11) cx 0 dX0_truthItem_10 (by decide) rfl ?_
    refine hg_zret cx rfl dX0_truthItem_11 ⟨_, rfl, ?_⟩
    unfold sp_truthI
    rw [if_neg hnum]
    exact ⟨ck_Fr2.rf _, Or.inr ⟨rfl, rfl, hA.2.1⟩⟩
set_option maxHeartbeats 4000000 in
set_option maxRecDepth 100000 in
theorem K_X0_holdsItem (l : Launch) (E : hg_Wd) (σ : hg_Mem) (f : Nat → Int32) (L : Nat) (hL : L ≤ 120) (ht : ck_T σ f L) (b : Nat) (hb : b ≤ L) (hA : ck_At σ f L b) (C : sp_C) (n : Nat) (hR : sp_Rep σ 2 C n) : hg_C l E yX0_holdsItem cX0_holdsItem 3 (some .boolean) { frames := 7, cells := 0, slots := 0, locals := 150 } [.ref (hg_ad E 9), .ref (hg_ad E 2)] σ (hg_pi (fun r τ => ck_It σ τ r f L (sp_holdsI f L b C n))) := by
  refine hg_intro (by decide) [some (.ref (hg_ad E 9)), some (.ref (hg_ad E 2)), none] rfl (Nat.le_of_ble_eq_true rfl) ?_
  intro p e s m args below meth c cx
  have cx : hg_Cx E p s m args meth c cX0_holdsItem 3 RX0 (some .boolean) := cx
  refine hg_aload0 (pc' := 1) cx dX0_holdsItem_0 rfl ?_
  refine hg_bipush (pc' := 3) cx 7 dX0_holdsItem_1 (by decide) rfl ?_
  refine cv_X0_84 (pc' := 6) cx (K_X0_isNumberUpTo l E _ f L hL ht b hb hA _) ⟨rfl, rfl, Nat.le_of_ble_eq_true rfl, Nat.le_of_ble_eq_true rfl⟩ (Nat.le_of_ble_eq_true rfl) dX0_holdsItem_3 rfl (fun r_3 τ_3 h_3 => ?_)
  obtain ⟨rfl, rfl⟩ := h_3
  refine hg_if_ne (pc' := 9) cx 11 dX0_holdsItem_6 (by decide) rfl (fun c_6 => ?_) (fun c_6 => ?_)
  ·
    have hnum := hg_b1 c_6
    refine hg_iconst (pc' := 12) cx 1 dX0_holdsItem_11 (by decide) rfl ?_
    refine hg_aload0 (pc' := 13) cx dX0_holdsItem_12 rfl ?_
    refine gf_X0_88 (pc' := 16) cx dX0_holdsItem_13 rfl ?_
    rw [hA.2.2.2 hnum.1]
    refine hg_ishl (pc' := 17) cx dX0_holdsItem_16 rfl ?_
    refine hg_istore2 (pc' := 18) cx rfl dX0_holdsItem_17 rfl ?_
    refine hg_aload0 (pc' := 19) cx dX0_holdsItem_18 rfl ?_
    refine cv_X0_22 (pc' := 22) cx (K_X0_next l E _ f L hL ht (sp_e f L b) (sp_e_le f hb) hA.2.2.1) ⟨rfl, rfl, Nat.le_of_ble_eq_true rfl, Nat.le_of_ble_eq_true rfl⟩ (Nat.le_of_ble_eq_true rfl) dX0_holdsItem_19 rfl (fun τ_19 h_19 => ?_)
    obtain ⟨A1, F1⟩ := h_19
    have t1 := ht.fr F1.two
    have R1 := ck_Rep hR F1
    refine hg_aload0 (pc' := 23) cx dX0_holdsItem_22 rfl ?_
    refine hg_ldcS (pc' := 25) (i := 11) (tx := "yes") cx rfl dX0_holdsItem_23 rfl ?_
    refine cv_X0_48 (pc' := 28) cx (K_X0_takes l E _ f L hL t1 (sp_nx f L b) (sp_nx_le f hb) A1 11 (by decide)) ⟨rfl, rfl, Nat.le_of_ble_eq_true rfl, Nat.le_of_ble_eq_true rfl⟩ (Nat.le_of_ble_eq_true rfl) dX0_holdsItem_25 rfl (fun r_25 τ_25 h_25 => ?_)
    skip
    refine hg_if_eq (pc' := 31) cx 43 dX0_holdsItem_28 (by decide) rfl (fun c_28 => ?_) (fun c_28 => ?_)
    ·
      obtain ⟨n25, -, e25⟩ := h_25.resolve_left (fun z => absurd (z.2.1.symm.trans c_28) (by decide))
      subst e25
      refine hg_aload0 (pc' := 44) cx dX0_holdsItem_43 rfl ?_
      refine hg_ldcS (pc' := 46) (i := 12) (tx := "no") cx rfl dX0_holdsItem_44 rfl ?_
      refine cv_X0_48 (pc' := 49) cx (K_X0_takes l E _ f L hL t1 (sp_nx f L b) (sp_nx_le f hb) A1 12 (by decide)) ⟨rfl, rfl, Nat.le_of_ble_eq_true rfl, Nat.le_of_ble_eq_true rfl⟩ (Nat.le_of_ble_eq_true rfl) dX0_holdsItem_46 rfl (fun r_46 τ_46 h_46 => ?_)
      skip
      refine hg_if_eq (pc' := 52) cx 66 dX0_holdsItem_49 (by decide) rfl (fun c_49 => ?_) (fun c_49 => ?_)
      ·
        obtain ⟨n46, -, e46⟩ := h_46.resolve_left (fun z => absurd (z.2.1.symm.trans c_49) (by decide))
        subst e46
        refine hg_iconst (pc' := 67) cx 0 dX0_holdsItem_66 (by decide) rfl ?_
        refine hg_zret cx rfl dX0_holdsItem_67 ⟨_, rfl, ?_⟩
        unfold sp_holdsI
        rw [if_pos hnum, if_neg (show ¬ sp_T f L (sp_nx f L b) = 11 from n25), if_neg (show ¬ sp_T f L (sp_nx f L b) = 12 from n46)]
        exact ⟨F1.two, Or.inr ⟨rfl, rfl, A1.2.1⟩⟩
      ·
        obtain ⟨y46, -, A46, F46⟩ := h_46.resolve_right (fun z => c_49 z.2.1)
        have R2 := ck_Rep R1 F46
        refine hg_aload1 (pc' := 53) cx dX0_holdsItem_52 rfl ?_
        refine hg_dup (pc' := 54) cx rfl dX0_holdsItem_53 rfl ?_
        refine gf_X0_108 (pc' := 57) cx (by first | assumption | omega | decide) (by first | assumption | omega | decide) dX0_holdsItem_54 rfl ?_
        rw [R2.2.2.1 2 (by decide)]
        refine hg_iload2 (pc' := 58) cx dX0_holdsItem_57 rfl ?_
        refine hg_iconst (pc' := 59) cx (-1) dX0_holdsItem_58 (by decide) rfl ?_
        refine hg_ixor (pc' := 60) cx dX0_holdsItem_59 rfl ?_
        refine hg_iand (pc' := 61) cx dX0_holdsItem_60 rfl ?_
        refine pf_X0_108 (pc' := 64) cx (by first | assumption | omega | decide) (by first | assumption | omega | decide) dX0_holdsItem_61 rfl ?_
        refine hg_iconst (pc' := 65) cx 1 dX0_holdsItem_64 (by decide) rfl ?_
        refine hg_zret cx rfl dX0_holdsItem_65 ⟨_, rfl, ?_⟩
        unfold sp_holdsI
        rw [if_pos hnum, if_neg (show ¬ sp_T f L (sp_nx f L b) = 11 from n25), if_pos (show sp_T f L (sp_nx f L b) = 12 from y46), sp_wB0]
        exact ⟨F1.two.tr (F46.two.tr (ck_put2 _ _ _)), Or.inl ⟨rfl, rfl, A46.oth (ck_oth _ _ _ (by decide)), (R2.set (k := 2) (by decide) _).1⟩⟩
    ·
      obtain ⟨y25, -, A25, F25⟩ := h_25.resolve_right (fun z => c_28 z.2.1)
      have R2 := ck_Rep R1 F25
      refine hg_aload1 (pc' := 32) cx dX0_holdsItem_31 rfl ?_
      refine hg_dup (pc' := 33) cx rfl dX0_holdsItem_32 rfl ?_
      refine gf_X0_108 (pc' := 36) cx (by first | assumption | omega | decide) (by first | assumption | omega | decide) dX0_holdsItem_33 rfl ?_
      rw [R2.2.2.1 2 (by decide)]
      refine hg_iload2 (pc' := 37) cx dX0_holdsItem_36 rfl ?_
      refine hg_ior (pc' := 38) cx dX0_holdsItem_37 rfl ?_
      refine pf_X0_108 (pc' := 41) cx (by first | assumption | omega | decide) (by first | assumption | omega | decide) dX0_holdsItem_38 rfl ?_
      refine hg_iconst (pc' := 42) cx 1 dX0_holdsItem_41 (by decide) rfl ?_
      refine hg_zret cx rfl dX0_holdsItem_42 ⟨_, rfl, ?_⟩
      unfold sp_holdsI
      rw [if_pos hnum, if_pos (show sp_T f L (sp_nx f L b) = 11 from y25), sp_wB1]
      exact ⟨F1.two.tr (F25.two.tr (ck_put2 _ _ _)), Or.inl ⟨rfl, rfl, A25.oth (ck_oth _ _ _ (by decide)), (R2.set (k := 2) (by decide) _).1⟩⟩
  ·
    have hnum := hg_b0 c_6
    refine hg_iconst (pc' := 10) cx 0 dX0_holdsItem_9 (by decide) rfl ?_
    refine hg_zret cx rfl dX0_holdsItem_10 ⟨_, rfl, ?_⟩
    unfold sp_holdsI
    rw [if_neg hnum]
    exact ⟨ck_Fr2.rf _, Or.inr ⟨rfl, rfl, hA.2.1⟩⟩
set_option maxHeartbeats 4000000 in
set_option maxRecDepth 100000 in
theorem K_X0_liftItem (l : Launch) (E : hg_Wd) (σ : hg_Mem) (f : Nat → Int32) (L : Nat) (hL : L ≤ 120) (ht : ck_T σ f L) (b : Nat) (hb : b ≤ L) (hA : ck_At σ f L b) (C : sp_C) (n : Nat) (hR : sp_Rep σ 2 C n) : hg_C l E yX0_liftItem cX0_liftItem 2 (some .boolean) { frames := 2, cells := 0, slots := 0, locals := 44 } [.ref (hg_ad E 9), .ref (hg_ad E 2)] σ (hg_pi (fun r τ => ck_It σ τ r f L (sp_liftI f L b C n))) := by
  refine hg_intro (by decide) [some (.ref (hg_ad E 9)), some (.ref (hg_ad E 2))] rfl (Nat.le_of_ble_eq_true rfl) ?_
  intro p e s m args below meth c cx
  have cx : hg_Cx E p s m args meth c cX0_liftItem 2 RX0 (some .boolean) := cx
  have hn2 : σ.1 2 3 = nI n := (hR.2.2.1 3 (by decide)).trans hR.2.1
  have hn10 := hR.1
  refine hg_aload0 (pc' := 1) cx dX0_liftItem_0 rfl ?_
  refine hg_aload1 (pc' := 2) cx dX0_liftItem_1 rfl ?_
  refine gf_X0_79 (pc' := 5) cx (by first | assumption | omega | decide) (by first | assumption | omega | decide) dX0_liftItem_2 rfl ?_
  rw [hn2]
  refine hg_iconst (pc' := 6) cx 1 dX0_liftItem_5 (by decide) rfl ?_
  refine hg_isub (pc' := 7) cx dX0_liftItem_6 rfl ?_
  refine cv_X0_84 (pc' := 10) cx (K_X0_isNumberUpTo l E _ f L hL ht b hb hA _) ⟨rfl, rfl, Nat.le_of_ble_eq_true rfl, Nat.le_of_ble_eq_true rfl⟩ (Nat.le_of_ble_eq_true rfl) dX0_liftItem_7 rfl (fun r_7 τ_7 h_7 => ?_)
  obtain ⟨rfl, rfl⟩ := h_7
  refine hg_if_ne (pc' := 13) cx 15 dX0_liftItem_10 (by decide) rfl (fun c_10 => ?_) (fun c_10 => ?_)
  ·
    have hnum := hg_b1 c_10
    obtain ⟨j, hjn, ej⟩ := sp_num_lt hn10 hnum
    refine hg_aload1 (pc' := 16) cx dX0_liftItem_15 rfl ?_
    refine hg_aload0 (pc' := 17) cx dX0_liftItem_16 rfl ?_
    refine gf_X0_88 (pc' := 20) cx dX0_liftItem_17 rfl ?_
    rw [hA.2.2.2 hnum.1, ej]
    refine cv_X0_113 (pc' := 23) cx (by first | assumption | omega | decide) (by first | assumption | omega | decide) (K_X3_has l E _ 2 (by decide) (by decide) n hR.1 hn2 _) ⟨rfl, rfl, Nat.le_of_ble_eq_true rfl, Nat.le_of_ble_eq_true rfl⟩ (Nat.le_of_ble_eq_true rfl) dX0_liftItem_20 rfl (fun r_20 τ_20 h_20 => ?_)
    obtain ⟨rfl, rfl⟩ := h_20
    refine hg_if_eq (pc' := 26) cx 39 dX0_liftItem_23 (by decide) rfl (fun c_23 => ?_) (fun c_23 => ?_)
    ·
      exact absurd ⟨nI_pos' (by omega), nI_lt hjn (by omega)⟩ (hg_b0 c_23)
    ·
      refine hg_aload1 (pc' := 27) cx dX0_liftItem_26 rfl ?_
      refine gf_X0_75 (pc' := 30) cx (by first | assumption | omega | decide) (by first | assumption | omega | decide) dX0_liftItem_27 rfl ?_
      refine hg_aload0 (pc' := 31) cx dX0_liftItem_30 rfl ?_
      refine gf_X0_88 (pc' := 34) cx dX0_liftItem_31 rfl ?_
      rw [hA.2.2.2 hnum.1, ej]
      refine hg_seat (t := 2) (j := j) cx (by decide) (by decide) (by omega) dX0_liftItem_34 rfl ?_
      refine hg_iconst (pc' := 36) cx 0 dX0_liftItem_35 (by decide) rfl ?_
      refine pf_X0_101 (pc' := 39) cx (by first | assumption | omega | decide) (by first | assumption | omega | decide) dX0_liftItem_36 rfl ?_
      refine hg_aload0 (pc' := 40) cx dX0_liftItem_39 rfl ?_
      refine cv_X0_22 (pc' := 43) cx (K_X0_next l E _ f L hL (ht.fr (ck_putH _ (by omega) _ _)) (sp_e f L b) (sp_e_le f hb) (by rw [ck_oth _ _ _ (by omega)]; exact hA.2.2.1)) ⟨rfl, rfl, Nat.le_of_ble_eq_true rfl, Nat.le_of_ble_eq_true rfl⟩ (Nat.le_of_ble_eq_true rfl) dX0_liftItem_40 rfl (fun τ_40 h_40 => ?_)
      skip
      refine hg_iconst (pc' := 44) cx 1 dX0_liftItem_43 (by decide) rfl ?_
      refine hg_zret cx rfl dX0_liftItem_44 ⟨_, rfl, ?_⟩
      unfold sp_liftI
      rw [if_pos hnum, ej, nI_clamp (by omega)]
      exact ⟨(ck_putH _ (by omega) _ _).tr h_40.2.two, Or.inl ⟨rfl, rfl, h_40.1, ck_Rep (hR.setH hjn (sp_Ag.up (fun y hy => hR.2.2.2 j hjn y hy) 5 (rfl : (0 : Int32) = 0))).1 h_40.2⟩⟩
  ·
    have hnum := hg_b0 c_10
    refine hg_iconst (pc' := 14) cx 0 dX0_liftItem_13 (by decide) rfl ?_
    refine hg_zret cx rfl dX0_liftItem_14 ⟨_, rfl, ?_⟩
    unfold sp_liftI
    rw [if_neg hnum]
    exact ⟨ck_Fr2.rf _, Or.inr ⟨rfl, rfl, hA.2.1⟩⟩
set_option maxHeartbeats 4000000 in
set_option maxRecDepth 100000 in
theorem K_X0_hatItem (l : Launch) (E : hg_Wd) (σ : hg_Mem) (f : Nat → Int32) (L : Nat) (hL : L ≤ 120) (ht : ck_T σ f L) (b : Nat) (hb : b ≤ L) (hA : ck_At σ f L b) (C : sp_C) (n : Nat) (hR : sp_Rep σ 2 C n) (k : Nat) : hg_C l E yX0_hatItem cX0_hatItem 4 (some .boolean) { frames := 7, cells := 0, slots := 0, locals := 150 } [.ref (hg_ad E 9), .ref (hg_ad E 2), .int (nI k)] σ (hg_pi (fun r τ => ck_It σ τ r f L (sp_hatI f L k b C n))) := by
  refine hg_intro (by decide) [some (.ref (hg_ad E 9)), some (.ref (hg_ad E 2)), some (.int (nI k)), none] rfl (Nat.le_of_ble_eq_true rfl) ?_
  intro p e s m args below meth c cx
  have cx : hg_Cx E p s m args meth c cX0_hatItem 4 RX0 (some .boolean) := cx
  have hn2 : σ.1 2 3 = nI n := (hR.2.2.1 3 (by decide)).trans hR.2.1
  have hn10 := hR.1
  have hb1 := sp_nx_le f hb
  have hb3 := (sp_prh_ge f 6 255 0 hb1).2
  have hb4 := (sp_prh_ge f 7 99 50 hb3).2
  refine hg_aload1 (pc' := 1) cx dX0_hatItem_0 rfl ?_
  refine cv_X0_65 (pc' := 4) cx (by first | assumption | omega | decide) (by first | assumption | omega | decide) (K_X3_isFull l E _ 2 (by decide) (by decide)) ⟨rfl, rfl, Nat.le_of_ble_eq_true rfl, Nat.le_of_ble_eq_true rfl⟩ (Nat.le_of_ble_eq_true rfl) dX0_hatItem_1 rfl (fun r_1 τ_1 h_1 => ?_)
  obtain ⟨rfl, rfl⟩ := h_1
  refine hg_if_eq (pc' := 7) cx 9 dX0_hatItem_4 (by decide) rfl (fun c_4 => ?_) (fun c_4 => ?_)
  ·
    have hlt : n < 10 := by
      rcases Nat.lt_or_ge n 10 with q | q
      · exact q
      · exact absurd (by rw [hn2]; exact nI_le q (by omega)) (hg_b0 c_4)
    refine hg_aload1 (pc' := 10) cx dX0_hatItem_9 rfl ?_
    refine hg_iload2 (pc' := 11) cx dX0_hatItem_10 rfl ?_
    refine hg_iconst (pc' := 12) cx 0 dX0_hatItem_11 (by decide) rfl ?_
    refine cv_X0_71 (pc' := 15) cx (by first | assumption | omega | decide) (by first | assumption | omega | decide) (K_X3_add l E _ 2 (by decide) (by decide) n hlt hn2 (nI k) 0) ⟨rfl, rfl, Nat.le_of_ble_eq_true rfl, Nat.le_of_ble_eq_true rfl⟩ (Nat.le_of_ble_eq_true rfl) dX0_hatItem_12 rfl (fun τ_12 h_12 => ?_)
    have hF0 := (hR.add hlt (nI k) 0).2
    have R1 : sp_Rep τ_12 2 (sp_addC C n (sp_newF (nI k) 0 50 1)) (n + 1) := by rw [h_12]; exact (hR.add hlt (nI k) 0).1
    rw [← h_12] at hF0
    have F1 : ck_Fr2 σ τ_12 := ⟨hF0.1, fun i _ h2 h3 => hF0.2 i h2 (by omega)⟩
    have A1 := hA.oth (hF0.2 9 (by decide) (by decide))
    have t1 := ht.fr F1
    have hn3 : τ_12.1 2 3 = nI (n + 1) := (R1.2.2.1 3 (by decide)).trans R1.2.1
    refine hg_aload1 (pc' := 16) cx dX0_hatItem_15 rfl ?_
    refine gf_X0_75 (pc' := 19) cx (by first | assumption | omega | decide) (by first | assumption | omega | decide) dX0_hatItem_16 rfl ?_
    refine hg_aload1 (pc' := 20) cx dX0_hatItem_19 rfl ?_
    refine gf_X0_79 (pc' := 23) cx (by first | assumption | omega | decide) (by first | assumption | omega | decide) dX0_hatItem_20 rfl ?_
    rw [hn3]
    refine hg_iconst (pc' := 24) cx 1 dX0_hatItem_23 (by decide) rfl ?_
    refine hg_isub (pc' := 25) cx dX0_hatItem_24 rfl ?_
    rw [nI_pred]
    refine hg_seat (t := 2) (j := n) cx (by decide) (by decide) (by omega) dX0_hatItem_25 rfl ?_
    refine hg_astore3 (pc' := 27) cx rfl dX0_hatItem_26 rfl ?_
    refine hg_aload0 (pc' := 28) cx dX0_hatItem_27 rfl ?_
    refine cv_X0_22 (pc' := 31) cx (K_X0_next l E _ f L hL t1 (sp_e f L b) (sp_e_le f hb) A1.2.2.1) ⟨rfl, rfl, Nat.le_of_ble_eq_true rfl, Nat.le_of_ble_eq_true rfl⟩ (Nat.le_of_ble_eq_true rfl) dX0_hatItem_28 rfl (fun τ_28 h_28 => ?_)
    obtain ⟨A2, F2⟩ := h_28
    have t2 := t1.fr F2.two
    have R2 := ck_Rep R1 F2
    refine hg_aload0 (pc' := 32) cx dX0_hatItem_31 rfl ?_
    refine hg_ldcS (pc' := 34) (i := 6) (tx := "view") cx rfl dX0_hatItem_32 rfl ?_
    refine cv_X0_48 (pc' := 37) cx (K_X0_takes l E _ f L hL t2 (sp_nx f L b) hb1 A2 6 (by decide)) ⟨rfl, rfl, Nat.le_of_ble_eq_true rfl, Nat.le_of_ble_eq_true rfl⟩ (Nat.le_of_ble_eq_true rfl) dX0_hatItem_34 rfl (fun r_34 τ_34 h_34 => ?_)
    skip
    refine hg_if_eq (pc' := 40) cx 64 dX0_hatItem_37 (by decide) rfl (fun c_37 => ?_) (fun c_37 => ?_)
    ·
      obtain ⟨n34, -, e34⟩ := h_34.resolve_left (fun z => absurd (z.2.1.symm.trans c_37) (by decide))
      subst e34
      have eP : (sp_prh f L 6 255 0 (sp_nx f L b)) = (true, sp_nx f L b, 0) := by unfold sp_prh; rw [if_neg (show ¬ sp_T f L (sp_nx f L b) = 6 from n34)]
      have A3 : ck_At τ_28 f L (sp_prh f L 6 255 0 (sp_nx f L b)).2.1 := by rw [eP]; exact A2
      have R3 : sp_Rep τ_28 2 (sp_addC C n (sp_newF (nI k) (sp_prh f L 6 255 0 (sp_nx f L b)).2.2 50 1)) (n + 1) := by rw [eP]; exact R2
      have F3 : ck_Fr2 σ τ_28 := F1.tr F2.two
      have ok1 : ¬ (sp_prh f L 6 255 0 (sp_nx f L b)).1 = false := by rw [eP]; exact fun z => Bool.noConfusion z
      have t3 := ht.fr F3
      refine hg_aload0 (pc' := 65) cx dX0_hatItem_64 rfl ?_
      refine hg_ldcS (pc' := 67) (i := 7) (tx := "faith") cx rfl dX0_hatItem_65 rfl ?_
      refine cv_X0_48 (pc' := 70) cx (K_X0_takes l E _ f L hL t3 (sp_prh f L 6 255 0 (sp_nx f L b)).2.1 hb3 A3 7 (by decide)) ⟨rfl, rfl, Nat.le_of_ble_eq_true rfl, Nat.le_of_ble_eq_true rfl⟩ (Nat.le_of_ble_eq_true rfl) dX0_hatItem_67 rfl (fun r_67 τ_67 h_67 => ?_)
      skip
      refine hg_if_eq (pc' := 73) cx 96 dX0_hatItem_70 (by decide) rfl (fun c_70 => ?_) (fun c_70 => ?_)
      ·
        obtain ⟨n67, -, e67⟩ := h_67.resolve_left (fun z => absurd (z.2.1.symm.trans c_70) (by decide))
        subst e67
        have eQ : (sp_prh f L 7 99 50 (sp_prh f L 6 255 0 (sp_nx f L b)).2.1) = (true, (sp_prh f L 6 255 0 (sp_nx f L b)).2.1, 50) := by rw [sp_prh, if_neg (show ¬ sp_T f L (sp_prh f L 6 255 0 (sp_nx f L b)).2.1 = 7 from n67)]
        have A4 := A3
        rw [show (sp_prh f L 6 255 0 (sp_nx f L b)).2.1 = (sp_prh f L 7 99 50 (sp_prh f L 6 255 0 (sp_nx f L b)).2.1).2.1 from by rw [eQ]] at A4
        have R4 := R3
        rw [show (50 : Int32) = (sp_prh f L 7 99 50 (sp_prh f L 6 255 0 (sp_nx f L b)).2.1).2.2 from by rw [eQ]] at R4
        have F4 := F3
        have ok2 : ¬ (sp_prh f L 7 99 50 (sp_prh f L 6 255 0 (sp_nx f L b)).2.1).1 = false := by rw [eQ]; exact fun z => Bool.noConfusion z
        have t4 := t3
        refine hg_aload0 (pc' := 97) cx dX0_hatItem_96 rfl ?_
        refine hg_ldcS (pc' := 99) (i := 8) (tx := "off") cx rfl dX0_hatItem_97 rfl ?_
        refine cv_X0_48 (pc' := 102) cx (K_X0_takes l E _ f L hL t4 (sp_prh f L 7 99 50 (sp_prh f L 6 255 0 (sp_nx f L b)).2.1).2.1 hb4 A4 8 (by decide)) ⟨rfl, rfl, Nat.le_of_ble_eq_true rfl, Nat.le_of_ble_eq_true rfl⟩ (Nat.le_of_ble_eq_true rfl) dX0_hatItem_99 rfl (fun r_99 τ_99 h_99 => ?_)
        skip
        refine hg_if_eq (pc' := 105) cx 110 dX0_hatItem_102 (by decide) rfl (fun c_102 => ?_) (fun c_102 => ?_)
        ·
          obtain ⟨n99, -, e99⟩ := h_99.resolve_left (fun z => absurd (z.2.1.symm.trans c_102) (by decide))
          subst e99
          refine hg_iconst (pc' := 111) cx 1 dX0_hatItem_110 (by decide) rfl ?_
          refine hg_zret cx rfl dX0_hatItem_111 ⟨_, rfl, ?_⟩
          unfold sp_hatI
          rw [if_neg (show ¬ 10 ≤ n by omega), if_neg ok1, if_neg ok2, if_neg (show ¬ sp_T f L (sp_prh f L 7 99 50 (sp_prh f L 6 255 0 (sp_nx f L b)).2.1).2.1 = 8 from n99)]
          exact ⟨F4, Or.inl ⟨rfl, rfl, A4, R4⟩⟩
        ·
          obtain ⟨y99, -, A99, F99⟩ := h_99.resolve_right (fun z => c_102 z.2.1)
          refine hg_aload3 (pc' := 106) cx dX0_hatItem_105 rfl ?_
          refine hg_iconst (pc' := 107) cx 0 dX0_hatItem_106 (by decide) rfl ?_
          refine pf_X0_101 (pc' := 110) cx (by first | assumption | omega | decide) (by first | assumption | omega | decide) dX0_hatItem_107 rfl ?_
          refine hg_iconst (pc' := 111) cx 1 dX0_hatItem_110 (by decide) rfl ?_
          refine hg_zret cx rfl dX0_hatItem_111 ⟨_, rfl, ?_⟩
          unfold sp_hatI
          rw [if_neg (show ¬ 10 ≤ n by omega), if_neg ok1, if_neg ok2, if_pos (show sp_T f L (sp_prh f L 7 99 50 (sp_prh f L 6 255 0 (sp_nx f L b)).2.1).2.1 = 8 from y99)]
          exact ⟨F4.tr (F99.two.tr (ck_putH _ hlt _ _)), Or.inl ⟨rfl, rfl, A99.oth (ck_oth _ _ _ (by omega)), sp_Rep.addH hlt (ck_Rep R4 F99) 5 _ (sp_newF_5 _ _ _ _ _)⟩⟩
      ·
        obtain ⟨y67, -, A67, F67⟩ := h_67.resolve_right (fun z => c_70 z.2.1)
        refine hg_aload0 (pc' := 74) cx dX0_hatItem_73 rfl ?_
        refine hg_bipush (pc' := 76) cx 99 dX0_hatItem_74 (by decide) rfl ?_
        refine cv_X0_84 (pc' := 79) cx (K_X0_isNumberUpTo l E _ f L hL (t3.fr F67.two) (sp_nx f L (sp_prh f L 6 255 0 (sp_nx f L b)).2.1) (sp_nx_le f hb3) A67 _) ⟨rfl, rfl, Nat.le_of_ble_eq_true rfl, Nat.le_of_ble_eq_true rfl⟩ (Nat.le_of_ble_eq_true rfl) dX0_hatItem_76 rfl (fun r_76 τ_76 h_76 => ?_)
        obtain ⟨rfl, rfl⟩ := h_76
        refine hg_if_ne (pc' := 82) cx 84 dX0_hatItem_79 (by decide) rfl (fun c_79 => ?_) (fun c_79 => ?_)
        ·
          have hnum2 := hg_b1 c_79
          refine hg_aload3 (pc' := 85) cx dX0_hatItem_84 rfl ?_
          refine hg_aload0 (pc' := 86) cx dX0_hatItem_85 rfl ?_
          refine gf_X0_88 (pc' := 89) cx dX0_hatItem_86 rfl ?_
          rw [A67.2.2.2 hnum2.1]
          refine pf_X0_97 (pc' := 92) cx (by first | assumption | omega | decide) (by first | assumption | omega | decide) dX0_hatItem_89 rfl ?_
          refine hg_aload0 (pc' := 93) cx dX0_hatItem_92 rfl ?_
          refine cv_X0_22 (pc' := 96) cx (K_X0_next l E _ f L hL ((t3.fr F67.two).fr (ck_putH _ hlt _ _)) (sp_e f L (sp_nx f L (sp_prh f L 6 255 0 (sp_nx f L b)).2.1)) (sp_e_le f (sp_nx_le f hb3)) (by rw [ck_oth _ _ _ (by omega)]; exact A67.2.2.1)) ⟨rfl, rfl, Nat.le_of_ble_eq_true rfl, Nat.le_of_ble_eq_true rfl⟩ (Nat.le_of_ble_eq_true rfl) dX0_hatItem_93 rfl (fun τ_93 h_93 => ?_)
          obtain ⟨A93, F93⟩ := h_93
          have eQ : (sp_prh f L 7 99 50 (sp_prh f L 6 255 0 (sp_nx f L b)).2.1) = (true, sp_nx f L (sp_nx f L (sp_prh f L 6 255 0 (sp_nx f L b)).2.1), sp_v f L (sp_nx f L (sp_prh f L 6 255 0 (sp_nx f L b)).2.1)) := by rw [sp_prh, if_pos (show sp_T f L (sp_prh f L 6 255 0 (sp_nx f L b)).2.1 = 7 from y67), if_pos hnum2]
          have A4 : ck_At τ_93 f L (sp_prh f L 7 99 50 (sp_prh f L 6 255 0 (sp_nx f L b)).2.1).2.1 := by rw [eQ]; exact A93
          have R4 : sp_Rep τ_93 2 (sp_addC C n (sp_newF (nI k) (sp_prh f L 6 255 0 (sp_nx f L b)).2.2 (sp_prh f L 7 99 50 (sp_prh f L 6 255 0 (sp_nx f L b)).2.1).2.2 1)) (n + 1) := by rw [eQ]; exact ck_Rep (sp_Rep.addH hlt (ck_Rep R3 F67) 4 _ (sp_newF_4 _ _ _ _ _)) F93
          have F4 : ck_Fr2 σ τ_93 := F3.tr (F67.two.tr ((ck_putH _ hlt _ _).tr F93.two))
          have ok2 : ¬ (sp_prh f L 7 99 50 (sp_prh f L 6 255 0 (sp_nx f L b)).2.1).1 = false := by rw [eQ]; exact fun z => Bool.noConfusion z
          have t4 := ht.fr F4
          refine hg_aload0 (pc' := 97) cx dX0_hatItem_96 rfl ?_
          refine hg_ldcS (pc' := 99) (i := 8) (tx := "off") cx rfl dX0_hatItem_97 rfl ?_
          refine cv_X0_48 (pc' := 102) cx (K_X0_takes l E _ f L hL t4 (sp_prh f L 7 99 50 (sp_prh f L 6 255 0 (sp_nx f L b)).2.1).2.1 hb4 A4 8 (by decide)) ⟨rfl, rfl, Nat.le_of_ble_eq_true rfl, Nat.le_of_ble_eq_true rfl⟩ (Nat.le_of_ble_eq_true rfl) dX0_hatItem_99 rfl (fun r_99 τ_99 h_99 => ?_)
          skip
          refine hg_if_eq (pc' := 105) cx 110 dX0_hatItem_102 (by decide) rfl (fun c_102 => ?_) (fun c_102 => ?_)
          ·
            obtain ⟨n99, -, e99⟩ := h_99.resolve_left (fun z => absurd (z.2.1.symm.trans c_102) (by decide))
            subst e99
            refine hg_iconst (pc' := 111) cx 1 dX0_hatItem_110 (by decide) rfl ?_
            refine hg_zret cx rfl dX0_hatItem_111 ⟨_, rfl, ?_⟩
            unfold sp_hatI
            rw [if_neg (show ¬ 10 ≤ n by omega), if_neg ok1, if_neg ok2, if_neg (show ¬ sp_T f L (sp_prh f L 7 99 50 (sp_prh f L 6 255 0 (sp_nx f L b)).2.1).2.1 = 8 from n99)]
            exact ⟨F4, Or.inl ⟨rfl, rfl, A4, R4⟩⟩
          ·
            obtain ⟨y99, -, A99, F99⟩ := h_99.resolve_right (fun z => c_102 z.2.1)
            refine hg_aload3 (pc' := 106) cx dX0_hatItem_105 rfl ?_
            refine hg_iconst (pc' := 107) cx 0 dX0_hatItem_106 (by decide) rfl ?_
            refine pf_X0_101 (pc' := 110) cx (by first | assumption | omega | decide) (by first | assumption | omega | decide) dX0_hatItem_107 rfl ?_
            refine hg_iconst (pc' := 111) cx 1 dX0_hatItem_110 (by decide) rfl ?_
            refine hg_zret cx rfl dX0_hatItem_111 ⟨_, rfl, ?_⟩
            unfold sp_hatI
            rw [if_neg (show ¬ 10 ≤ n by omega), if_neg ok1, if_neg ok2, if_pos (show sp_T f L (sp_prh f L 7 99 50 (sp_prh f L 6 255 0 (sp_nx f L b)).2.1).2.1 = 8 from y99)]
            exact ⟨F4.tr (F99.two.tr (ck_putH _ hlt _ _)), Or.inl ⟨rfl, rfl, A99.oth (ck_oth _ _ _ (by omega)), sp_Rep.addH hlt (ck_Rep R4 F99) 5 _ (sp_newF_5 _ _ _ _ _)⟩⟩
        ·
          have hnum2 := hg_b0 c_79
          have eQ : (sp_prh f L 7 99 50 (sp_prh f L 6 255 0 (sp_nx f L b)).2.1) = (false, sp_nx f L (sp_prh f L 6 255 0 (sp_nx f L b)).2.1, 0) := by rw [sp_prh, if_pos (show sp_T f L (sp_prh f L 6 255 0 (sp_nx f L b)).2.1 = 7 from y67), if_neg hnum2]
          refine hg_iconst (pc' := 83) cx 0 dX0_hatItem_82 (by decide) rfl ?_
          refine hg_zret cx rfl dX0_hatItem_83 ⟨_, rfl, ?_⟩
          unfold sp_hatI
          rw [if_neg (show ¬ 10 ≤ n by omega), if_neg ok1, if_pos (by rw [eQ]), eQ]
          exact ⟨F3.tr F67.two, Or.inr ⟨rfl, rfl, A67.2.1⟩⟩
    ·
      obtain ⟨y34, -, A34, F34⟩ := h_34.resolve_right (fun z => c_37 z.2.1)
      refine hg_aload0 (pc' := 41) cx dX0_hatItem_40 rfl ?_
      refine hg_sipush (pc' := 44) cx 255 dX0_hatItem_41 (by decide) rfl ?_
      refine cv_X0_84 (pc' := 47) cx (K_X0_isNumberUpTo l E _ f L hL (t2.fr F34.two) (sp_nx f L (sp_nx f L b)) (sp_nx_le f hb1) A34 _) ⟨rfl, rfl, Nat.le_of_ble_eq_true rfl, Nat.le_of_ble_eq_true rfl⟩ (Nat.le_of_ble_eq_true rfl) dX0_hatItem_44 rfl (fun r_44 τ_44 h_44 => ?_)
      obtain ⟨rfl, rfl⟩ := h_44
      refine hg_if_ne (pc' := 50) cx 52 dX0_hatItem_47 (by decide) rfl (fun c_47 => ?_) (fun c_47 => ?_)
      ·
        have hnum := hg_b1 c_47
        refine hg_aload3 (pc' := 53) cx dX0_hatItem_52 rfl ?_
        refine hg_aload0 (pc' := 54) cx dX0_hatItem_53 rfl ?_
        refine gf_X0_88 (pc' := 57) cx dX0_hatItem_54 rfl ?_
        rw [A34.2.2.2 hnum.1]
        refine pf_X0_91 (pc' := 60) cx (by first | assumption | omega | decide) (by first | assumption | omega | decide) dX0_hatItem_57 rfl ?_
        refine hg_aload0 (pc' := 61) cx dX0_hatItem_60 rfl ?_
        refine cv_X0_22 (pc' := 64) cx (K_X0_next l E _ f L hL ((t2.fr F34.two).fr (ck_putH _ hlt _ _)) (sp_e f L (sp_nx f L (sp_nx f L b))) (sp_e_le f (sp_nx_le f hb1)) (by rw [ck_oth _ _ _ (by omega)]; exact A34.2.2.1)) ⟨rfl, rfl, Nat.le_of_ble_eq_true rfl, Nat.le_of_ble_eq_true rfl⟩ (Nat.le_of_ble_eq_true rfl) dX0_hatItem_61 rfl (fun τ_61 h_61 => ?_)
        obtain ⟨A61, F61⟩ := h_61
        have eP : (sp_prh f L 6 255 0 (sp_nx f L b)) = (true, sp_nx f L (sp_nx f L (sp_nx f L b)), sp_v f L (sp_nx f L (sp_nx f L b))) := by unfold sp_prh; rw [if_pos (show sp_T f L (sp_nx f L b) = 6 from y34), if_pos hnum]
        have A3 : ck_At τ_61 f L (sp_prh f L 6 255 0 (sp_nx f L b)).2.1 := by rw [eP]; exact A61
        have R3 : sp_Rep τ_61 2 (sp_addC C n (sp_newF (nI k) (sp_prh f L 6 255 0 (sp_nx f L b)).2.2 50 1)) (n + 1) := by rw [eP]; exact ck_Rep (sp_Rep.addH hlt (ck_Rep R2 F34) 1 _ (sp_newF_1 _ _ _ _ _)) F61
        have F3 : ck_Fr2 σ τ_61 := F1.tr (F2.two.tr (F34.two.tr ((ck_putH _ hlt _ _).tr F61.two)))
        have ok1 : ¬ (sp_prh f L 6 255 0 (sp_nx f L b)).1 = false := by rw [eP]; exact fun z => Bool.noConfusion z
        have t3 := ht.fr F3
        refine hg_aload0 (pc' := 65) cx dX0_hatItem_64 rfl ?_
        refine hg_ldcS (pc' := 67) (i := 7) (tx := "faith") cx rfl dX0_hatItem_65 rfl ?_
        refine cv_X0_48 (pc' := 70) cx (K_X0_takes l E _ f L hL t3 (sp_prh f L 6 255 0 (sp_nx f L b)).2.1 hb3 A3 7 (by decide)) ⟨rfl, rfl, Nat.le_of_ble_eq_true rfl, Nat.le_of_ble_eq_true rfl⟩ (Nat.le_of_ble_eq_true rfl) dX0_hatItem_67 rfl (fun r_67 τ_67 h_67 => ?_)
        skip
        refine hg_if_eq (pc' := 73) cx 96 dX0_hatItem_70 (by decide) rfl (fun c_70 => ?_) (fun c_70 => ?_)
        ·
          obtain ⟨n67, -, e67⟩ := h_67.resolve_left (fun z => absurd (z.2.1.symm.trans c_70) (by decide))
          subst e67
          have eQ : (sp_prh f L 7 99 50 (sp_prh f L 6 255 0 (sp_nx f L b)).2.1) = (true, (sp_prh f L 6 255 0 (sp_nx f L b)).2.1, 50) := by rw [sp_prh, if_neg (show ¬ sp_T f L (sp_prh f L 6 255 0 (sp_nx f L b)).2.1 = 7 from n67)]
          have A4 := A3
          rw [show (sp_prh f L 6 255 0 (sp_nx f L b)).2.1 = (sp_prh f L 7 99 50 (sp_prh f L 6 255 0 (sp_nx f L b)).2.1).2.1 from by rw [eQ]] at A4
          have R4 := R3
          rw [show (50 : Int32) = (sp_prh f L 7 99 50 (sp_prh f L 6 255 0 (sp_nx f L b)).2.1).2.2 from by rw [eQ]] at R4
          have F4 := F3
          have ok2 : ¬ (sp_prh f L 7 99 50 (sp_prh f L 6 255 0 (sp_nx f L b)).2.1).1 = false := by rw [eQ]; exact fun z => Bool.noConfusion z
          have t4 := t3
          refine hg_aload0 (pc' := 97) cx dX0_hatItem_96 rfl ?_
          refine hg_ldcS (pc' := 99) (i := 8) (tx := "off") cx rfl dX0_hatItem_97 rfl ?_
          refine cv_X0_48 (pc' := 102) cx (K_X0_takes l E _ f L hL t4 (sp_prh f L 7 99 50 (sp_prh f L 6 255 0 (sp_nx f L b)).2.1).2.1 hb4 A4 8 (by decide)) ⟨rfl, rfl, Nat.le_of_ble_eq_true rfl, Nat.le_of_ble_eq_true rfl⟩ (Nat.le_of_ble_eq_true rfl) dX0_hatItem_99 rfl (fun r_99 τ_99 h_99 => ?_)
          skip
          refine hg_if_eq (pc' := 105) cx 110 dX0_hatItem_102 (by decide) rfl (fun c_102 => ?_) (fun c_102 => ?_)
          ·
            obtain ⟨n99, -, e99⟩ := h_99.resolve_left (fun z => absurd (z.2.1.symm.trans c_102) (by decide))
            subst e99
            refine hg_iconst (pc' := 111) cx 1 dX0_hatItem_110 (by decide) rfl ?_
            refine hg_zret cx rfl dX0_hatItem_111 ⟨_, rfl, ?_⟩
            unfold sp_hatI
            rw [if_neg (show ¬ 10 ≤ n by omega), if_neg ok1, if_neg ok2, if_neg (show ¬ sp_T f L (sp_prh f L 7 99 50 (sp_prh f L 6 255 0 (sp_nx f L b)).2.1).2.1 = 8 from n99)]
            exact ⟨F4, Or.inl ⟨rfl, rfl, A4, R4⟩⟩
          ·
            obtain ⟨y99, -, A99, F99⟩ := h_99.resolve_right (fun z => c_102 z.2.1)
            refine hg_aload3 (pc' := 106) cx dX0_hatItem_105 rfl ?_
            refine hg_iconst (pc' := 107) cx 0 dX0_hatItem_106 (by decide) rfl ?_
            refine pf_X0_101 (pc' := 110) cx (by first | assumption | omega | decide) (by first | assumption | omega | decide) dX0_hatItem_107 rfl ?_
            refine hg_iconst (pc' := 111) cx 1 dX0_hatItem_110 (by decide) rfl ?_
            refine hg_zret cx rfl dX0_hatItem_111 ⟨_, rfl, ?_⟩
            unfold sp_hatI
            rw [if_neg (show ¬ 10 ≤ n by omega), if_neg ok1, if_neg ok2, if_pos (show sp_T f L (sp_prh f L 7 99 50 (sp_prh f L 6 255 0 (sp_nx f L b)).2.1).2.1 = 8 from y99)]
            exact ⟨F4.tr (F99.two.tr (ck_putH _ hlt _ _)), Or.inl ⟨rfl, rfl, A99.oth (ck_oth _ _ _ (by omega)), sp_Rep.addH hlt (ck_Rep R4 F99) 5 _ (sp_newF_5 _ _ _ _ _)⟩⟩
        ·
          obtain ⟨y67, -, A67, F67⟩ := h_67.resolve_right (fun z => c_70 z.2.1)
          refine hg_aload0 (pc' := 74) cx dX0_hatItem_73 rfl ?_
          refine hg_bipush (pc' := 76) cx 99 dX0_hatItem_74 (by decide) rfl ?_
          refine cv_X0_84 (pc' := 79) cx (K_X0_isNumberUpTo l E _ f L hL (t3.fr F67.two) (sp_nx f L (sp_prh f L 6 255 0 (sp_nx f L b)).2.1) (sp_nx_le f hb3) A67 _) ⟨rfl, rfl, Nat.le_of_ble_eq_true rfl, Nat.le_of_ble_eq_true rfl⟩ (Nat.le_of_ble_eq_true rfl) dX0_hatItem_76 rfl (fun r_76 τ_76 h_76 => ?_)
          obtain ⟨rfl, rfl⟩ := h_76
          refine hg_if_ne (pc' := 82) cx 84 dX0_hatItem_79 (by decide) rfl (fun c_79 => ?_) (fun c_79 => ?_)
          ·
            have hnum2 := hg_b1 c_79
            refine hg_aload3 (pc' := 85) cx dX0_hatItem_84 rfl ?_
            refine hg_aload0 (pc' := 86) cx dX0_hatItem_85 rfl ?_
            refine gf_X0_88 (pc' := 89) cx dX0_hatItem_86 rfl ?_
            rw [A67.2.2.2 hnum2.1]
            refine pf_X0_97 (pc' := 92) cx (by first | assumption | omega | decide) (by first | assumption | omega | decide) dX0_hatItem_89 rfl ?_
            refine hg_aload0 (pc' := 93) cx dX0_hatItem_92 rfl ?_
            refine cv_X0_22 (pc' := 96) cx (K_X0_next l E _ f L hL ((t3.fr F67.two).fr (ck_putH _ hlt _ _)) (sp_e f L (sp_nx f L (sp_prh f L 6 255 0 (sp_nx f L b)).2.1)) (sp_e_le f (sp_nx_le f hb3)) (by rw [ck_oth _ _ _ (by omega)]; exact A67.2.2.1)) ⟨rfl, rfl, Nat.le_of_ble_eq_true rfl, Nat.le_of_ble_eq_true rfl⟩ (Nat.le_of_ble_eq_true rfl) dX0_hatItem_93 rfl (fun τ_93 h_93 => ?_)
            obtain ⟨A93, F93⟩ := h_93
            have eQ : (sp_prh f L 7 99 50 (sp_prh f L 6 255 0 (sp_nx f L b)).2.1) = (true, sp_nx f L (sp_nx f L (sp_prh f L 6 255 0 (sp_nx f L b)).2.1), sp_v f L (sp_nx f L (sp_prh f L 6 255 0 (sp_nx f L b)).2.1)) := by rw [sp_prh, if_pos (show sp_T f L (sp_prh f L 6 255 0 (sp_nx f L b)).2.1 = 7 from y67), if_pos hnum2]
            have A4 : ck_At τ_93 f L (sp_prh f L 7 99 50 (sp_prh f L 6 255 0 (sp_nx f L b)).2.1).2.1 := by rw [eQ]; exact A93
            have R4 : sp_Rep τ_93 2 (sp_addC C n (sp_newF (nI k) (sp_prh f L 6 255 0 (sp_nx f L b)).2.2 (sp_prh f L 7 99 50 (sp_prh f L 6 255 0 (sp_nx f L b)).2.1).2.2 1)) (n + 1) := by rw [eQ]; exact ck_Rep (sp_Rep.addH hlt (ck_Rep R3 F67) 4 _ (sp_newF_4 _ _ _ _ _)) F93
            have F4 : ck_Fr2 σ τ_93 := F3.tr (F67.two.tr ((ck_putH _ hlt _ _).tr F93.two))
            have ok2 : ¬ (sp_prh f L 7 99 50 (sp_prh f L 6 255 0 (sp_nx f L b)).2.1).1 = false := by rw [eQ]; exact fun z => Bool.noConfusion z
            have t4 := ht.fr F4
            refine hg_aload0 (pc' := 97) cx dX0_hatItem_96 rfl ?_
            refine hg_ldcS (pc' := 99) (i := 8) (tx := "off") cx rfl dX0_hatItem_97 rfl ?_
            refine cv_X0_48 (pc' := 102) cx (K_X0_takes l E _ f L hL t4 (sp_prh f L 7 99 50 (sp_prh f L 6 255 0 (sp_nx f L b)).2.1).2.1 hb4 A4 8 (by decide)) ⟨rfl, rfl, Nat.le_of_ble_eq_true rfl, Nat.le_of_ble_eq_true rfl⟩ (Nat.le_of_ble_eq_true rfl) dX0_hatItem_99 rfl (fun r_99 τ_99 h_99 => ?_)
            skip
            refine hg_if_eq (pc' := 105) cx 110 dX0_hatItem_102 (by decide) rfl (fun c_102 => ?_) (fun c_102 => ?_)
            ·
              obtain ⟨n99, -, e99⟩ := h_99.resolve_left (fun z => absurd (z.2.1.symm.trans c_102) (by decide))
              subst e99
              refine hg_iconst (pc' := 111) cx 1 dX0_hatItem_110 (by decide) rfl ?_
              refine hg_zret cx rfl dX0_hatItem_111 ⟨_, rfl, ?_⟩
              unfold sp_hatI
              rw [if_neg (show ¬ 10 ≤ n by omega), if_neg ok1, if_neg ok2, if_neg (show ¬ sp_T f L (sp_prh f L 7 99 50 (sp_prh f L 6 255 0 (sp_nx f L b)).2.1).2.1 = 8 from n99)]
              exact ⟨F4, Or.inl ⟨rfl, rfl, A4, R4⟩⟩
            ·
              obtain ⟨y99, -, A99, F99⟩ := h_99.resolve_right (fun z => c_102 z.2.1)
              refine hg_aload3 (pc' := 106) cx dX0_hatItem_105 rfl ?_
              refine hg_iconst (pc' := 107) cx 0 dX0_hatItem_106 (by decide) rfl ?_
              refine pf_X0_101 (pc' := 110) cx (by first | assumption | omega | decide) (by first | assumption | omega | decide) dX0_hatItem_107 rfl ?_
              refine hg_iconst (pc' := 111) cx 1 dX0_hatItem_110 (by decide) rfl ?_
              refine hg_zret cx rfl dX0_hatItem_111 ⟨_, rfl, ?_⟩
              unfold sp_hatI
              rw [if_neg (show ¬ 10 ≤ n by omega), if_neg ok1, if_neg ok2, if_pos (show sp_T f L (sp_prh f L 7 99 50 (sp_prh f L 6 255 0 (sp_nx f L b)).2.1).2.1 = 8 from y99)]
              exact ⟨F4.tr (F99.two.tr (ck_putH _ hlt _ _)), Or.inl ⟨rfl, rfl, A99.oth (ck_oth _ _ _ (by omega)), sp_Rep.addH hlt (ck_Rep R4 F99) 5 _ (sp_newF_5 _ _ _ _ _)⟩⟩
          ·
            have hnum2 := hg_b0 c_79
            have eQ : (sp_prh f L 7 99 50 (sp_prh f L 6 255 0 (sp_nx f L b)).2.1) = (false, sp_nx f L (sp_prh f L 6 255 0 (sp_nx f L b)).2.1, 0) := by rw [sp_prh, if_pos (show sp_T f L (sp_prh f L 6 255 0 (sp_nx f L b)).2.1 = 7 from y67), if_neg hnum2]
            refine hg_iconst (pc' := 83) cx 0 dX0_hatItem_82 (by decide) rfl ?_
            refine hg_zret cx rfl dX0_hatItem_83 ⟨_, rfl, ?_⟩
            unfold sp_hatI
            rw [if_neg (show ¬ 10 ≤ n by omega), if_neg ok1, if_pos (by rw [eQ]), eQ]
            exact ⟨F3.tr F67.two, Or.inr ⟨rfl, rfl, A67.2.1⟩⟩
      ·
        have hnum := hg_b0 c_47
        have eP : (sp_prh f L 6 255 0 (sp_nx f L b)) = (false, sp_nx f L (sp_nx f L b), 0) := by unfold sp_prh; rw [if_pos (show sp_T f L (sp_nx f L b) = 6 from y34), if_neg hnum]
        refine hg_iconst (pc' := 51) cx 0 dX0_hatItem_50 (by decide) rfl ?_
        refine hg_zret cx rfl dX0_hatItem_51 ⟨_, rfl, ?_⟩
        unfold sp_hatI
        rw [if_neg (show ¬ 10 ≤ n by omega), if_pos (by rw [eP]), eP]
        exact ⟨F1.tr (F2.two.tr F34.two), Or.inr ⟨rfl, rfl, A34.2.1⟩⟩
  ·
    have h10 : 10 ≤ n := hg_ge (n := 10) (j := n) rfl (by omega) (by omega) (hn2 ▸ hg_b1 c_4)
    refine hg_iconst (pc' := 8) cx 0 dX0_hatItem_7 (by decide) rfl ?_
    refine hg_zret cx rfl dX0_hatItem_8 ⟨_, rfl, ?_⟩
    unfold sp_hatI
    rw [if_pos h10]
    exact ⟨ck_Fr2.rf _, Or.inr ⟨rfl, rfl, hA.2.1⟩⟩
set_option maxHeartbeats 4000000 in
set_option maxRecDepth 100000 in
theorem K_X0_item (l : Launch) (E : hg_Wd) (σ : hg_Mem) (f : Nat → Int32) (L : Nat) (hL : L ≤ 120) (ht : ck_T σ f L) (b : Nat) (hb : b ≤ L) (hA : ck_At σ f L b) (C : sp_C) (n : Nat) (hR : sp_Rep σ 2 C n) : hg_C l E yX0_item cX0_item 3 (some .boolean) { frames := 8, cells := 0, slots := 0, locals := 173 } [.ref (hg_ad E 9), .ref (hg_ad E 2)] σ (hg_pi (fun r τ => ck_It σ τ r f L (sp_item f L b C n))) := by
  refine hg_intro (by decide) [some (.ref (hg_ad E 9)), some (.ref (hg_ad E 2)), none] rfl (Nat.le_of_ble_eq_true rfl) ?_
  intro p e s m args below meth c cx
  have cx : hg_Cx E p s m args meth c cX0_item 3 RX0 (some .boolean) := cx
  refine hg_aload0 (pc' := 1) cx dX0_item_0 rfl ?_
  refine cv_X0_38 (pc' := 4) cx (K_X0_kindNamed l E _ f L hL ht b hb hA) ⟨rfl, rfl, Nat.le_of_ble_eq_true rfl, Nat.le_of_ble_eq_true rfl⟩ (Nat.le_of_ble_eq_true rfl) dX0_item_1 rfl (fun r_1 τ_1 h_1 => ?_)
  obtain ⟨rfl, rfl⟩ := h_1
  refine hg_istore2 (pc' := 5) cx rfl dX0_item_4 rfl ?_
  refine hg_iload2 (pc' := 6) cx dX0_item_5 rfl ?_
  refine hg_if_lt (pc' := 9) cx 16 dX0_item_6 (by decide) rfl (fun c_6 => ?_) (fun c_6 => ?_)
  ·
    have k6 : ¬ sp_T f L b < 6 := fun z => nI_pos (n := sp_T f L b) (by omega) (by rw [if_pos z] at c_6; exact c_6)
    refine hg_aload0 (pc' := 17) cx dX0_item_16 rfl ?_
    refine hg_ldcS (pc' := 19) (i := 9) (tx := "truth") cx rfl dX0_item_17 rfl ?_
    refine cv_X0_48 (pc' := 22) cx (K_X0_takes l E _ f L hL ht b hb hA 9 (by decide)) ⟨rfl, rfl, Nat.le_of_ble_eq_true rfl, Nat.le_of_ble_eq_true rfl⟩ (Nat.le_of_ble_eq_true rfl) dX0_item_19 rfl (fun r_19 τ_19 h_19 => ?_)
    skip
    refine hg_if_eq (pc' := 25) cx 31 dX0_item_22 (by decide) rfl (fun c_22 => ?_) (fun c_22 => ?_)
    ·
      obtain ⟨n19, -, e19⟩ := h_19.resolve_left (fun z => absurd (z.2.1.symm.trans c_22) (by decide))
      subst e19
      refine hg_aload0 (pc' := 32) cx dX0_item_31 rfl ?_
      refine hg_ldcS (pc' := 34) (i := 10) (tx := "holds") cx rfl dX0_item_32 rfl ?_
      refine cv_X0_48 (pc' := 37) cx (K_X0_takes l E _ f L hL ht b hb hA 10 (by decide)) ⟨rfl, rfl, Nat.le_of_ble_eq_true rfl, Nat.le_of_ble_eq_true rfl⟩ (Nat.le_of_ble_eq_true rfl) dX0_item_34 rfl (fun r_34 τ_34 h_34 => ?_)
      skip
      refine hg_if_eq (pc' := 40) cx 46 dX0_item_37 (by decide) rfl (fun c_37 => ?_) (fun c_37 => ?_)
      ·
        obtain ⟨n34, -, e34⟩ := h_34.resolve_left (fun z => absurd (z.2.1.symm.trans c_37) (by decide))
        subst e34
        refine hg_aload0 (pc' := 47) cx dX0_item_46 rfl ?_
        refine hg_ldcS (pc' := 49) (i := 13) (tx := "lift") cx rfl dX0_item_47 rfl ?_
        refine cv_X0_48 (pc' := 52) cx (K_X0_takes l E _ f L hL ht b hb hA 13 (by decide)) ⟨rfl, rfl, Nat.le_of_ble_eq_true rfl, Nat.le_of_ble_eq_true rfl⟩ (Nat.le_of_ble_eq_true rfl) dX0_item_49 rfl (fun r_49 τ_49 h_49 => ?_)
        skip
        refine hg_if_eq (pc' := 55) cx 61 dX0_item_52 (by decide) rfl (fun c_52 => ?_) (fun c_52 => ?_)
        ·
          obtain ⟨n49, -, e49⟩ := h_49.resolve_left (fun z => absurd (z.2.1.symm.trans c_52) (by decide))
          subst e49
          refine hg_iconst (pc' := 62) cx 0 dX0_item_61 (by decide) rfl ?_
          refine hg_zret cx rfl dX0_item_62 ⟨_, rfl, ?_⟩
          unfold sp_item
          rw [if_neg k6, if_neg (show ¬ sp_T f L b = 9 from n19), if_neg (show ¬ sp_T f L b = 10 from n34), if_neg (show ¬ sp_T f L b = 13 from n49)]
          exact ⟨ck_Fr2.rf _, Or.inr ⟨rfl, rfl, hA.2.1⟩⟩
        ·
          obtain ⟨y49, -, A49, F49⟩ := h_49.resolve_right (fun z => c_52 z.2.1)
          refine hg_aload0 (pc' := 56) cx dX0_item_55 rfl ?_
          refine hg_aload1 (pc' := 57) cx dX0_item_56 rfl ?_
          refine cv_X0_62 (pc' := 60) cx (K_X0_liftItem l E _ f L hL (ht.fr F49.two) (sp_nx f L b) (sp_nx_le f hb) A49 C n (ck_Rep hR F49)) ⟨rfl, rfl, Nat.le_of_ble_eq_true rfl, Nat.le_of_ble_eq_true rfl⟩ (Nat.le_of_ble_eq_true rfl) dX0_item_57 rfl (fun r_57 τ_57 h_57 => ?_)
          skip
          refine hg_zret cx (ck_It.z h_57) dX0_item_60 ⟨_, rfl, ?_⟩
          unfold sp_item
          rw [if_neg k6, if_neg (show ¬ sp_T f L b = 9 from n19), if_neg (show ¬ sp_T f L b = 10 from n34), if_pos (show sp_T f L b = 13 from y49)]
          exact ck_It.fr F49.two h_57
      ·
        obtain ⟨y34, -, A34, F34⟩ := h_34.resolve_right (fun z => c_37 z.2.1)
        refine hg_aload0 (pc' := 41) cx dX0_item_40 rfl ?_
        refine hg_aload1 (pc' := 42) cx dX0_item_41 rfl ?_
        refine cv_X0_57 (pc' := 45) cx (K_X0_holdsItem l E _ f L hL (ht.fr F34.two) (sp_nx f L b) (sp_nx_le f hb) A34 C n (ck_Rep hR F34)) ⟨rfl, rfl, Nat.le_of_ble_eq_true rfl, Nat.le_of_ble_eq_true rfl⟩ (Nat.le_of_ble_eq_true rfl) dX0_item_42 rfl (fun r_42 τ_42 h_42 => ?_)
        skip
        refine hg_zret cx (ck_It.z h_42) dX0_item_45 ⟨_, rfl, ?_⟩
        unfold sp_item
        rw [if_neg k6, if_neg (show ¬ sp_T f L b = 9 from n19), if_pos (show sp_T f L b = 10 from y34)]
        exact ck_It.fr F34.two h_42
    ·
      obtain ⟨y19, -, A19, F19⟩ := h_19.resolve_right (fun z => c_22 z.2.1)
      refine hg_aload0 (pc' := 26) cx dX0_item_25 rfl ?_
      refine hg_aload1 (pc' := 27) cx dX0_item_26 rfl ?_
      refine cv_X0_52 (pc' := 30) cx (K_X0_truthItem l E _ f L hL (ht.fr F19.two) (sp_nx f L b) (sp_nx_le f hb) A19 C n (ck_Rep hR F19)) ⟨rfl, rfl, Nat.le_of_ble_eq_true rfl, Nat.le_of_ble_eq_true rfl⟩ (Nat.le_of_ble_eq_true rfl) dX0_item_27 rfl (fun r_27 τ_27 h_27 => ?_)
      skip
      refine hg_zret cx (ck_It.z h_27) dX0_item_30 ⟨_, rfl, ?_⟩
      unfold sp_item
      rw [if_neg k6, if_pos (show sp_T f L b = 9 from y19)]
      exact ck_It.fr F19.two h_27
  ·
    have k6 : sp_T f L b < 6 := Decidable.byContradiction (fun z => c_6 (by rw [if_neg z]; decide))
    rw [if_pos k6]
    refine hg_aload0 (pc' := 10) cx dX0_item_9 rfl ?_
    refine hg_aload1 (pc' := 11) cx dX0_item_10 rfl ?_
    refine hg_iload2 (pc' := 12) cx dX0_item_11 rfl ?_
    refine cv_X0_42 (pc' := 15) cx (K_X0_hatItem l E _ f L hL ht b hb hA C n hR (sp_T f L b)) ⟨rfl, rfl, Nat.le_of_ble_eq_true rfl, Nat.le_of_ble_eq_true rfl⟩ (Nat.le_of_ble_eq_true rfl) dX0_item_12 rfl (fun r_12 τ_12 h_12 => ?_)
    skip
    refine hg_zret cx (ck_It.z h_12) dX0_item_15 ⟨_, rfl, ?_⟩
    unfold sp_item
    rw [if_pos k6]
    exact h_12
set_option maxHeartbeats 4000000 in
set_option maxRecDepth 100000 in
theorem K_X0_takeDown (l : Launch) (E : hg_Wd) (σ : hg_Mem) (f : Nat → Int32) (L : Nat) (hL : L ≤ 120) (ht : ck_T σ f L) (C : sp_C) (n : Nat) (hR : sp_Rep σ 2 C n) : hg_C l E yX0_takeDown cX0_takeDown 3 (some .int) { frames := 9, cells := 0, slots := 0, locals := 195 } [.ref (hg_ad E 9), .ref (hg_ad E 2)] σ (hg_pi (fun r τ => ck_Fr2 σ τ ∧ (((sp_lob f L 200 1 (sp_b f L 0) C n).1 = true ∧ r = nI (sp_lob f L 200 1 (sp_b f L 0) C n).2.2.1 ∧ sp_Rep τ 2 (sp_lob f L 200 1 (sp_b f L 0) C n).2.2.2.1 (sp_lob f L 200 1 (sp_b f L 0) C n).2.2.2.2) ∨ ((sp_lob f L 200 1 (sp_b f L 0) C n).1 = false ∧ r = -1 - nI (sp_lob f L 200 1 (sp_b f L 0) C n).2.1)))) := by
  refine hg_intro (by decide) [some (.ref (hg_ad E 9)), some (.ref (hg_ad E 2)), none] rfl (Nat.le_of_ble_eq_true rfl) ?_
  intro p e s m args below meth c cx
  have cx : hg_Cx E p s m args meth c cX0_takeDown 3 RX0 (some .int) := cx
  refine hg_aload0 (pc' := 1) cx dX0_takeDown_0 rfl ?_
  refine hg_iconst (pc' := 2) cx (nI 0) dX0_takeDown_1 (by decide) rfl ?_
  refine pf_X0_18 (pc' := 5) cx dX0_takeDown_2 rfl ?_
  refine hg_iconst (pc' := 6) cx (nI 1) dX0_takeDown_5 (by decide) rfl ?_
  refine hg_istore2 (pc' := 7) cx rfl dX0_takeDown_6 rfl ?_
  refine hg_nm (fun μ hμ => ?_)
  refine hg_loop (α := hg_Mem × Nat × Nat × sp_C × Nat) (I := fun z => 1 ≤ z.2.1 ∧ 2 * (z.2.1 - 1) ≤ z.2.2.1 ∧ z.2.2.1 ≤ L ∧ ck_Fr2 σ z.1 ∧ z.1.1 9 3 = nI z.2.2.1 ∧ sp_Rep z.1 2 z.2.2.2.1 z.2.2.2.2 ∧ sp_lob f L 200 1 (sp_b f L 0) C n = sp_lob f L (201 - z.2.1) z.2.1 (sp_b f L z.2.2.1) z.2.2.2.1 z.2.2.2.2) (P := fun z => hg_G E p l e { frames := 9, cells := 0, slots := 0, locals := 195 } s m args below meth c 3 (MQ below (hg_Qc E (hg_pi (fun r τ => ck_Fr2 σ τ ∧ (((sp_lob f L 200 1 (sp_b f L 0) C n).1 = true ∧ r = nI (sp_lob f L 200 1 (sp_b f L 0) C n).2.2.1 ∧ sp_Rep τ 2 (sp_lob f L 200 1 (sp_b f L 0) C n).2.2.2.1 (sp_lob f L 200 1 (sp_b f L 0) C n).2.2.2.2) ∨ ((sp_lob f L 200 1 (sp_b f L 0) C n).1 = false ∧ r = -1 - nI (sp_lob f L 200 1 (sp_b f L 0) C n).2.1))))) args s 0 0 (hg_AW E)) z.1 7 [some (.ref (hg_ad E 9)), some (.ref (hg_ad E 2)), some (.int (nI z.2.1))] []) (fun z => 200 - z.2.1) ?_ (μ, 1, 0, C, n) ?_
  rotate_left
  · subst hμ
    try dsimp only
    exact ⟨Nat.le_refl _, by decide, Nat.zero_le _, (ck_put9 _ _ _).two, by rw [ck_get, if_pos rfl], ck_Rep hR (ck_put9 _ _ _), rfl⟩
  clear hμ μ
  rintro ⟨τ, i, en, D, k⟩ hI ih_7
  try dsimp only at hI ih_7 ⊢
  have hi1 := hI.1
  have hi2 := hI.2.1
  have hen := hI.2.2.1
  have hF := hI.2.2.2.1
  refine hg_iload2 (pc' := 8) cx dX0_takeDown_7 rfl ?_
  refine hg_bipush (pc' := 10) cx (nI 120) dX0_takeDown_8 (by decide) rfl ?_
  refine hg_icmp_gt (pc' := 13) cx 62 dX0_takeDown_10 (by decide) rfl (fun c_10 => ?_) (fun c_10 => ?_)
  ·
    have := hg_gt (a := 120) (b := i) (by omega) (by omega) c_10
    omega
  ·
    refine hg_aload0 (pc' := 14) cx dX0_takeDown_13 rfl ?_
    refine cv_X0_22 (pc' := 17) cx (K_X0_next l E _ f L hL (ht.fr hF) en hen hI.2.2.2.2.1) ⟨rfl, rfl, Nat.le_of_ble_eq_true rfl, Nat.le_of_ble_eq_true rfl⟩ (Nat.le_of_ble_eq_true rfl) dX0_takeDown_14 rfl (fun τ_14 h_14 => ?_)
    obtain ⟨A1, F1⟩ := h_14
    have t1 := (ht.fr hF).fr F1.two
    refine hg_aload0 (pc' := 18) cx dX0_takeDown_17 rfl ?_
    refine hg_aload1 (pc' := 19) cx dX0_takeDown_18 rfl ?_
    refine cv_X0_25 (pc' := 22) cx (K_X0_item l E _ f L hL t1 (sp_b f L en) (sp_b_le f hen) A1 D k (ck_Rep hI.2.2.2.2.2.1 F1)) ⟨rfl, rfl, Nat.le_of_ble_eq_true rfl, Nat.le_of_ble_eq_true rfl⟩ (Nat.le_of_ble_eq_true rfl) dX0_takeDown_19 rfl (fun r_19 τ_19 h_19 => ?_)
    have g18 := sp_item_ge f D k (sp_b_le f hen)
    have gb := sp_b_ge f L en
    refine hg_if_ne (pc' := 25) cx 32 dX0_takeDown_22 (by decide) rfl (fun c_22 => ?_) (fun c_22 => ?_)
    ·
      obtain ⟨w1, -, A2, R2⟩ := h_19.2.resolve_right (fun z => c_22 z.2.1)
      have w9 : ¬ (sp_item f L (sp_b f L en) D k).1 = false := by rw [w1]; exact fun z => Bool.noConfusion z
      have g9 := sp_c_le f L (sp_item f L (sp_b f L en) D k).2.1
      refine hg_aload0 (pc' := 33) cx dX0_takeDown_32 rfl ?_
      refine gf_X0_32 (pc' := 36) cx dX0_takeDown_33 rfl ?_
      rw [A2.1]
      refine hg_if_ne (pc' := 39) cx 41 dX0_takeDown_36 (by decide) rfl (fun c_36 => ?_) (fun c_36 => ?_)
      ·
        have T22 : ¬ sp_T f L (sp_item f L (sp_b f L en) D k).2.1 = 22 := fun z => c_36 (by rw [(sp_T_end f L _).mp z]; rfl)
        refine hg_aload0 (pc' := 42) cx dX0_takeDown_41 rfl ?_
        refine gf_X0_32 (pc' := 45) cx dX0_takeDown_42 rfl ?_
        rw [A2.1]
        refine hg_iconst (pc' := 46) cx (nI 3) dX0_takeDown_45 (by decide) rfl ?_
        refine hg_icmp_eq (pc' := 49) cx 56 dX0_takeDown_46 (by decide) rfl (fun c_46 => ?_) (fun c_46 => ?_)
        ·
          have T21 : sp_T f L (sp_item f L (sp_b f L en) D k).2.1 = 21 := (sp_T_semi f L _).mpr ((nI_eq (by omega) (by decide)).mp c_46)
          refine hg_iinc2p (pc' := 59) cx rfl dX0_takeDown_56 rfl ?_
          refine hg_goto cx 7 dX0_takeDown_59 (by decide) ?_
          rw [nI_1]
          refine hg_nm (fun μ hμ => ?_)
          refine ih_7 (μ, i + 1, sp_e f L (sp_item f L (sp_b f L en) D k).2.1, (sp_item f L (sp_b f L en) D k).2.2.1, (sp_item f L (sp_b f L en) D k).2.2.2) ?_ ?_
          · subst hμ
            try dsimp only
            have q1 := g18.2.2 w1
            have q2 : sp_e f L (sp_item f L (sp_b f L en) D k).2.1 = (sp_item f L (sp_b f L en) D k).2.1 + 1 := by
              rcases sp_TC f L (sp_item f L (sp_b f L en) D k).2.1 with ⟨h1, h2, h3⟩ | ⟨h1, h2, h3⟩ | ⟨h1, h2, h3⟩ | ⟨h1, h2, h3, h4⟩ | ⟨h1, h2, h3⟩
              · omega
              · rw [(sp_T_semi f L _).mp T21] at h1; omega
              · omega
              · exact h4
              · omega
            refine ⟨by omega, by omega, sp_e_le f g18.2.1, hF.tr (F1.two.tr h_19.1), A2.2.2.1, R2, ?_⟩
            rw [hI.2.2.2.2.2.2, show 201 - i = (200 - i) + 1 by omega, sp_lob, if_neg w9, if_neg T22, if_pos T21, show 201 - (i + 1) = 200 - i by omega]
            rfl
          · show 200 - (i + 1) < 200 - i
            omega
        ·
          have T21 : ¬ sp_T f L (sp_item f L (sp_b f L en) D k).2.1 = 21 := fun z => c_46 (by rw [(sp_T_semi f L _).mp z])
          refine hg_iconst (pc' := 50) cx (-1) dX0_takeDown_49 (by decide) rfl ?_
          refine hg_aload0 (pc' := 51) cx dX0_takeDown_50 rfl ?_
          refine gf_X0_29 (pc' := 54) cx dX0_takeDown_51 rfl ?_
          rw [A2.2.1]
          refine hg_isub (pc' := 55) cx dX0_takeDown_54 rfl ?_
          refine hg_iret cx dX0_takeDown_55 ⟨_, rfl, ?_⟩
          refine ⟨hF.tr (F1.two.tr h_19.1), Or.inr ?_⟩
          rw [hI.2.2.2.2.2.2, show 201 - i = (200 - i) + 1 by omega, sp_lob, if_neg w9, if_neg T22, if_neg T21]
          exact ⟨rfl, rfl⟩
      ·
        have T22 : sp_T f L (sp_item f L (sp_b f L en) D k).2.1 = 22 := (sp_T_end f L _).mpr ((nI_eq (b := 0) (by omega) (by decide)).mp c_36)
        refine hg_iload2 (pc' := 40) cx dX0_takeDown_39 rfl ?_
        refine hg_iret cx dX0_takeDown_40 ⟨_, rfl, ?_⟩
        refine ⟨hF.tr (F1.two.tr h_19.1), Or.inl ?_⟩
        rw [hI.2.2.2.2.2.2, show 201 - i = (200 - i) + 1 by omega, sp_lob, if_neg w9, if_pos T22]
        exact ⟨rfl, rfl, R2⟩
    ·
      obtain ⟨w1, -, w3⟩ := h_19.2.resolve_left (fun z => absurd (z.2.1.symm.trans c_22) (by decide))
      refine hg_iconst (pc' := 26) cx (-1) dX0_takeDown_25 (by decide) rfl ?_
      refine hg_aload0 (pc' := 27) cx dX0_takeDown_26 rfl ?_
      refine gf_X0_29 (pc' := 30) cx dX0_takeDown_27 rfl ?_
      rw [w3]
      refine hg_isub (pc' := 31) cx dX0_takeDown_30 rfl ?_
      refine hg_iret cx dX0_takeDown_31 ⟨_, rfl, ?_⟩
      refine ⟨hF.tr (F1.two.tr h_19.1), Or.inr ?_⟩
      rw [hI.2.2.2.2.2.2, show 201 - i = (200 - i) + 1 by omega, sp_lob, if_pos w1]
      exact ⟨rfl, rfl⟩
set_option maxHeartbeats 4000000 in
set_option maxRecDepth 100000 in
theorem K_X5_lobby (l : Launch) (E : hg_Wd) (σ : hg_Mem) (S : sp_S) (hc : cw_C σ S) (hv : vs_S S) : hg_C l E yX5_lobby cX5_lobby 2 (some .int) { frames := 10, cells := 0, slots := 0, locals := 217 } [.ref (hg_ad E 0)] σ (hg_pi (fun r τ => cw_P σ (op_lobby S ) r τ)) := by
  refine hg_intro (by decide) [some (.ref (hg_ad E 0)), none] rfl (Nat.le_of_ble_eq_true rfl) ?_
  intro p e s m args below meth c cx
  have cx : hg_Cx E p s m args meth c cX5_lobby 2 RX5 (some .int) := cx
  obtain ⟨hn10, hn, g0, g1, g2, hag⟩ := hc.get
  obtain ⟨L, hL, eL⟩ := hv.2.2.2.1
  refine hg_aload0 (pc' := 1) cx dX5_lobby_0 rfl ?_
  refine gf_X5_16 (pc' := 4) cx dX5_lobby_1 rfl ?_
  refine hg_aload0 (pc' := 5) cx dX5_lobby_4 rfl ?_
  refine gf_X5_10 (pc' := 8) cx dX5_lobby_5 rfl ?_
  refine cv_X5_141 (pc' := 11) cx (by first | assumption | omega | decide) (by first | assumption | omega | decide) (K_X3_become l E _ 2 (by decide) (by decide) 1 (by decide) (by decide) (by decide) (S.1 0).2 hn10 hn) ⟨rfl, rfl, Nat.le_of_ble_eq_true rfl, Nat.le_of_ble_eq_true rfl⟩ (Nat.le_of_ble_eq_true rfl) dX5_lobby_8 rfl (fun τ_8 h_8 => ?_)
  obtain ⟨hF1, h4, hA⟩ := h_8
  have hR2 := hc.1.bec h4 hA
  obtain ⟨hc1, hf1⟩ := hc.fr2 hF1
  have ht1 : ck_T τ_8 (S.2.1 2) L := ⟨by rw [hc1.2.2.2.1, eL], hc1.2.2.2.2.2.1⟩
  refine hg_aload0 (pc' := 12) cx dX5_lobby_11 rfl ?_
  refine gf_X5_25 (pc' := 15) cx dX5_lobby_12 rfl ?_
  refine hg_aload0 (pc' := 16) cx dX5_lobby_15 rfl ?_
  refine gf_X5_16 (pc' := 19) cx dX5_lobby_16 rfl ?_
  refine cv_X5_187 (pc' := 22) cx (K_X0_takeDown l E _ (S.2.1 2) L hL ht1 (S.1 0).1 (S.1 0).2 hR2) ⟨rfl, rfl, Nat.le_of_ble_eq_true rfl, Nat.le_of_ble_eq_true rfl⟩ (Nat.le_of_ble_eq_true rfl) dX5_lobby_19 rfl (fun r_19 τ_19 h_19 => ?_)
  obtain ⟨F2, h15⟩ := h_19
  obtain ⟨hc2, hf2⟩ := hc1.ck F2
  have eW : (sp_lobR S) = sp_lob (S.2.1 2) L 200 1 (sp_b (S.2.1 2) L 0) (S.1 0).1 (S.1 0).2 := by unfold sp_lobR; rw [eL, nI_clamp (by omega)]
  have hit := sp_lob_it (S.2.1 2) (L := L) 200 1 (sp_b (S.2.1 2) L 0) (S.1 0).1 (S.1 0).2 (sp_b_le _ (Nat.zero_le _))
  rw [← eW] at h15 hit
  refine hg_istore1 (pc' := 23) cx rfl dX5_lobby_22 rfl ?_
  refine hg_iload1 (pc' := 24) cx dX5_lobby_23 rfl ?_
  refine hg_if_lt (pc' := 27) cx 38 dX5_lobby_24 (by decide) rfl (fun c_24 => ?_) (fun c_24 => ?_)
  ·
    obtain ⟨w1, w2⟩ := h15.resolve_left (fun z => by rw [z.2.1] at c_24; exact nI_pos (by omega) c_24)
    refine hg_aload0 (pc' := 39) cx dX5_lobby_38 rfl ?_
    refine gf_X5_25 (pc' := 42) cx dX5_lobby_39 rfl ?_
    refine gf_X5_176 (pc' := 45) cx dX5_lobby_42 rfl ?_
    refine hg_iconst (pc' := 46) cx 0 dX5_lobby_45 (by decide) rfl ?_
    refine pf_X5_180 (pc' := 49) cx dX5_lobby_46 rfl ?_
    refine hg_iload1 (pc' := 50) cx dX5_lobby_49 rfl ?_
    refine hg_iret cx dX5_lobby_50 ⟨_, rfl, ?_⟩
    unfold op_lobby
    rw [if_neg (by rw [w1]; exact fun z => Bool.noConfusion z)]
    exact ⟨w2, (hc2.len 0).1, hf1.tr (hf2.tr (hc2.len 0).2)⟩
  ·
    obtain ⟨w1, w2, R2⟩ := h15.resolve_right (fun z => c_24 (by rw [z.2]; exact sp_m1 _ (by omega)))
    refine hg_aload0 (pc' := 28) cx dX5_lobby_27 rfl ?_
    refine gf_X5_10 (pc' := 31) cx dX5_lobby_28 rfl ?_
    refine hg_aload0 (pc' := 32) cx dX5_lobby_31 rfl ?_
    refine gf_X5_16 (pc' := 35) cx dX5_lobby_32 rfl ?_
    refine cv_X5_141 (pc' := 38) cx (by first | assumption | omega | decide) (by first | assumption | omega | decide) (K_X3_become l E _ 1 (by decide) (by decide) 2 (by decide) (by decide) (by decide) (sp_lobR S).2.2.2.2 R2.1 ((R2.2.2.1 3 (by decide)).trans R2.2.1)) ⟨rfl, rfl, Nat.le_of_ble_eq_true rfl, Nat.le_of_ble_eq_true rfl⟩ (Nat.le_of_ble_eq_true rfl) dX5_lobby_35 rfl (fun τ_35 h_35 => ?_)
    obtain ⟨hF3, h43, hA3⟩ := h_35
    have R3 := R2.bec h43 hA3
    obtain ⟨hc3, hf3⟩ := hc2.setC _ _ hF3 R3
    refine hg_aload0 (pc' := 39) cx dX5_lobby_38 rfl ?_
    refine gf_X5_25 (pc' := 42) cx dX5_lobby_39 rfl ?_
    refine gf_X5_176 (pc' := 45) cx dX5_lobby_42 rfl ?_
    refine hg_iconst (pc' := 46) cx 0 dX5_lobby_45 (by decide) rfl ?_
    refine pf_X5_180 (pc' := 49) cx dX5_lobby_46 rfl ?_
    refine hg_iload1 (pc' := 50) cx dX5_lobby_49 rfl ?_
    refine hg_iret cx dX5_lobby_50 ⟨_, rfl, ?_⟩
    unfold op_lobby
    rw [if_pos w1]
    exact ⟨w2, (hc3.len 0).1, hf1.tr (hf2.tr (hf3.tr (hc3.len 0).2))⟩
