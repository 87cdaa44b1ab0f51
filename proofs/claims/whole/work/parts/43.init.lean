def ni_refs (a : Nat → Nat) : Nat → Nat → Option Nat
  | 0 => fun _ => none
  | k + 1 => va_up (ni_refs a k) k (some (a k))
def ni_tab (cA : Nat → ClassId) (h0 : Nat) (a : Nat → Nat) : va_W := [(a 9, .inr (1, [.int 0, .int 0, .int 0, .int 0, .int 0, .int 0, .int 0])), (a 8, .inr (1, [.int 0, .int 0, .int 0, .int 0, .int 0, .int 0, .int 0])), (a 7, .inr (1, [.int 0, .int 0, .int 0, .int 0, .int 0, .int 0, .int 0])), (a 6, .inr (1, [.int 0, .int 0, .int 0, .int 0, .int 0, .int 0, .int 0])), (a 5, .inr (1, [.int 0, .int 0, .int 0, .int 0, .int 0, .int 0, .int 0])), (a 4, .inr (1, [.int 0, .int 0, .int 0, .int 0, .int 0, .int 0, .int 0])), (a 3, .inr (1, [.int 0, .int 0, .int 0, .int 0, .int 0, .int 0, .int 0])), (a 2, .inr (1, [.int 0, .int 0, .int 0, .int 0, .int 0, .int 0, .int 0])), (a 1, .inr (1, [.int 0, .int 0, .int 0, .int 0, .int 0, .int 0, .int 0])), (a 0, .inr (1, [.int 0, .int 0, .int 0, .int 0, .int 0, .int 0, .int 0])), (a 10, .inl (cA 2, 10, .inr (.inr (.inr (.inr (ni_refs a 10)))))), (h0, .inr (3, [.int 0, .int 170, .int 0, .int 0, .ref (a 10), .int 0, .int 0]))]
set_option maxHeartbeats 4000000 in
set_option maxRecDepth 100000 in
theorem K_X1_init (l : Launch) (D : va_G) (cA : Nat → ClassId) (n0 : Nat) (h0 : Nat) (ws : va_W) : ni_C l D cA n0 yX1_init cX1_init 1 { frames := 1, cells := 0, slots := 0, locals := 12 } [.ref h0] (ws) (fun ws' => ws' = ws) := by
  refine ni_intro (by decide) rfl [some (.ref h0)] rfl (Nat.le_of_ble_eq_true rfl) ?_
  intro p e s m args below meth c cx hr hlk hi0
  have cx : ni_Cx D cA n0 p s m args c cX1_init 1 RX1 := cx
  have gx : gg_Cx p c cX1_init := cx.g
  refine gg_aload0 (pc' := 1) gx dX1_init_0 rfl ?_
  refine ni_obj (pc' := 4) cx (hg_Uin (List.mem_of_getElem? (i := 92) (by decide +kernel)) (by decide +kernel)) (Nat.le_of_ble_eq_true rfl) (Nat.le_of_ble_eq_true rfl) dX1_init_1 rfl ?_
  exact ni_ret cx hr hlk (rfl) dX1_init_4
set_option maxHeartbeats 4000000 in
set_option maxRecDepth 100000 in
theorem K_X2_init (l : Launch) (D : va_G) (cA : Nat → ClassId) (n0 : Nat) (h0 : Nat) (ws : va_W) : ni_C l D cA n0 yX2_init cX2_init 1 { frames := 1, cells := 1, slots := 40, locals := 20 } [.ref h0] ((h0, .inr (2, [.null, .int 0, .int 0])) :: ws) (fun ws' => ∃ q, ws' = (q, .inl (cA 1, 40, .inr (.inl (fun _ => 0)))) :: (h0, .inr (2, [.ref q, .int 0, .int 0])) :: ws) := by
  refine ni_intro (by decide) rfl [some (.ref h0)] rfl (Nat.le_of_ble_eq_true rfl) ?_
  intro p e s m args below meth c cx hr hlk hi0
  have cx : ni_Cx D cA n0 p s m args c cX2_init 1 RX2 := cx
  have gx : gg_Cx p c cX2_init := cx.g
  refine gg_aload0 (pc' := 1) gx dX2_init_0 rfl ?_
  refine ni_obj (pc' := 4) cx (hg_Uin (List.mem_of_getElem? (i := 204) (by decide +kernel)) (by decide +kernel)) (Nat.le_of_ble_eq_true rfl) (Nat.le_of_ble_eq_true rfl) dX2_init_1 rfl ?_
  refine gg_aload0 (pc' := 5) gx dX2_init_4 rfl ?_
  refine gg_bipush (pc' := 7) gx 40 dX2_init_5 (by decide) rfl ?_
  refine ni_newL (pc' := 9) cx 40 (by decide) (by decide) (Nat.le_of_ble_eq_true rfl) (Nat.le_of_ble_eq_true rfl) (Nat.le_of_ble_eq_true rfl) dX2_init_7 rfl (fun q => ?_)
  refine ni_putF (pc' := 12) (ci := 2) (T := TX2) (N := 3) (ty := .array .long) (ws' := ((q, .inl (cA 1, 40, .inr (.inl (fun _ => 0)))) :: (h0, .inr (2, [.ref q, .int 0, .int 0])) :: ws)) cx hi0 hg_inX2 tyX2 tyX2_ok nmX2 1 rfl rfl 0 (by decide) rfl (hg_Uin (List.mem_of_getElem? (i := 205) (by decide +kernel)) (by decide +kernel)) rfl rfl (by decide +kernel) rfl rfl (Nat.le_of_ble_eq_true rfl) rfl dX2_init_9 rfl ?_
  exact ni_ret cx hr hlk (⟨q, rfl⟩) dX2_init_12
set_option maxHeartbeats 4000000 in
set_option maxRecDepth 100000 in
theorem K_X4_init (l : Launch) (D : va_G) (cA : Nat → ClassId) (n0 : Nat) (h0 : Nat) (ws : va_W) : ni_C l D cA n0 yX4_init cX4_init 1 { frames := 1, cells := 1, slots := 120, locals := 20 } [.ref h0] ((h0, .inr (4, [.null, .int 0])) :: ws) (fun ws' => ∃ q, ws' = (q, .inl (cA 0, 120, .inl (fun _ => 0))) :: (h0, .inr (4, [.ref q, .int 0])) :: ws) := by
  refine ni_intro (by decide) rfl [some (.ref h0)] rfl (Nat.le_of_ble_eq_true rfl) ?_
  intro p e s m args below meth c cx hr hlk hi0
  have cx : ni_Cx D cA n0 p s m args c cX4_init 1 RX4 := cx
  have gx : gg_Cx p c cX4_init := cx.g
  refine gg_aload0 (pc' := 1) gx dX4_init_0 rfl ?_
  refine ni_obj (pc' := 4) cx (hg_Uin (List.mem_of_getElem? (i := 169) (by decide +kernel)) (by decide +kernel)) (Nat.le_of_ble_eq_true rfl) (Nat.le_of_ble_eq_true rfl) dX4_init_1 rfl ?_
  refine gg_aload0 (pc' := 5) gx dX4_init_4 rfl ?_
  refine gg_bipush (pc' := 7) gx 120 dX4_init_5 (by decide) rfl ?_
  refine ni_newI (pc' := 9) cx 120 (by decide) (by decide) (Nat.le_of_ble_eq_true rfl) (Nat.le_of_ble_eq_true rfl) (Nat.le_of_ble_eq_true rfl) dX4_init_7 rfl (fun q => ?_)
  refine ni_putF (pc' := 12) (ci := 4) (T := TX4) (N := 2) (ty := .array .int) (ws' := ((q, .inl (cA 0, 120, .inl (fun _ => 0))) :: (h0, .inr (4, [.ref q, .int 0])) :: ws)) cx hi0 hg_inX4 tyX4 tyX4_ok nmX4 1 rfl rfl 0 (by decide) rfl (hg_Uin (List.mem_of_getElem? (i := 170) (by decide +kernel)) (by decide +kernel)) rfl rfl (by decide +kernel) rfl rfl (Nat.le_of_ble_eq_true rfl) rfl dX4_init_9 rfl ?_
  exact ni_ret cx hr hlk (⟨q, rfl⟩) dX4_init_12
set_option maxHeartbeats 4000000 in
set_option maxRecDepth 100000 in
theorem K_X0_init (l : Launch) (D : va_G) (cA : Nat → ClassId) (n0 : Nat) (h0 : Nat) (ws : va_W) : ni_C l D cA n0 yX0_init cX0_init 1 { frames := 2, cells := 2, slots := 122, locals := 60 } [.ref h0] ((h0, .inr (0, [.null, .int 0, .int 0, .int 0, .int 0])) :: ws) (fun ws' => ∃ tp bt, ws' = (bt, .inl (cA 0, 120, .inl (fun _ => 0))) :: (tp, .inr (4, [.ref bt, .int 0])) :: (h0, .inr (0, [.ref tp, .int 0, .int 0, .int 0, .int 0])) :: ws) := by
  refine ni_intro (by decide) rfl [some (.ref h0)] rfl (Nat.le_of_ble_eq_true rfl) ?_
  intro p e s m args below meth c cx hr hlk hi0
  have cx : ni_Cx D cA n0 p s m args c cX0_init 1 RX0 := cx
  have gx : gg_Cx p c cX0_init := cx.g
  refine gg_aload0 (pc' := 1) gx dX0_init_0 rfl ?_
  refine ni_obj (pc' := 4) cx (hg_Uin (List.mem_of_getElem? (i := 163) (by decide +kernel)) (by decide +kernel)) (Nat.le_of_ble_eq_true rfl) (Nat.le_of_ble_eq_true rfl) dX0_init_1 rfl ?_
  refine gg_aload0 (pc' := 5) gx dX0_init_4 rfl ?_
  refine ni_new (pc' := 8) (ci := 4) (T := TX4) (N := 2) cx hg_inX4 tyX4 tyX4_ok (hg_Uin (List.mem_of_getElem? (i := 164) (by decide +kernel)) (by decide +kernel)) (hg_Uin (List.mem_of_getElem? (i := 165) (by decide +kernel)) (by decide +kernel)) (hg_Uin (List.mem_of_getElem? (i := 61) (by decide +kernel)) (by decide +kernel)) rfl [.null, .int 0] (fun j hj => by rcases (show j = 0 ∨ j = 1 by omega) with rfl | rfl <;> rfl) (Nat.le_of_ble_eq_true rfl) (Nat.le_of_ble_eq_true rfl) dX0_init_5 rfl (fun tp => ?_)
  refine gg_dup (pc' := 9) gx rfl dX0_init_8 rfl ?_
  refine ni_callN (pc' := 12) (As := []) cx (show hg_LkN RX0 11 yX4_init cX4_init 1 none 0 "HatCongress" from ⟨by decide +kernel, (hg_Uin (List.mem_of_getElem? (i := 168) (by decide +kernel)) (by decide +kernel)), (hg_Uin (List.mem_of_getElem? (i := 61) (by decide +kernel)) (by decide +kernel)), by decide +kernel⟩) rfl (hg_Uin (List.mem_of_getElem? (i := 167) (by decide +kernel)) (by decide +kernel)) (K_X4_init l D cA n0 tp _) ⟨(Nat.le_of_ble_eq_true rfl), (Nat.le_of_ble_eq_true rfl)⟩ rfl rfl (Nat.le_of_ble_eq_true rfl) (Nat.le_of_ble_eq_true rfl) (Nat.le_of_ble_eq_true rfl) dX0_init_9 rfl (fun ws2 hw2 => ?_)
  obtain ⟨bt, rfl⟩ := hw2
  refine ni_putF (pc' := 15) (ci := 0) (T := TX0) (N := 5) (ty := .object "HatCongress$Tape") (ws' := ((bt, .inl (cA 0, 120, .inl (fun _ => 0))) :: (tp, .inr (4, [.ref bt, .int 0])) :: (h0, .inr (0, [.ref tp, .int 0, .int 0, .int 0, .int 0])) :: ws)) cx hi0 hg_inX0 tyX0 tyX0_ok nmX0 2 rfl rfl 0 (by decide) rfl (hg_Uin (List.mem_of_getElem? (i := 181) (by decide +kernel)) (by decide +kernel)) rfl rfl (by decide +kernel) rfl rfl (Nat.le_of_ble_eq_true rfl) rfl dX0_init_12 rfl ?_
  exact ni_ret cx hr hlk (⟨tp, bt, rfl⟩) dX0_init_15
set_option maxHeartbeats 4000000 in
set_option maxRecDepth 100000 in
theorem K_X3_init (l : Launch) (D : va_G) (cA : Nat → ClassId) (n0 : Nat) (h0 : Nat) (ws : va_W) : ni_C l D cA n0 yX3_init cX3_init 2 { frames := 2, cells := 11, slots := 80, locals := 60 } [.ref h0] ((h0, .inr (3, [.int 0, .int 0, .int 0, .int 0, .null, .int 0, .int 0])) :: ws) (fun ws' => ∃ a : Nat → Nat, ws' = ni_tab cA h0 a ++ ws) := by
  refine ni_intro (by decide) rfl [some (.ref h0), none] rfl (Nat.le_of_ble_eq_true rfl) ?_
  intro p e s m args below meth c cx hr hlk hi0
  have cx : ni_Cx D cA n0 p s m args c cX3_init 2 RX3 := cx
  have gx : gg_Cx p c cX3_init := cx.g
  refine gg_aload0 (pc' := 1) gx dX3_init_0 rfl ?_
  refine ni_obj (pc' := 4) cx (hg_Uin (List.mem_of_getElem? (i := 85) (by decide +kernel)) (by decide +kernel)) (Nat.le_of_ble_eq_true rfl) (Nat.le_of_ble_eq_true rfl) dX3_init_1 rfl ?_
  refine gg_aload0 (pc' := 5) gx dX3_init_4 rfl ?_
  refine gg_sipush (pc' := 8) gx 170 dX3_init_5 (by decide) rfl ?_
  refine ni_put (pc' := 11) (ci := 3) (T := TX3) (N := 7) (ty := .int) (ws' := ((h0, .inr (3, [.int 0, .int 170, .int 0, .int 0, .null, .int 0, .int 0])) :: ws)) cx hg_inX3 tyX3 tyX3_ok nmX3 0 rfl rfl 1 (by decide) rfl (hg_Uin (List.mem_of_getElem? (i := 127) (by decide +kernel)) (by decide +kernel)) rfl (by decide +kernel) rfl rfl (Nat.le_of_ble_eq_true rfl) rfl dX3_init_8 rfl ?_
  refine gg_aload0 (pc' := 12) gx dX3_init_11 rfl ?_
  refine gg_bipush (pc' := 14) gx 10 dX3_init_12 (by decide) rfl ?_
  refine ni_newq (pc' := 17) cx 2 (by decide) rfl cx.2.2.2.2.2.1.2.1 (hg_Uin (List.mem_of_getElem? (i := 86) (by decide +kernel)) (by decide +kernel)) 10 (by decide) (by decide) (Nat.le_of_ble_eq_true rfl) (Nat.le_of_ble_eq_true rfl) (Nat.le_of_ble_eq_true rfl) dX3_init_14 rfl (fun qs => ?_)
  refine ni_putF (pc' := 20) (ci := 3) (T := TX3) (N := 7) (ty := .array (.object "HatCongress$Delegate")) (ws' := ((qs, .inl (cA 2, 10, .inr (.inr (.inr (.inr (fun _ => none)))))) :: (h0, .inr (3, [.int 0, .int 170, .int 0, .int 0, .ref qs, .int 0, .int 0])) :: ws)) cx hi0 hg_inX3 tyX3 tyX3_ok nmX3 1 rfl rfl 4 (by decide) rfl (hg_Uin (List.mem_of_getElem? (i := 136) (by decide +kernel)) (by decide +kernel)) rfl rfl (by decide +kernel) rfl rfl (Nat.le_of_ble_eq_true rfl) rfl dX3_init_17 rfl ?_
  refine gg_iconst (pc' := 21) gx (nI 0) dX3_init_20 (by decide) rfl ?_
  refine gg_istore1 (pc' := 22) gx rfl dX3_init_21 rfl ?_
  refine gg_iload1 (pc' := 23) gx dX3_init_22 rfl ?_
  refine gg_bipush (pc' := 25) gx (nI 10) dX3_init_23 (by decide) rfl ?_
  refine gg_icmp_ge (pc' := 28) gx 47 dX3_init_25 (by decide) rfl (fun h => absurd h (by decide)) (fun _ => ?_)
  refine gg_aload0 (pc' := 29) gx dX3_init_28 rfl ?_
  refine ni_get (pc' := 32) (ci := 3) (T := TX3) (N := 7) cx hg_inX3 1 rfl rfl 4 (by decide) rfl (hg_Uin (List.mem_of_getElem? (i := 136) (by decide +kernel)) (by decide +kernel)) rfl dX3_init_29 rfl ?_
  refine gg_iload1 (pc' := 33) gx dX3_init_32 rfl ?_
  refine ni_new (pc' := 36) (ci := 1) (T := TX1) (N := 7) cx hg_inX1 tyX1 tyX1_ok (hg_Uin (List.mem_of_getElem? (i := 86) (by decide +kernel)) (by decide +kernel)) (hg_Uin (List.mem_of_getElem? (i := 88) (by decide +kernel)) (by decide +kernel)) (hg_Uin (List.mem_of_getElem? (i := 59) (by decide +kernel)) (by decide +kernel)) rfl [.int 0, .int 0, .int 0, .int 0, .int 0, .int 0, .int 0] (fun j hj => by rcases (show j = 0 ∨ j = 1 ∨ j = 2 ∨ j = 3 ∨ j = 4 ∨ j = 5 ∨ j = 6 by omega) with rfl | rfl | rfl | rfl | rfl | rfl | rfl <;> rfl) (Nat.le_of_ble_eq_true rfl) (Nat.le_of_ble_eq_true rfl) dX3_init_33 rfl (fun d0 => ?_)
  refine gg_dup (pc' := 37) gx rfl dX3_init_36 rfl ?_
  refine ni_callN (pc' := 40) (As := []) cx (show hg_LkN RX3 21 yX1_init cX1_init 1 none 0 "HatCongress" from ⟨by decide +kernel, (hg_Uin (List.mem_of_getElem? (i := 91) (by decide +kernel)) (by decide +kernel)), (hg_Uin (List.mem_of_getElem? (i := 59) (by decide +kernel)) (by decide +kernel)), by decide +kernel⟩) rfl (hg_Uin (List.mem_of_getElem? (i := 90) (by decide +kernel)) (by decide +kernel)) (K_X1_init l D cA n0 d0 _) ⟨(Nat.le_of_ble_eq_true rfl), (Nat.le_of_ble_eq_true rfl)⟩ rfl rfl (Nat.le_of_ble_eq_true rfl) (Nat.le_of_ble_eq_true rfl) (Nat.le_of_ble_eq_true rfl) dX3_init_37 rfl (fun ws2 hw2 => ?_)
  obtain rfl := hw2
  refine ni_astq (pc' := 41) (ws' := ((d0, .inr (1, [.int 0, .int 0, .int 0, .int 0, .int 0, .int 0, .int 0])) :: (qs, .inl (cA 2, 10, .inr (.inr (.inr (.inr (va_up (fun _ => none) 0 (some d0))))))) :: (h0, .inr (3, [.int 0, .int 170, .int 0, .int 0, .ref qs, .int 0, .int 0])) :: ws)) (r := (RX1, TX1, 7)) cx 1 2 0 1 rfl rfl rfl rfl (i := 0) (by decide) (by decide) rfl dX3_init_40 rfl ?_
  refine gg_iinc1p (pc' := 44) gx rfl dX3_init_41 rfl ?_
  rw [show (nI 0 + 1 : Int32) = nI 1 from by decide]
  refine gg_goto gx 22 dX3_init_44 (by decide) ?_
  refine gg_iload1 (pc' := 23) gx dX3_init_22 rfl ?_
  refine gg_bipush (pc' := 25) gx (nI 10) dX3_init_23 (by decide) rfl ?_
  refine gg_icmp_ge (pc' := 28) gx 47 dX3_init_25 (by decide) rfl (fun h => absurd h (by decide)) (fun _ => ?_)
  refine gg_aload0 (pc' := 29) gx dX3_init_28 rfl ?_
  refine ni_get (pc' := 32) (ci := 3) (T := TX3) (N := 7) cx hg_inX3 2 rfl rfl 4 (by decide) rfl (hg_Uin (List.mem_of_getElem? (i := 136) (by decide +kernel)) (by decide +kernel)) rfl dX3_init_29 rfl ?_
  refine gg_iload1 (pc' := 33) gx dX3_init_32 rfl ?_
  refine ni_new (pc' := 36) (ci := 1) (T := TX1) (N := 7) cx hg_inX1 tyX1 tyX1_ok (hg_Uin (List.mem_of_getElem? (i := 86) (by decide +kernel)) (by decide +kernel)) (hg_Uin (List.mem_of_getElem? (i := 88) (by decide +kernel)) (by decide +kernel)) (hg_Uin (List.mem_of_getElem? (i := 59) (by decide +kernel)) (by decide +kernel)) rfl [.int 0, .int 0, .int 0, .int 0, .int 0, .int 0, .int 0] (fun j hj => by rcases (show j = 0 ∨ j = 1 ∨ j = 2 ∨ j = 3 ∨ j = 4 ∨ j = 5 ∨ j = 6 by omega) with rfl | rfl | rfl | rfl | rfl | rfl | rfl <;> rfl) (Nat.le_of_ble_eq_true rfl) (Nat.le_of_ble_eq_true rfl) dX3_init_33 rfl (fun d1 => ?_)
  refine gg_dup (pc' := 37) gx rfl dX3_init_36 rfl ?_
  refine ni_callN (pc' := 40) (As := []) cx (show hg_LkN RX3 21 yX1_init cX1_init 1 none 0 "HatCongress" from ⟨by decide +kernel, (hg_Uin (List.mem_of_getElem? (i := 91) (by decide +kernel)) (by decide +kernel)), (hg_Uin (List.mem_of_getElem? (i := 59) (by decide +kernel)) (by decide +kernel)), by decide +kernel⟩) rfl (hg_Uin (List.mem_of_getElem? (i := 90) (by decide +kernel)) (by decide +kernel)) (K_X1_init l D cA n0 d1 _) ⟨(Nat.le_of_ble_eq_true rfl), (Nat.le_of_ble_eq_true rfl)⟩ rfl rfl (Nat.le_of_ble_eq_true rfl) (Nat.le_of_ble_eq_true rfl) (Nat.le_of_ble_eq_true rfl) dX3_init_37 rfl (fun ws2 hw2 => ?_)
  obtain rfl := hw2
  refine ni_astq (pc' := 41) (ws' := ((d1, .inr (1, [.int 0, .int 0, .int 0, .int 0, .int 0, .int 0, .int 0])) :: (d0, .inr (1, [.int 0, .int 0, .int 0, .int 0, .int 0, .int 0, .int 0])) :: (qs, .inl (cA 2, 10, .inr (.inr (.inr (.inr (va_up (va_up (fun _ => none) 0 (some d0)) 1 (some d1))))))) :: (h0, .inr (3, [.int 0, .int 170, .int 0, .int 0, .ref qs, .int 0, .int 0])) :: ws)) (r := (RX1, TX1, 7)) cx 2 2 0 1 rfl rfl rfl rfl (i := 1) (by decide) (by decide) rfl dX3_init_40 rfl ?_
  refine gg_iinc1p (pc' := 44) gx rfl dX3_init_41 rfl ?_
  rw [show (nI 1 + 1 : Int32) = nI 2 from by decide]
  refine gg_goto gx 22 dX3_init_44 (by decide) ?_
  refine gg_iload1 (pc' := 23) gx dX3_init_22 rfl ?_
  refine gg_bipush (pc' := 25) gx (nI 10) dX3_init_23 (by decide) rfl ?_
  refine gg_icmp_ge (pc' := 28) gx 47 dX3_init_25 (by decide) rfl (fun h => absurd h (by decide)) (fun _ => ?_)
  refine gg_aload0 (pc' := 29) gx dX3_init_28 rfl ?_
  refine ni_get (pc' := 32) (ci := 3) (T := TX3) (N := 7) cx hg_inX3 3 rfl rfl 4 (by decide) rfl (hg_Uin (List.mem_of_getElem? (i := 136) (by decide +kernel)) (by decide +kernel)) rfl dX3_init_29 rfl ?_
  refine gg_iload1 (pc' := 33) gx dX3_init_32 rfl ?_
  refine ni_new (pc' := 36) (ci := 1) (T := TX1) (N := 7) cx hg_inX1 tyX1 tyX1_ok (hg_Uin (List.mem_of_getElem? (i := 86) (by decide +kernel)) (by decide +kernel)) (hg_Uin (List.mem_of_getElem? (i := 88) (by decide +kernel)) (by decide +kernel)) (hg_Uin (List.mem_of_getElem? (i := 59) (by decide +kernel)) (by decide +kernel)) rfl [.int 0, .int 0, .int 0, .int 0, .int 0, .int 0, .int 0] (fun j hj => by rcases (show j = 0 ∨ j = 1 ∨ j = 2 ∨ j = 3 ∨ j = 4 ∨ j = 5 ∨ j = 6 by omega) with rfl | rfl | rfl | rfl | rfl | rfl | rfl <;> rfl) (Nat.le_of_ble_eq_true rfl) (Nat.le_of_ble_eq_true rfl) dX3_init_33 rfl (fun d2 => ?_)
  refine gg_dup (pc' := 37) gx rfl dX3_init_36 rfl ?_
  refine ni_callN (pc' := 40) (As := []) cx (show hg_LkN RX3 21 yX1_init cX1_init 1 none 0 "HatCongress" from ⟨by decide +kernel, (hg_Uin (List.mem_of_getElem? (i := 91) (by decide +kernel)) (by decide +kernel)), (hg_Uin (List.mem_of_getElem? (i := 59) (by decide +kernel)) (by decide +kernel)), by decide +kernel⟩) rfl (hg_Uin (List.mem_of_getElem? (i := 90) (by decide +kernel)) (by decide +kernel)) (K_X1_init l D cA n0 d2 _) ⟨(Nat.le_of_ble_eq_true rfl), (Nat.le_of_ble_eq_true rfl)⟩ rfl rfl (Nat.le_of_ble_eq_true rfl) (Nat.le_of_ble_eq_true rfl) (Nat.le_of_ble_eq_true rfl) dX3_init_37 rfl (fun ws2 hw2 => ?_)
  obtain rfl := hw2
  refine ni_astq (pc' := 41) (ws' := ((d2, .inr (1, [.int 0, .int 0, .int 0, .int 0, .int 0, .int 0, .int 0])) :: (d1, .inr (1, [.int 0, .int 0, .int 0, .int 0, .int 0, .int 0, .int 0])) :: (d0, .inr (1, [.int 0, .int 0, .int 0, .int 0, .int 0, .int 0, .int 0])) :: (qs, .inl (cA 2, 10, .inr (.inr (.inr (.inr (va_up (va_up (va_up (fun _ => none) 0 (some d0)) 1 (some d1)) 2 (some d2))))))) :: (h0, .inr (3, [.int 0, .int 170, .int 0, .int 0, .ref qs, .int 0, .int 0])) :: ws)) (r := (RX1, TX1, 7)) cx 3 2 0 1 rfl rfl rfl rfl (i := 2) (by decide) (by decide) rfl dX3_init_40 rfl ?_
  refine gg_iinc1p (pc' := 44) gx rfl dX3_init_41 rfl ?_
  rw [show (nI 2 + 1 : Int32) = nI 3 from by decide]
  refine gg_goto gx 22 dX3_init_44 (by decide) ?_
  refine gg_iload1 (pc' := 23) gx dX3_init_22 rfl ?_
  refine gg_bipush (pc' := 25) gx (nI 10) dX3_init_23 (by decide) rfl ?_
  refine gg_icmp_ge (pc' := 28) gx 47 dX3_init_25 (by decide) rfl (fun h => absurd h (by decide)) (fun _ => ?_)
  refine gg_aload0 (pc' := 29) gx dX3_init_28 rfl ?_
  refine ni_get (pc' := 32) (ci := 3) (T := TX3) (N := 7) cx hg_inX3 4 rfl rfl 4 (by decide) rfl (hg_Uin (List.mem_of_getElem? (i := 136) (by decide +kernel)) (by decide +kernel)) rfl dX3_init_29 rfl ?_
  refine gg_iload1 (pc' := 33) gx dX3_init_32 rfl ?_
  refine ni_new (pc' := 36) (ci := 1) (T := TX1) (N := 7) cx hg_inX1 tyX1 tyX1_ok (hg_Uin (List.mem_of_getElem? (i := 86) (by decide +kernel)) (by decide +kernel)) (hg_Uin (List.mem_of_getElem? (i := 88) (by decide +kernel)) (by decide +kernel)) (hg_Uin (List.mem_of_getElem? (i := 59) (by decide +kernel)) (by decide +kernel)) rfl [.int 0, .int 0, .int 0, .int 0, .int 0, .int 0, .int 0] (fun j hj => by rcases (show j = 0 ∨ j = 1 ∨ j = 2 ∨ j = 3 ∨ j = 4 ∨ j = 5 ∨ j = 6 by omega) with rfl | rfl | rfl | rfl | rfl | rfl | rfl <;> rfl) (Nat.le_of_ble_eq_true rfl) (Nat.le_of_ble_eq_true rfl) dX3_init_33 rfl (fun d3 => ?_)
  refine gg_dup (pc' := 37) gx rfl dX3_init_36 rfl ?_
  refine ni_callN (pc' := 40) (As := []) cx (show hg_LkN RX3 21 yX1_init cX1_init 1 none 0 "HatCongress" from ⟨by decide +kernel, (hg_Uin (List.mem_of_getElem? (i := 91) (by decide +kernel)) (by decide +kernel)), (hg_Uin (List.mem_of_getElem? (i := 59) (by decide +kernel)) (by decide +kernel)), by decide +kernel⟩) rfl (hg_Uin (List.mem_of_getElem? (i := 90) (by decide +kernel)) (by decide +kernel)) (K_X1_init l D cA n0 d3 _) ⟨(Nat.le_of_ble_eq_true rfl), (Nat.le_of_ble_eq_true rfl)⟩ rfl rfl (Nat.le_of_ble_eq_true rfl) (Nat.le_of_ble_eq_true rfl) (Nat.le_of_ble_eq_true rfl) dX3_init_37 rfl (fun ws2 hw2 => ?_)
  obtain rfl := hw2
  refine ni_astq (pc' := 41) (ws' := ((d3, .inr (1, [.int 0, .int 0, .int 0, .int 0, .int 0, .int 0, .int 0])) :: (d2, .inr (1, [.int 0, .int 0, .int 0, .int 0, .int 0, .int 0, .int 0])) :: (d1, .inr (1, [.int 0, .int 0, .int 0, .int 0, .int 0, .int 0, .int 0])) :: (d0, .inr (1, [.int 0, .int 0, .int 0, .int 0, .int 0, .int 0, .int 0])) :: (qs, .inl (cA 2, 10, .inr (.inr (.inr (.inr (va_up (va_up (va_up (va_up (fun _ => none) 0 (some d0)) 1 (some d1)) 2 (some d2)) 3 (some d3))))))) :: (h0, .inr (3, [.int 0, .int 170, .int 0, .int 0, .ref qs, .int 0, .int 0])) :: ws)) (r := (RX1, TX1, 7)) cx 4 2 0 1 rfl rfl rfl rfl (i := 3) (by decide) (by decide) rfl dX3_init_40 rfl ?_
  refine gg_iinc1p (pc' := 44) gx rfl dX3_init_41 rfl ?_
  rw [show (nI 3 + 1 : Int32) = nI 4 from by decide]
  refine gg_goto gx 22 dX3_init_44 (by decide) ?_
  refine gg_iload1 (pc' := 23) gx dX3_init_22 rfl ?_
  refine gg_bipush (pc' := 25) gx (nI 10) dX3_init_23 (by decide) rfl ?_
  refine gg_icmp_ge (pc' := 28) gx 47 dX3_init_25 (by decide) rfl (fun h => absurd h (by decide)) (fun _ => ?_)
  refine gg_aload0 (pc' := 29) gx dX3_init_28 rfl ?_
  refine ni_get (pc' := 32) (ci := 3) (T := TX3) (N := 7) cx hg_inX3 5 rfl rfl 4 (by decide) rfl (hg_Uin (List.mem_of_getElem? (i := 136) (by decide +kernel)) (by decide +kernel)) rfl dX3_init_29 rfl ?_
  refine gg_iload1 (pc' := 33) gx dX3_init_32 rfl ?_
  refine ni_new (pc' := 36) (ci := 1) (T := TX1) (N := 7) cx hg_inX1 tyX1 tyX1_ok (hg_Uin (List.mem_of_getElem? (i := 86) (by decide +kernel)) (by decide +kernel)) (hg_Uin (List.mem_of_getElem? (i := 88) (by decide +kernel)) (by decide +kernel)) (hg_Uin (List.mem_of_getElem? (i := 59) (by decide +kernel)) (by decide +kernel)) rfl [.int 0, .int 0, .int 0, .int 0, .int 0, .int 0, .int 0] (fun j hj => by rcases (show j = 0 ∨ j = 1 ∨ j = 2 ∨ j = 3 ∨ j = 4 ∨ j = 5 ∨ j = 6 by omega) with rfl | rfl | rfl | rfl | rfl | rfl | rfl <;> rfl) (Nat.le_of_ble_eq_true rfl) (Nat.le_of_ble_eq_true rfl) dX3_init_33 rfl (fun d4 => ?_)
  refine gg_dup (pc' := 37) gx rfl dX3_init_36 rfl ?_
  refine ni_callN (pc' := 40) (As := []) cx (show hg_LkN RX3 21 yX1_init cX1_init 1 none 0 "HatCongress" from ⟨by decide +kernel, (hg_Uin (List.mem_of_getElem? (i := 91) (by decide +kernel)) (by decide +kernel)), (hg_Uin (List.mem_of_getElem? (i := 59) (by decide +kernel)) (by decide +kernel)), by decide +kernel⟩) rfl (hg_Uin (List.mem_of_getElem? (i := 90) (by decide +kernel)) (by decide +kernel)) (K_X1_init l D cA n0 d4 _) ⟨(Nat.le_of_ble_eq_true rfl), (Nat.le_of_ble_eq_true rfl)⟩ rfl rfl (Nat.le_of_ble_eq_true rfl) (Nat.le_of_ble_eq_true rfl) (Nat.le_of_ble_eq_true rfl) dX3_init_37 rfl (fun ws2 hw2 => ?_)
  obtain rfl := hw2
  refine ni_astq (pc' := 41) (ws' := ((d4, .inr (1, [.int 0, .int 0, .int 0, .int 0, .int 0, .int 0, .int 0])) :: (d3, .inr (1, [.int 0, .int 0, .int 0, .int 0, .int 0, .int 0, .int 0])) :: (d2, .inr (1, [.int 0, .int 0, .int 0, .int 0, .int 0, .int 0, .int 0])) :: (d1, .inr (1, [.int 0, .int 0, .int 0, .int 0, .int 0, .int 0, .int 0])) :: (d0, .inr (1, [.int 0, .int 0, .int 0, .int 0, .int 0, .int 0, .int 0])) :: (qs, .inl (cA 2, 10, .inr (.inr (.inr (.inr (va_up (va_up (va_up (va_up (va_up (fun _ => none) 0 (some d0)) 1 (some d1)) 2 (some d2)) 3 (some d3)) 4 (some d4))))))) :: (h0, .inr (3, [.int 0, .int 170, .int 0, .int 0, .ref qs, .int 0, .int 0])) :: ws)) (r := (RX1, TX1, 7)) cx 5 2 0 1 rfl rfl rfl rfl (i := 4) (by decide) (by decide) rfl dX3_init_40 rfl ?_
  refine gg_iinc1p (pc' := 44) gx rfl dX3_init_41 rfl ?_
  rw [show (nI 4 + 1 : Int32) = nI 5 from by decide]
  refine gg_goto gx 22 dX3_init_44 (by decide) ?_
  refine gg_iload1 (pc' := 23) gx dX3_init_22 rfl ?_
  refine gg_bipush (pc' := 25) gx (nI 10) dX3_init_23 (by decide) rfl ?_
  refine gg_icmp_ge (pc' := 28) gx 47 dX3_init_25 (by decide) rfl (fun h => absurd h (by decide)) (fun _ => ?_)
  refine gg_aload0 (pc' := 29) gx dX3_init_28 rfl ?_
  refine ni_get (pc' := 32) (ci := 3) (T := TX3) (N := 7) cx hg_inX3 6 rfl rfl 4 (by decide) rfl (hg_Uin (List.mem_of_getElem? (i := 136) (by decide +kernel)) (by decide +kernel)) rfl dX3_init_29 rfl ?_
  refine gg_iload1 (pc' := 33) gx dX3_init_32 rfl ?_
  refine ni_new (pc' := 36) (ci := 1) (T := TX1) (N := 7) cx hg_inX1 tyX1 tyX1_ok (hg_Uin (List.mem_of_getElem? (i := 86) (by decide +kernel)) (by decide +kernel)) (hg_Uin (List.mem_of_getElem? (i := 88) (by decide +kernel)) (by decide +kernel)) (hg_Uin (List.mem_of_getElem? (i := 59) (by decide +kernel)) (by decide +kernel)) rfl [.int 0, .int 0, .int 0, .int 0, .int 0, .int 0, .int 0] (fun j hj => by rcases (show j = 0 ∨ j = 1 ∨ j = 2 ∨ j = 3 ∨ j = 4 ∨ j = 5 ∨ j = 6 by omega) with rfl | rfl | rfl | rfl | rfl | rfl | rfl <;> rfl) (Nat.le_of_ble_eq_true rfl) (Nat.le_of_ble_eq_true rfl) dX3_init_33 rfl (fun d5 => ?_)
  refine gg_dup (pc' := 37) gx rfl dX3_init_36 rfl ?_
  refine ni_callN (pc' := 40) (As := []) cx (show hg_LkN RX3 21 yX1_init cX1_init 1 none 0 "HatCongress" from ⟨by decide +kernel, (hg_Uin (List.mem_of_getElem? (i := 91) (by decide +kernel)) (by decide +kernel)), (hg_Uin (List.mem_of_getElem? (i := 59) (by decide +kernel)) (by decide +kernel)), by decide +kernel⟩) rfl (hg_Uin (List.mem_of_getElem? (i := 90) (by decide +kernel)) (by decide +kernel)) (K_X1_init l D cA n0 d5 _) ⟨(Nat.le_of_ble_eq_true rfl), (Nat.le_of_ble_eq_true rfl)⟩ rfl rfl (Nat.le_of_ble_eq_true rfl) (Nat.le_of_ble_eq_true rfl) (Nat.le_of_ble_eq_true rfl) dX3_init_37 rfl (fun ws2 hw2 => ?_)
  obtain rfl := hw2
  refine ni_astq (pc' := 41) (ws' := ((d5, .inr (1, [.int 0, .int 0, .int 0, .int 0, .int 0, .int 0, .int 0])) :: (d4, .inr (1, [.int 0, .int 0, .int 0, .int 0, .int 0, .int 0, .int 0])) :: (d3, .inr (1, [.int 0, .int 0, .int 0, .int 0, .int 0, .int 0, .int 0])) :: (d2, .inr (1, [.int 0, .int 0, .int 0, .int 0, .int 0, .int 0, .int 0])) :: (d1, .inr (1, [.int 0, .int 0, .int 0, .int 0, .int 0, .int 0, .int 0])) :: (d0, .inr (1, [.int 0, .int 0, .int 0, .int 0, .int 0, .int 0, .int 0])) :: (qs, .inl (cA 2, 10, .inr (.inr (.inr (.inr (va_up (va_up (va_up (va_up (va_up (va_up (fun _ => none) 0 (some d0)) 1 (some d1)) 2 (some d2)) 3 (some d3)) 4 (some d4)) 5 (some d5))))))) :: (h0, .inr (3, [.int 0, .int 170, .int 0, .int 0, .ref qs, .int 0, .int 0])) :: ws)) (r := (RX1, TX1, 7)) cx 6 2 0 1 rfl rfl rfl rfl (i := 5) (by decide) (by decide) rfl dX3_init_40 rfl ?_
  refine gg_iinc1p (pc' := 44) gx rfl dX3_init_41 rfl ?_
  rw [show (nI 5 + 1 : Int32) = nI 6 from by decide]
  refine gg_goto gx 22 dX3_init_44 (by decide) ?_
  refine gg_iload1 (pc' := 23) gx dX3_init_22 rfl ?_
  refine gg_bipush (pc' := 25) gx (nI 10) dX3_init_23 (by decide) rfl ?_
  refine gg_icmp_ge (pc' := 28) gx 47 dX3_init_25 (by decide) rfl (fun h => absurd h (by decide)) (fun _ => ?_)
  refine gg_aload0 (pc' := 29) gx dX3_init_28 rfl ?_
  refine ni_get (pc' := 32) (ci := 3) (T := TX3) (N := 7) cx hg_inX3 7 rfl rfl 4 (by decide) rfl (hg_Uin (List.mem_of_getElem? (i := 136) (by decide +kernel)) (by decide +kernel)) rfl dX3_init_29 rfl ?_
  refine gg_iload1 (pc' := 33) gx dX3_init_32 rfl ?_
  refine ni_new (pc' := 36) (ci := 1) (T := TX1) (N := 7) cx hg_inX1 tyX1 tyX1_ok (hg_Uin (List.mem_of_getElem? (i := 86) (by decide +kernel)) (by decide +kernel)) (hg_Uin (List.mem_of_getElem? (i := 88) (by decide +kernel)) (by decide +kernel)) (hg_Uin (List.mem_of_getElem? (i := 59) (by decide +kernel)) (by decide +kernel)) rfl [.int 0, .int 0, .int 0, .int 0, .int 0, .int 0, .int 0] (fun j hj => by rcases (show j = 0 ∨ j = 1 ∨ j = 2 ∨ j = 3 ∨ j = 4 ∨ j = 5 ∨ j = 6 by omega) with rfl | rfl | rfl | rfl | rfl | rfl | rfl <;> rfl) (Nat.le_of_ble_eq_true rfl) (Nat.le_of_ble_eq_true rfl) dX3_init_33 rfl (fun d6 => ?_)
  refine gg_dup (pc' := 37) gx rfl dX3_init_36 rfl ?_
  refine ni_callN (pc' := 40) (As := []) cx (show hg_LkN RX3 21 yX1_init cX1_init 1 none 0 "HatCongress" from ⟨by decide +kernel, (hg_Uin (List.mem_of_getElem? (i := 91) (by decide +kernel)) (by decide +kernel)), (hg_Uin (List.mem_of_getElem? (i := 59) (by decide +kernel)) (by decide +kernel)), by decide +kernel⟩) rfl (hg_Uin (List.mem_of_getElem? (i := 90) (by decide +kernel)) (by decide +kernel)) (K_X1_init l D cA n0 d6 _) ⟨(Nat.le_of_ble_eq_true rfl), (Nat.le_of_ble_eq_true rfl)⟩ rfl rfl (Nat.le_of_ble_eq_true rfl) (Nat.le_of_ble_eq_true rfl) (Nat.le_of_ble_eq_true rfl) dX3_init_37 rfl (fun ws2 hw2 => ?_)
  obtain rfl := hw2
  refine ni_astq (pc' := 41) (ws' := ((d6, .inr (1, [.int 0, .int 0, .int 0, .int 0, .int 0, .int 0, .int 0])) :: (d5, .inr (1, [.int 0, .int 0, .int 0, .int 0, .int 0, .int 0, .int 0])) :: (d4, .inr (1, [.int 0, .int 0, .int 0, .int 0, .int 0, .int 0, .int 0])) :: (d3, .inr (1, [.int 0, .int 0, .int 0, .int 0, .int 0, .int 0, .int 0])) :: (d2, .inr (1, [.int 0, .int 0, .int 0, .int 0, .int 0, .int 0, .int 0])) :: (d1, .inr (1, [.int 0, .int 0, .int 0, .int 0, .int 0, .int 0, .int 0])) :: (d0, .inr (1, [.int 0, .int 0, .int 0, .int 0, .int 0, .int 0, .int 0])) :: (qs, .inl (cA 2, 10, .inr (.inr (.inr (.inr (va_up (va_up (va_up (va_up (va_up (va_up (va_up (fun _ => none) 0 (some d0)) 1 (some d1)) 2 (some d2)) 3 (some d3)) 4 (some d4)) 5 (some d5)) 6 (some d6))))))) :: (h0, .inr (3, [.int 0, .int 170, .int 0, .int 0, .ref qs, .int 0, .int 0])) :: ws)) (r := (RX1, TX1, 7)) cx 7 2 0 1 rfl rfl rfl rfl (i := 6) (by decide) (by decide) rfl dX3_init_40 rfl ?_
  refine gg_iinc1p (pc' := 44) gx rfl dX3_init_41 rfl ?_
  rw [show (nI 6 + 1 : Int32) = nI 7 from by decide]
  refine gg_goto gx 22 dX3_init_44 (by decide) ?_
  refine gg_iload1 (pc' := 23) gx dX3_init_22 rfl ?_
  refine gg_bipush (pc' := 25) gx (nI 10) dX3_init_23 (by decide) rfl ?_
  refine gg_icmp_ge (pc' := 28) gx 47 dX3_init_25 (by decide) rfl (fun h => absurd h (by decide)) (fun _ => ?_)
  refine gg_aload0 (pc' := 29) gx dX3_init_28 rfl ?_
  refine ni_get (pc' := 32) (ci := 3) (T := TX3) (N := 7) cx hg_inX3 8 rfl rfl 4 (by decide) rfl (hg_Uin (List.mem_of_getElem? (i := 136) (by decide +kernel)) (by decide +kernel)) rfl dX3_init_29 rfl ?_
  refine gg_iload1 (pc' := 33) gx dX3_init_32 rfl ?_
  refine ni_new (pc' := 36) (ci := 1) (T := TX1) (N := 7) cx hg_inX1 tyX1 tyX1_ok (hg_Uin (List.mem_of_getElem? (i := 86) (by decide +kernel)) (by decide +kernel)) (hg_Uin (List.mem_of_getElem? (i := 88) (by decide +kernel)) (by decide +kernel)) (hg_Uin (List.mem_of_getElem? (i := 59) (by decide +kernel)) (by decide +kernel)) rfl [.int 0, .int 0, .int 0, .int 0, .int 0, .int 0, .int 0] (fun j hj => by rcases (show j = 0 ∨ j = 1 ∨ j = 2 ∨ j = 3 ∨ j = 4 ∨ j = 5 ∨ j = 6 by omega) with rfl | rfl | rfl | rfl | rfl | rfl | rfl <;> rfl) (Nat.le_of_ble_eq_true rfl) (Nat.le_of_ble_eq_true rfl) dX3_init_33 rfl (fun d7 => ?_)
  refine gg_dup (pc' := 37) gx rfl dX3_init_36 rfl ?_
  refine ni_callN (pc' := 40) (As := []) cx (show hg_LkN RX3 21 yX1_init cX1_init 1 none 0 "HatCongress" from ⟨by decide +kernel, (hg_Uin (List.mem_of_getElem? (i := 91) (by decide +kernel)) (by decide +kernel)), (hg_Uin (List.mem_of_getElem? (i := 59) (by decide +kernel)) (by decide +kernel)), by decide +kernel⟩) rfl (hg_Uin (List.mem_of_getElem? (i := 90) (by decide +kernel)) (by decide +kernel)) (K_X1_init l D cA n0 d7 _) ⟨(Nat.le_of_ble_eq_true rfl), (Nat.le_of_ble_eq_true rfl)⟩ rfl rfl (Nat.le_of_ble_eq_true rfl) (Nat.le_of_ble_eq_true rfl) (Nat.le_of_ble_eq_true rfl) dX3_init_37 rfl (fun ws2 hw2 => ?_)
  obtain rfl := hw2
  refine ni_astq (pc' := 41) (ws' := ((d7, .inr (1, [.int 0, .int 0, .int 0, .int 0, .int 0, .int 0, .int 0])) :: (d6, .inr (1, [.int 0, .int 0, .int 0, .int 0, .int 0, .int 0, .int 0])) :: (d5, .inr (1, [.int 0, .int 0, .int 0, .int 0, .int 0, .int 0, .int 0])) :: (d4, .inr (1, [.int 0, .int 0, .int 0, .int 0, .int 0, .int 0, .int 0])) :: (d3, .inr (1, [.int 0, .int 0, .int 0, .int 0, .int 0, .int 0, .int 0])) :: (d2, .inr (1, [.int 0, .int 0, .int 0, .int 0, .int 0, .int 0, .int 0])) :: (d1, .inr (1, [.int 0, .int 0, .int 0, .int 0, .int 0, .int 0, .int 0])) :: (d0, .inr (1, [.int 0, .int 0, .int 0, .int 0, .int 0, .int 0, .int 0])) :: (qs, .inl (cA 2, 10, .inr (.inr (.inr (.inr (va_up (va_up (va_up (va_up (va_up (va_up (va_up (va_up (fun _ => none) 0 (some d0)) 1 (some d1)) 2 (some d2)) 3 (some d3)) 4 (some d4)) 5 (some d5)) 6 (some d6)) 7 (some d7))))))) :: (h0, .inr (3, [.int 0, .int 170, .int 0, .int 0, .ref qs, .int 0, .int 0])) :: ws)) (r := (RX1, TX1, 7)) cx 8 2 0 1 rfl rfl rfl rfl (i := 7) (by decide) (by decide) rfl dX3_init_40 rfl ?_
  refine gg_iinc1p (pc' := 44) gx rfl dX3_init_41 rfl ?_
  rw [show (nI 7 + 1 : Int32) = nI 8 from by decide]
  refine gg_goto gx 22 dX3_init_44 (by decide) ?_
  refine gg_iload1 (pc' := 23) gx dX3_init_22 rfl ?_
  refine gg_bipush (pc' := 25) gx (nI 10) dX3_init_23 (by decide) rfl ?_
  refine gg_icmp_ge (pc' := 28) gx 47 dX3_init_25 (by decide) rfl (fun h => absurd h (by decide)) (fun _ => ?_)
  refine gg_aload0 (pc' := 29) gx dX3_init_28 rfl ?_
  refine ni_get (pc' := 32) (ci := 3) (T := TX3) (N := 7) cx hg_inX3 9 rfl rfl 4 (by decide) rfl (hg_Uin (List.mem_of_getElem? (i := 136) (by decide +kernel)) (by decide +kernel)) rfl dX3_init_29 rfl ?_
  refine gg_iload1 (pc' := 33) gx dX3_init_32 rfl ?_
  refine ni_new (pc' := 36) (ci := 1) (T := TX1) (N := 7) cx hg_inX1 tyX1 tyX1_ok (hg_Uin (List.mem_of_getElem? (i := 86) (by decide +kernel)) (by decide +kernel)) (hg_Uin (List.mem_of_getElem? (i := 88) (by decide +kernel)) (by decide +kernel)) (hg_Uin (List.mem_of_getElem? (i := 59) (by decide +kernel)) (by decide +kernel)) rfl [.int 0, .int 0, .int 0, .int 0, .int 0, .int 0, .int 0] (fun j hj => by rcases (show j = 0 ∨ j = 1 ∨ j = 2 ∨ j = 3 ∨ j = 4 ∨ j = 5 ∨ j = 6 by omega) with rfl | rfl | rfl | rfl | rfl | rfl | rfl <;> rfl) (Nat.le_of_ble_eq_true rfl) (Nat.le_of_ble_eq_true rfl) dX3_init_33 rfl (fun d8 => ?_)
  refine gg_dup (pc' := 37) gx rfl dX3_init_36 rfl ?_
  refine ni_callN (pc' := 40) (As := []) cx (show hg_LkN RX3 21 yX1_init cX1_init 1 none 0 "HatCongress" from ⟨by decide +kernel, (hg_Uin (List.mem_of_getElem? (i := 91) (by decide +kernel)) (by decide +kernel)), (hg_Uin (List.mem_of_getElem? (i := 59) (by decide +kernel)) (by decide +kernel)), by decide +kernel⟩) rfl (hg_Uin (List.mem_of_getElem? (i := 90) (by decide +kernel)) (by decide +kernel)) (K_X1_init l D cA n0 d8 _) ⟨(Nat.le_of_ble_eq_true rfl), (Nat.le_of_ble_eq_true rfl)⟩ rfl rfl (Nat.le_of_ble_eq_true rfl) (Nat.le_of_ble_eq_true rfl) (Nat.le_of_ble_eq_true rfl) dX3_init_37 rfl (fun ws2 hw2 => ?_)
  obtain rfl := hw2
  refine ni_astq (pc' := 41) (ws' := ((d8, .inr (1, [.int 0, .int 0, .int 0, .int 0, .int 0, .int 0, .int 0])) :: (d7, .inr (1, [.int 0, .int 0, .int 0, .int 0, .int 0, .int 0, .int 0])) :: (d6, .inr (1, [.int 0, .int 0, .int 0, .int 0, .int 0, .int 0, .int 0])) :: (d5, .inr (1, [.int 0, .int 0, .int 0, .int 0, .int 0, .int 0, .int 0])) :: (d4, .inr (1, [.int 0, .int 0, .int 0, .int 0, .int 0, .int 0, .int 0])) :: (d3, .inr (1, [.int 0, .int 0, .int 0, .int 0, .int 0, .int 0, .int 0])) :: (d2, .inr (1, [.int 0, .int 0, .int 0, .int 0, .int 0, .int 0, .int 0])) :: (d1, .inr (1, [.int 0, .int 0, .int 0, .int 0, .int 0, .int 0, .int 0])) :: (d0, .inr (1, [.int 0, .int 0, .int 0, .int 0, .int 0, .int 0, .int 0])) :: (qs, .inl (cA 2, 10, .inr (.inr (.inr (.inr (va_up (va_up (va_up (va_up (va_up (va_up (va_up (va_up (va_up (fun _ => none) 0 (some d0)) 1 (some d1)) 2 (some d2)) 3 (some d3)) 4 (some d4)) 5 (some d5)) 6 (some d6)) 7 (some d7)) 8 (some d8))))))) :: (h0, .inr (3, [.int 0, .int 170, .int 0, .int 0, .ref qs, .int 0, .int 0])) :: ws)) (r := (RX1, TX1, 7)) cx 9 2 0 1 rfl rfl rfl rfl (i := 8) (by decide) (by decide) rfl dX3_init_40 rfl ?_
  refine gg_iinc1p (pc' := 44) gx rfl dX3_init_41 rfl ?_
  rw [show (nI 8 + 1 : Int32) = nI 9 from by decide]
  refine gg_goto gx 22 dX3_init_44 (by decide) ?_
  refine gg_iload1 (pc' := 23) gx dX3_init_22 rfl ?_
  refine gg_bipush (pc' := 25) gx (nI 10) dX3_init_23 (by decide) rfl ?_
  refine gg_icmp_ge (pc' := 28) gx 47 dX3_init_25 (by decide) rfl (fun h => absurd h (by decide)) (fun _ => ?_)
  refine gg_aload0 (pc' := 29) gx dX3_init_28 rfl ?_
  refine ni_get (pc' := 32) (ci := 3) (T := TX3) (N := 7) cx hg_inX3 10 rfl rfl 4 (by decide) rfl (hg_Uin (List.mem_of_getElem? (i := 136) (by decide +kernel)) (by decide +kernel)) rfl dX3_init_29 rfl ?_
  refine gg_iload1 (pc' := 33) gx dX3_init_32 rfl ?_
  refine ni_new (pc' := 36) (ci := 1) (T := TX1) (N := 7) cx hg_inX1 tyX1 tyX1_ok (hg_Uin (List.mem_of_getElem? (i := 86) (by decide +kernel)) (by decide +kernel)) (hg_Uin (List.mem_of_getElem? (i := 88) (by decide +kernel)) (by decide +kernel)) (hg_Uin (List.mem_of_getElem? (i := 59) (by decide +kernel)) (by decide +kernel)) rfl [.int 0, .int 0, .int 0, .int 0, .int 0, .int 0, .int 0] (fun j hj => by rcases (show j = 0 ∨ j = 1 ∨ j = 2 ∨ j = 3 ∨ j = 4 ∨ j = 5 ∨ j = 6 by omega) with rfl | rfl | rfl | rfl | rfl | rfl | rfl <;> rfl) (Nat.le_of_ble_eq_true rfl) (Nat.le_of_ble_eq_true rfl) dX3_init_33 rfl (fun d9 => ?_)
  refine gg_dup (pc' := 37) gx rfl dX3_init_36 rfl ?_
  refine ni_callN (pc' := 40) (As := []) cx (show hg_LkN RX3 21 yX1_init cX1_init 1 none 0 "HatCongress" from ⟨by decide +kernel, (hg_Uin (List.mem_of_getElem? (i := 91) (by decide +kernel)) (by decide +kernel)), (hg_Uin (List.mem_of_getElem? (i := 59) (by decide +kernel)) (by decide +kernel)), by decide +kernel⟩) rfl (hg_Uin (List.mem_of_getElem? (i := 90) (by decide +kernel)) (by decide +kernel)) (K_X1_init l D cA n0 d9 _) ⟨(Nat.le_of_ble_eq_true rfl), (Nat.le_of_ble_eq_true rfl)⟩ rfl rfl (Nat.le_of_ble_eq_true rfl) (Nat.le_of_ble_eq_true rfl) (Nat.le_of_ble_eq_true rfl) dX3_init_37 rfl (fun ws2 hw2 => ?_)
  obtain rfl := hw2
  refine ni_astq (pc' := 41) (ws' := ((d9, .inr (1, [.int 0, .int 0, .int 0, .int 0, .int 0, .int 0, .int 0])) :: (d8, .inr (1, [.int 0, .int 0, .int 0, .int 0, .int 0, .int 0, .int 0])) :: (d7, .inr (1, [.int 0, .int 0, .int 0, .int 0, .int 0, .int 0, .int 0])) :: (d6, .inr (1, [.int 0, .int 0, .int 0, .int 0, .int 0, .int 0, .int 0])) :: (d5, .inr (1, [.int 0, .int 0, .int 0, .int 0, .int 0, .int 0, .int 0])) :: (d4, .inr (1, [.int 0, .int 0, .int 0, .int 0, .int 0, .int 0, .int 0])) :: (d3, .inr (1, [.int 0, .int 0, .int 0, .int 0, .int 0, .int 0, .int 0])) :: (d2, .inr (1, [.int 0, .int 0, .int 0, .int 0, .int 0, .int 0, .int 0])) :: (d1, .inr (1, [.int 0, .int 0, .int 0, .int 0, .int 0, .int 0, .int 0])) :: (d0, .inr (1, [.int 0, .int 0, .int 0, .int 0, .int 0, .int 0, .int 0])) :: (qs, .inl (cA 2, 10, .inr (.inr (.inr (.inr (va_up (va_up (va_up (va_up (va_up (va_up (va_up (va_up (va_up (va_up (fun _ => none) 0 (some d0)) 1 (some d1)) 2 (some d2)) 3 (some d3)) 4 (some d4)) 5 (some d5)) 6 (some d6)) 7 (some d7)) 8 (some d8)) 9 (some d9))))))) :: (h0, .inr (3, [.int 0, .int 170, .int 0, .int 0, .ref qs, .int 0, .int 0])) :: ws)) (r := (RX1, TX1, 7)) cx 10 2 0 1 rfl rfl rfl rfl (i := 9) (by decide) (by decide) rfl dX3_init_40 rfl ?_
  refine gg_iinc1p (pc' := 44) gx rfl dX3_init_41 rfl ?_
  rw [show (nI 9 + 1 : Int32) = nI 10 from by decide]
  refine gg_goto gx 22 dX3_init_44 (by decide) ?_
  refine gg_iload1 (pc' := 23) gx dX3_init_22 rfl ?_
  refine gg_bipush (pc' := 25) gx (nI 10) dX3_init_23 (by decide) rfl ?_
  refine gg_icmp_ge (pc' := 28) gx 47 dX3_init_25 (by decide) rfl (fun _ => ?_) (fun h => absurd (by decide) h)
  exact ni_ret cx hr hlk (⟨fun j => ([d0, d1, d2, d3, d4, d5, d6, d7, d8, d9, qs] : List Nat).getD j 0, rfl⟩) dX3_init_47
set_option maxHeartbeats 4000000 in
set_option maxRecDepth 100000 in
theorem K_X5_init (l : Launch) (D : va_G) (cA : Nat → ClassId) (n0 : Nat) (h0 : Nat) (ws : va_W) : ni_C l D cA n0 yX5_init cX5_init 2 { frames := 3, cells := 49, slots := 571, locals := 110 } [.ref h0] ((h0, .inr (5, [.null, .null, .null, .int 0, .null, .null, .null])) :: ws) (fun ws' => ∃ (t1 t2 t3 tp bt ck sh fo s0 s1 s2 s3 n0' n1 n2 n3 : Nat) (a1 a2 a3 : Nat → Nat), ws' = (n3, .inl (cA 1, 40, .inr (.inl (fun _ => 0)))) :: (s3, .inr (2, [.ref n3, .int 0, .int 0])) :: (n2, .inl (cA 1, 40, .inr (.inl (fun _ => 0)))) :: (s2, .inr (2, [.ref n2, .int 0, .int 0])) :: (n1, .inl (cA 1, 40, .inr (.inl (fun _ => 0)))) :: (s1, .inr (2, [.ref n1, .int 0, .int 0])) :: (n0', .inl (cA 1, 40, .inr (.inl (fun _ => 0)))) :: (s0, .inr (2, [.ref n0', .int 0, .int 0])) :: (fo, .inl (cA 0, 7, .inl (fun _ => 0))) :: (sh, .inl (cA 3, 4, .inr (.inr (.inr (.inr (va_up (va_up (va_up (va_up (fun _ => none) 0 (some s0)) 1 (some s1)) 2 (some s2)) 3 (some s3))))))) :: (bt, .inl (cA 0, 120, .inl (fun _ => 0))) :: (tp, .inr (4, [.ref bt, .int 0])) :: (ck, .inr (0, [.ref tp, .int 0, .int 0, .int 0, .int 0])) :: (ni_tab cA t3 a3 ++ (ni_tab cA t2 a2 ++ (ni_tab cA t1 a1 ++ (h0, .inr (5, [.ref t1, .ref t2, .ref t3, .int 0, .ref ck, .ref sh, .ref fo])) :: ws)))) := by
  refine ni_intro (by decide) rfl [some (.ref h0), none] rfl (Nat.le_of_ble_eq_true rfl) ?_
  intro p e s m args below meth c cx hr hlk hi0
  have cx : ni_Cx D cA n0 p s m args c cX5_init 2 RX5 := cx
  have gx : gg_Cx p c cX5_init := cx.g
  refine gg_aload0 (pc' := 1) gx dX5_init_0 rfl ?_
  refine ni_obj (pc' := 4) cx (hg_Uin (List.mem_of_getElem? (i := 77) (by decide +kernel)) (by decide +kernel)) (Nat.le_of_ble_eq_true rfl) (Nat.le_of_ble_eq_true rfl) dX5_init_1 rfl ?_
  refine gg_aload0 (pc' := 5) gx dX5_init_4 rfl ?_
  refine ni_new (pc' := 8) (ci := 3) (T := TX3) (N := 7) cx hg_inX3 tyX3 tyX3_ok (hg_Uin (List.mem_of_getElem? (i := 80) (by decide +kernel)) (by decide +kernel)) (hg_Uin (List.mem_of_getElem? (i := 81) (by decide +kernel)) (by decide +kernel)) (hg_Uin (List.mem_of_getElem? (i := 58) (by decide +kernel)) (by decide +kernel)) rfl [.int 0, .int 0, .int 0, .int 0, .null, .int 0, .int 0] (fun j hj => by rcases (show j = 0 ∨ j = 1 ∨ j = 2 ∨ j = 3 ∨ j = 4 ∨ j = 5 ∨ j = 6 by omega) with rfl | rfl | rfl | rfl | rfl | rfl | rfl <;> rfl) (Nat.le_of_ble_eq_true rfl) (Nat.le_of_ble_eq_true rfl) dX5_init_5 rfl (fun t1 => ?_)
  refine gg_dup (pc' := 9) gx rfl dX5_init_8 rfl ?_
  refine ni_call (pc' := 12) (As := []) cx (show hg_Lk RX5 9 yX3_init cX3_init 2 none 0 from ⟨(hg_Uin (List.mem_of_getElem? (i := 82) (by decide +kernel)) (by decide +kernel)), (hg_Uin (List.mem_of_getElem? (i := 84) (by decide +kernel)) (by decide +kernel)), (hg_Uin (List.mem_of_getElem? (i := 58) (by decide +kernel)) (by decide +kernel)), by decide +kernel⟩) rfl (hg_Uin (List.mem_of_getElem? (i := 83) (by decide +kernel)) (by decide +kernel)) (K_X3_init l D cA n0 t1 _) ⟨(Nat.le_of_ble_eq_true rfl), (Nat.le_of_ble_eq_true rfl)⟩ rfl rfl (Nat.le_of_ble_eq_true rfl) (Nat.le_of_ble_eq_true rfl) (Nat.le_of_ble_eq_true rfl) dX5_init_9 rfl (fun ws2 hw2 => ?_)
  obtain ⟨a1, rfl⟩ := hw2
  refine ni_putF (pc' := 15) (ci := 5) (T := TX5) (N := 7) (ty := .object "HatCongress$Table") (ws' := ((ni_tab cA t1 a1 ++ (h0, .inr (5, [.ref t1, .null, .null, .int 0, .null, .null, .null])) :: ws))) cx hi0 hg_inX5 tyX5 tyX5_ok nmX5 12 rfl rfl 0 (by decide) rfl (hg_Uin (List.mem_of_getElem? (i := 219) (by decide +kernel)) (by decide +kernel)) rfl rfl (by decide +kernel) rfl rfl (Nat.le_of_ble_eq_true rfl) rfl dX5_init_12 rfl ?_
  refine gg_aload0 (pc' := 16) gx dX5_init_15 rfl ?_
  refine ni_new (pc' := 19) (ci := 3) (T := TX3) (N := 7) cx hg_inX3 tyX3 tyX3_ok (hg_Uin (List.mem_of_getElem? (i := 80) (by decide +kernel)) (by decide +kernel)) (hg_Uin (List.mem_of_getElem? (i := 81) (by decide +kernel)) (by decide +kernel)) (hg_Uin (List.mem_of_getElem? (i := 58) (by decide +kernel)) (by decide +kernel)) rfl [.int 0, .int 0, .int 0, .int 0, .null, .int 0, .int 0] (fun j hj => by rcases (show j = 0 ∨ j = 1 ∨ j = 2 ∨ j = 3 ∨ j = 4 ∨ j = 5 ∨ j = 6 by omega) with rfl | rfl | rfl | rfl | rfl | rfl | rfl <;> rfl) (Nat.le_of_ble_eq_true rfl) (Nat.le_of_ble_eq_true rfl) dX5_init_16 rfl (fun t2 => ?_)
  refine gg_dup (pc' := 20) gx rfl dX5_init_19 rfl ?_
  refine ni_call (pc' := 23) (As := []) cx (show hg_Lk RX5 9 yX3_init cX3_init 2 none 0 from ⟨(hg_Uin (List.mem_of_getElem? (i := 82) (by decide +kernel)) (by decide +kernel)), (hg_Uin (List.mem_of_getElem? (i := 84) (by decide +kernel)) (by decide +kernel)), (hg_Uin (List.mem_of_getElem? (i := 58) (by decide +kernel)) (by decide +kernel)), by decide +kernel⟩) rfl (hg_Uin (List.mem_of_getElem? (i := 83) (by decide +kernel)) (by decide +kernel)) (K_X3_init l D cA n0 t2 _) ⟨(Nat.le_of_ble_eq_true rfl), (Nat.le_of_ble_eq_true rfl)⟩ rfl rfl (Nat.le_of_ble_eq_true rfl) (Nat.le_of_ble_eq_true rfl) (Nat.le_of_ble_eq_true rfl) dX5_init_20 rfl (fun ws2 hw2 => ?_)
  obtain ⟨a2, rfl⟩ := hw2
  refine ni_putF (pc' := 26) (ci := 5) (T := TX5) (N := 7) (ty := .object "HatCongress$Table") (ws' := ((ni_tab cA t2 a2 ++ (ni_tab cA t1 a1 ++ (h0, .inr (5, [.ref t1, .ref t2, .null, .int 0, .null, .null, .null])) :: ws)))) cx hi0 hg_inX5 tyX5 tyX5_ok nmX5 24 rfl rfl 1 (by decide) rfl (hg_Uin (List.mem_of_getElem? (i := 220) (by decide +kernel)) (by decide +kernel)) rfl rfl (by decide +kernel) rfl rfl (Nat.le_of_ble_eq_true rfl) rfl dX5_init_23 rfl ?_
  refine gg_aload0 (pc' := 27) gx dX5_init_26 rfl ?_
  refine ni_new (pc' := 30) (ci := 3) (T := TX3) (N := 7) cx hg_inX3 tyX3 tyX3_ok (hg_Uin (List.mem_of_getElem? (i := 80) (by decide +kernel)) (by decide +kernel)) (hg_Uin (List.mem_of_getElem? (i := 81) (by decide +kernel)) (by decide +kernel)) (hg_Uin (List.mem_of_getElem? (i := 58) (by decide +kernel)) (by decide +kernel)) rfl [.int 0, .int 0, .int 0, .int 0, .null, .int 0, .int 0] (fun j hj => by rcases (show j = 0 ∨ j = 1 ∨ j = 2 ∨ j = 3 ∨ j = 4 ∨ j = 5 ∨ j = 6 by omega) with rfl | rfl | rfl | rfl | rfl | rfl | rfl <;> rfl) (Nat.le_of_ble_eq_true rfl) (Nat.le_of_ble_eq_true rfl) dX5_init_27 rfl (fun t3 => ?_)
  refine gg_dup (pc' := 31) gx rfl dX5_init_30 rfl ?_
  refine ni_call (pc' := 34) (As := []) cx (show hg_Lk RX5 9 yX3_init cX3_init 2 none 0 from ⟨(hg_Uin (List.mem_of_getElem? (i := 82) (by decide +kernel)) (by decide +kernel)), (hg_Uin (List.mem_of_getElem? (i := 84) (by decide +kernel)) (by decide +kernel)), (hg_Uin (List.mem_of_getElem? (i := 58) (by decide +kernel)) (by decide +kernel)), by decide +kernel⟩) rfl (hg_Uin (List.mem_of_getElem? (i := 83) (by decide +kernel)) (by decide +kernel)) (K_X3_init l D cA n0 t3 _) ⟨(Nat.le_of_ble_eq_true rfl), (Nat.le_of_ble_eq_true rfl)⟩ rfl rfl (Nat.le_of_ble_eq_true rfl) (Nat.le_of_ble_eq_true rfl) (Nat.le_of_ble_eq_true rfl) dX5_init_31 rfl (fun ws2 hw2 => ?_)
  obtain ⟨a3, rfl⟩ := hw2
  refine ni_putF (pc' := 37) (ci := 5) (T := TX5) (N := 7) (ty := .object "HatCongress$Table") (ws' := ((ni_tab cA t3 a3 ++ (ni_tab cA t2 a2 ++ (ni_tab cA t1 a1 ++ (h0, .inr (5, [.ref t1, .ref t2, .ref t3, .int 0, .null, .null, .null])) :: ws))))) cx hi0 hg_inX5 tyX5 tyX5_ok nmX5 36 rfl rfl 2 (by decide) rfl (hg_Uin (List.mem_of_getElem? (i := 221) (by decide +kernel)) (by decide +kernel)) rfl rfl (by decide +kernel) rfl rfl (Nat.le_of_ble_eq_true rfl) rfl dX5_init_34 rfl ?_
  refine gg_aload0 (pc' := 38) gx dX5_init_37 rfl ?_
  refine ni_new (pc' := 41) (ci := 0) (T := TX0) (N := 5) cx hg_inX0 tyX0 tyX0_ok (hg_Uin (List.mem_of_getElem? (i := 158) (by decide +kernel)) (by decide +kernel)) (hg_Uin (List.mem_of_getElem? (i := 159) (by decide +kernel)) (by decide +kernel)) (hg_Uin (List.mem_of_getElem? (i := 60) (by decide +kernel)) (by decide +kernel)) rfl [.null, .int 0, .int 0, .int 0, .int 0] (fun j hj => by rcases (show j = 0 ∨ j = 1 ∨ j = 2 ∨ j = 3 ∨ j = 4 by omega) with rfl | rfl | rfl | rfl | rfl <;> rfl) (Nat.le_of_ble_eq_true rfl) (Nat.le_of_ble_eq_true rfl) dX5_init_38 rfl (fun ck => ?_)
  refine gg_dup (pc' := 42) gx rfl dX5_init_41 rfl ?_
  refine ni_callN (pc' := 45) (As := []) cx (show hg_LkN RX5 24 yX0_init cX0_init 1 none 0 "HatCongress" from ⟨by decide +kernel, (hg_Uin (List.mem_of_getElem? (i := 162) (by decide +kernel)) (by decide +kernel)), (hg_Uin (List.mem_of_getElem? (i := 60) (by decide +kernel)) (by decide +kernel)), by decide +kernel⟩) rfl (hg_Uin (List.mem_of_getElem? (i := 161) (by decide +kernel)) (by decide +kernel)) (K_X0_init l D cA n0 ck _) ⟨(Nat.le_of_ble_eq_true rfl), (Nat.le_of_ble_eq_true rfl)⟩ rfl rfl (Nat.le_of_ble_eq_true rfl) (Nat.le_of_ble_eq_true rfl) (Nat.le_of_ble_eq_true rfl) dX5_init_42 rfl (fun ws2 hw2 => ?_)
  obtain ⟨tp, bt, rfl⟩ := hw2
  refine ni_putF (pc' := 48) (ci := 5) (T := TX5) (N := 7) (ty := .object "HatCongress$Clerk") (ws' := ((bt, .inl (cA 0, 120, .inl (fun _ => 0))) :: (tp, .inr (4, [.ref bt, .int 0])) :: (ck, .inr (0, [.ref tp, .int 0, .int 0, .int 0, .int 0])) :: (ni_tab cA t3 a3 ++ (ni_tab cA t2 a2 ++ (ni_tab cA t1 a1 ++ (h0, .inr (5, [.ref t1, .ref t2, .ref t3, .int 0, .ref ck, .null, .null])) :: ws))))) cx hi0 hg_inX5 tyX5 tyX5_ok nmX5 39 rfl rfl 4 (by decide) rfl (hg_Uin (List.mem_of_getElem? (i := 223) (by decide +kernel)) (by decide +kernel)) rfl rfl (by decide +kernel) rfl rfl (Nat.le_of_ble_eq_true rfl) rfl dX5_init_45 rfl ?_
  refine gg_aload0 (pc' := 49) gx dX5_init_48 rfl ?_
  refine gg_iconst (pc' := 50) gx 4 dX5_init_49 (by decide) rfl ?_
  refine ni_newq (pc' := 53) cx 3 (by decide) rfl cx.2.2.2.2.2.1.2.2.1 (hg_Uin (List.mem_of_getElem? (i := 198) (by decide +kernel)) (by decide +kernel)) 4 (by decide) (by decide) (Nat.le_of_ble_eq_true rfl) (Nat.le_of_ble_eq_true rfl) (Nat.le_of_ble_eq_true rfl) dX5_init_50 rfl (fun sh => ?_)
  refine ni_putF (pc' := 56) (ci := 5) (T := TX5) (N := 7) (ty := .array (.object "HatCongress$Sheet")) (ws' := ((sh, .inl (cA 3, 4, .inr (.inr (.inr (.inr (fun _ => none)))))) :: (bt, .inl (cA 0, 120, .inl (fun _ => 0))) :: (tp, .inr (4, [.ref bt, .int 0])) :: (ck, .inr (0, [.ref tp, .int 0, .int 0, .int 0, .int 0])) :: (ni_tab cA t3 a3 ++ (ni_tab cA t2 a2 ++ (ni_tab cA t1 a1 ++ (h0, .inr (5, [.ref t1, .ref t2, .ref t3, .int 0, .ref ck, .ref sh, .null])) :: ws))))) cx hi0 hg_inX5 tyX5 tyX5_ok nmX5 40 rfl rfl 5 (by decide) rfl (hg_Uin (List.mem_of_getElem? (i := 224) (by decide +kernel)) (by decide +kernel)) rfl rfl (by decide +kernel) rfl rfl (Nat.le_of_ble_eq_true rfl) rfl dX5_init_53 rfl ?_
  refine gg_aload0 (pc' := 57) gx dX5_init_56 rfl ?_
  refine gg_bipush (pc' := 59) gx 7 dX5_init_57 (by decide) rfl ?_
  refine ni_newI (pc' := 61) cx 7 (by decide) (by decide) (Nat.le_of_ble_eq_true rfl) (Nat.le_of_ble_eq_true rfl) (Nat.le_of_ble_eq_true rfl) dX5_init_59 rfl (fun fo => ?_)
  refine ni_putF (pc' := 64) (ci := 5) (T := TX5) (N := 7) (ty := .array .int) (ws' := ((fo, .inl (cA 0, 7, .inl (fun _ => 0))) :: (sh, .inl (cA 3, 4, .inr (.inr (.inr (.inr (fun _ => none)))))) :: (bt, .inl (cA 0, 120, .inl (fun _ => 0))) :: (tp, .inr (4, [.ref bt, .int 0])) :: (ck, .inr (0, [.ref tp, .int 0, .int 0, .int 0, .int 0])) :: (ni_tab cA t3 a3 ++ (ni_tab cA t2 a2 ++ (ni_tab cA t1 a1 ++ (h0, .inr (5, [.ref t1, .ref t2, .ref t3, .int 0, .ref ck, .ref sh, .ref fo])) :: ws))))) cx hi0 hg_inX5 tyX5 tyX5_ok nmX5 41 rfl rfl 6 (by decide) rfl (hg_Uin (List.mem_of_getElem? (i := 225) (by decide +kernel)) (by decide +kernel)) rfl rfl (by decide +kernel) rfl rfl (Nat.le_of_ble_eq_true rfl) rfl dX5_init_61 rfl ?_
  refine gg_iconst (pc' := 65) gx (nI 0) dX5_init_64 (by decide) rfl ?_
  refine gg_istore1 (pc' := 66) gx rfl dX5_init_65 rfl ?_
  refine gg_iload1 (pc' := 67) gx dX5_init_66 rfl ?_
  refine gg_iconst (pc' := 68) gx (nI 4) dX5_init_67 (by decide) rfl ?_
  refine gg_icmp_ge (pc' := 71) gx 90 dX5_init_68 (by decide) rfl (fun h => absurd h (by decide)) (fun _ => ?_)
  refine gg_aload0 (pc' := 72) gx dX5_init_71 rfl ?_
  refine ni_get (pc' := 75) (ci := 5) (T := TX5) (N := 7) cx hg_inX5 41 rfl rfl 5 (by decide) rfl (hg_Uin (List.mem_of_getElem? (i := 224) (by decide +kernel)) (by decide +kernel)) rfl dX5_init_72 rfl ?_
  refine gg_iload1 (pc' := 76) gx dX5_init_75 rfl ?_
  refine ni_new (pc' := 79) (ci := 2) (T := TX2) (N := 3) cx hg_inX2 tyX2 tyX2_ok (hg_Uin (List.mem_of_getElem? (i := 198) (by decide +kernel)) (by decide +kernel)) (hg_Uin (List.mem_of_getElem? (i := 200) (by decide +kernel)) (by decide +kernel)) (hg_Uin (List.mem_of_getElem? (i := 62) (by decide +kernel)) (by decide +kernel)) rfl [.null, .int 0, .int 0] (fun j hj => by rcases (show j = 0 ∨ j = 1 ∨ j = 2 by omega) with rfl | rfl | rfl <;> rfl) (Nat.le_of_ble_eq_true rfl) (Nat.le_of_ble_eq_true rfl) dX5_init_76 rfl (fun s0 => ?_)
  refine gg_dup (pc' := 80) gx rfl dX5_init_79 rfl ?_
  refine ni_callN (pc' := 83) (As := []) cx (show hg_LkN RX5 39 yX2_init cX2_init 1 none 0 "HatCongress" from ⟨by decide +kernel, (hg_Uin (List.mem_of_getElem? (i := 203) (by decide +kernel)) (by decide +kernel)), (hg_Uin (List.mem_of_getElem? (i := 62) (by decide +kernel)) (by decide +kernel)), by decide +kernel⟩) rfl (hg_Uin (List.mem_of_getElem? (i := 202) (by decide +kernel)) (by decide +kernel)) (K_X2_init l D cA n0 s0 _) ⟨(Nat.le_of_ble_eq_true rfl), (Nat.le_of_ble_eq_true rfl)⟩ rfl rfl (Nat.le_of_ble_eq_true rfl) (Nat.le_of_ble_eq_true rfl) (Nat.le_of_ble_eq_true rfl) dX5_init_80 rfl (fun ws2 hw2 => ?_)
  obtain ⟨n0', rfl⟩ := hw2
  refine ni_astq (pc' := 84) (ws' := ((n0', .inl (cA 1, 40, .inr (.inl (fun _ => 0)))) :: (s0, .inr (2, [.ref n0', .int 0, .int 0])) :: (fo, .inl (cA 0, 7, .inl (fun _ => 0))) :: (sh, .inl (cA 3, 4, .inr (.inr (.inr (.inr (va_up (fun _ => none) 0 (some s0))))))) :: (bt, .inl (cA 0, 120, .inl (fun _ => 0))) :: (tp, .inr (4, [.ref bt, .int 0])) :: (ck, .inr (0, [.ref tp, .int 0, .int 0, .int 0, .int 0])) :: (ni_tab cA t3 a3 ++ (ni_tab cA t2 a2 ++ (ni_tab cA t1 a1 ++ (h0, .inr (5, [.ref t1, .ref t2, .ref t3, .int 0, .ref ck, .ref sh, .ref fo])) :: ws))))) (r := (RX2, TX2, 3)) cx 3 3 1 2 rfl rfl rfl rfl (i := 0) (by decide) (by decide) rfl dX5_init_83 rfl ?_
  refine gg_iinc1p (pc' := 87) gx rfl dX5_init_84 rfl ?_
  rw [show (nI 0 + 1 : Int32) = nI 1 from by decide]
  refine gg_goto gx 66 dX5_init_87 (by decide) ?_
  refine gg_iload1 (pc' := 67) gx dX5_init_66 rfl ?_
  refine gg_iconst (pc' := 68) gx (nI 4) dX5_init_67 (by decide) rfl ?_
  refine gg_icmp_ge (pc' := 71) gx 90 dX5_init_68 (by decide) rfl (fun h => absurd h (by decide)) (fun _ => ?_)
  refine gg_aload0 (pc' := 72) gx dX5_init_71 rfl ?_
  refine ni_get (pc' := 75) (ci := 5) (T := TX5) (N := 7) cx hg_inX5 43 rfl rfl 5 (by decide) rfl (hg_Uin (List.mem_of_getElem? (i := 224) (by decide +kernel)) (by decide +kernel)) rfl dX5_init_72 rfl ?_
  refine gg_iload1 (pc' := 76) gx dX5_init_75 rfl ?_
  refine ni_new (pc' := 79) (ci := 2) (T := TX2) (N := 3) cx hg_inX2 tyX2 tyX2_ok (hg_Uin (List.mem_of_getElem? (i := 198) (by decide +kernel)) (by decide +kernel)) (hg_Uin (List.mem_of_getElem? (i := 200) (by decide +kernel)) (by decide +kernel)) (hg_Uin (List.mem_of_getElem? (i := 62) (by decide +kernel)) (by decide +kernel)) rfl [.null, .int 0, .int 0] (fun j hj => by rcases (show j = 0 ∨ j = 1 ∨ j = 2 by omega) with rfl | rfl | rfl <;> rfl) (Nat.le_of_ble_eq_true rfl) (Nat.le_of_ble_eq_true rfl) dX5_init_76 rfl (fun s1 => ?_)
  refine gg_dup (pc' := 80) gx rfl dX5_init_79 rfl ?_
  refine ni_callN (pc' := 83) (As := []) cx (show hg_LkN RX5 39 yX2_init cX2_init 1 none 0 "HatCongress" from ⟨by decide +kernel, (hg_Uin (List.mem_of_getElem? (i := 203) (by decide +kernel)) (by decide +kernel)), (hg_Uin (List.mem_of_getElem? (i := 62) (by decide +kernel)) (by decide +kernel)), by decide +kernel⟩) rfl (hg_Uin (List.mem_of_getElem? (i := 202) (by decide +kernel)) (by decide +kernel)) (K_X2_init l D cA n0 s1 _) ⟨(Nat.le_of_ble_eq_true rfl), (Nat.le_of_ble_eq_true rfl)⟩ rfl rfl (Nat.le_of_ble_eq_true rfl) (Nat.le_of_ble_eq_true rfl) (Nat.le_of_ble_eq_true rfl) dX5_init_80 rfl (fun ws2 hw2 => ?_)
  obtain ⟨n1, rfl⟩ := hw2
  refine ni_astq (pc' := 84) (ws' := ((n1, .inl (cA 1, 40, .inr (.inl (fun _ => 0)))) :: (s1, .inr (2, [.ref n1, .int 0, .int 0])) :: (n0', .inl (cA 1, 40, .inr (.inl (fun _ => 0)))) :: (s0, .inr (2, [.ref n0', .int 0, .int 0])) :: (fo, .inl (cA 0, 7, .inl (fun _ => 0))) :: (sh, .inl (cA 3, 4, .inr (.inr (.inr (.inr (va_up (va_up (fun _ => none) 0 (some s0)) 1 (some s1))))))) :: (bt, .inl (cA 0, 120, .inl (fun _ => 0))) :: (tp, .inr (4, [.ref bt, .int 0])) :: (ck, .inr (0, [.ref tp, .int 0, .int 0, .int 0, .int 0])) :: (ni_tab cA t3 a3 ++ (ni_tab cA t2 a2 ++ (ni_tab cA t1 a1 ++ (h0, .inr (5, [.ref t1, .ref t2, .ref t3, .int 0, .ref ck, .ref sh, .ref fo])) :: ws))))) (r := (RX2, TX2, 3)) cx 5 3 1 2 rfl rfl rfl rfl (i := 1) (by decide) (by decide) rfl dX5_init_83 rfl ?_
  refine gg_iinc1p (pc' := 87) gx rfl dX5_init_84 rfl ?_
  rw [show (nI 1 + 1 : Int32) = nI 2 from by decide]
  refine gg_goto gx 66 dX5_init_87 (by decide) ?_
  refine gg_iload1 (pc' := 67) gx dX5_init_66 rfl ?_
  refine gg_iconst (pc' := 68) gx (nI 4) dX5_init_67 (by decide) rfl ?_
  refine gg_icmp_ge (pc' := 71) gx 90 dX5_init_68 (by decide) rfl (fun h => absurd h (by decide)) (fun _ => ?_)
  refine gg_aload0 (pc' := 72) gx dX5_init_71 rfl ?_
  refine ni_get (pc' := 75) (ci := 5) (T := TX5) (N := 7) cx hg_inX5 45 rfl rfl 5 (by decide) rfl (hg_Uin (List.mem_of_getElem? (i := 224) (by decide +kernel)) (by decide +kernel)) rfl dX5_init_72 rfl ?_
  refine gg_iload1 (pc' := 76) gx dX5_init_75 rfl ?_
  refine ni_new (pc' := 79) (ci := 2) (T := TX2) (N := 3) cx hg_inX2 tyX2 tyX2_ok (hg_Uin (List.mem_of_getElem? (i := 198) (by decide +kernel)) (by decide +kernel)) (hg_Uin (List.mem_of_getElem? (i := 200) (by decide +kernel)) (by decide +kernel)) (hg_Uin (List.mem_of_getElem? (i := 62) (by decide +kernel)) (by decide +kernel)) rfl [.null, .int 0, .int 0] (fun j hj => by rcases (show j = 0 ∨ j = 1 ∨ j = 2 by omega) with rfl | rfl | rfl <;> rfl) (Nat.le_of_ble_eq_true rfl) (Nat.le_of_ble_eq_true rfl) dX5_init_76 rfl (fun s2 => ?_)
  refine gg_dup (pc' := 80) gx rfl dX5_init_79 rfl ?_
  refine ni_callN (pc' := 83) (As := []) cx (show hg_LkN RX5 39 yX2_init cX2_init 1 none 0 "HatCongress" from ⟨by decide +kernel, (hg_Uin (List.mem_of_getElem? (i := 203) (by decide +kernel)) (by decide +kernel)), (hg_Uin (List.mem_of_getElem? (i := 62) (by decide +kernel)) (by decide +kernel)), by decide +kernel⟩) rfl (hg_Uin (List.mem_of_getElem? (i := 202) (by decide +kernel)) (by decide +kernel)) (K_X2_init l D cA n0 s2 _) ⟨(Nat.le_of_ble_eq_true rfl), (Nat.le_of_ble_eq_true rfl)⟩ rfl rfl (Nat.le_of_ble_eq_true rfl) (Nat.le_of_ble_eq_true rfl) (Nat.le_of_ble_eq_true rfl) dX5_init_80 rfl (fun ws2 hw2 => ?_)
  obtain ⟨n2, rfl⟩ := hw2
  refine ni_astq (pc' := 84) (ws' := ((n2, .inl (cA 1, 40, .inr (.inl (fun _ => 0)))) :: (s2, .inr (2, [.ref n2, .int 0, .int 0])) :: (n1, .inl (cA 1, 40, .inr (.inl (fun _ => 0)))) :: (s1, .inr (2, [.ref n1, .int 0, .int 0])) :: (n0', .inl (cA 1, 40, .inr (.inl (fun _ => 0)))) :: (s0, .inr (2, [.ref n0', .int 0, .int 0])) :: (fo, .inl (cA 0, 7, .inl (fun _ => 0))) :: (sh, .inl (cA 3, 4, .inr (.inr (.inr (.inr (va_up (va_up (va_up (fun _ => none) 0 (some s0)) 1 (some s1)) 2 (some s2))))))) :: (bt, .inl (cA 0, 120, .inl (fun _ => 0))) :: (tp, .inr (4, [.ref bt, .int 0])) :: (ck, .inr (0, [.ref tp, .int 0, .int 0, .int 0, .int 0])) :: (ni_tab cA t3 a3 ++ (ni_tab cA t2 a2 ++ (ni_tab cA t1 a1 ++ (h0, .inr (5, [.ref t1, .ref t2, .ref t3, .int 0, .ref ck, .ref sh, .ref fo])) :: ws))))) (r := (RX2, TX2, 3)) cx 7 3 1 2 rfl rfl rfl rfl (i := 2) (by decide) (by decide) rfl dX5_init_83 rfl ?_
  refine gg_iinc1p (pc' := 87) gx rfl dX5_init_84 rfl ?_
  rw [show (nI 2 + 1 : Int32) = nI 3 from by decide]
  refine gg_goto gx 66 dX5_init_87 (by decide) ?_
  refine gg_iload1 (pc' := 67) gx dX5_init_66 rfl ?_
  refine gg_iconst (pc' := 68) gx (nI 4) dX5_init_67 (by decide) rfl ?_
  refine gg_icmp_ge (pc' := 71) gx 90 dX5_init_68 (by decide) rfl (fun h => absurd h (by decide)) (fun _ => ?_)
  refine gg_aload0 (pc' := 72) gx dX5_init_71 rfl ?_
  refine ni_get (pc' := 75) (ci := 5) (T := TX5) (N := 7) cx hg_inX5 47 rfl rfl 5 (by decide) rfl (hg_Uin (List.mem_of_getElem? (i := 224) (by decide +kernel)) (by decide +kernel)) rfl dX5_init_72 rfl ?_
  refine gg_iload1 (pc' := 76) gx dX5_init_75 rfl ?_
  refine ni_new (pc' := 79) (ci := 2) (T := TX2) (N := 3) cx hg_inX2 tyX2 tyX2_ok (hg_Uin (List.mem_of_getElem? (i := 198) (by decide +kernel)) (by decide +kernel)) (hg_Uin (List.mem_of_getElem? (i := 200) (by decide +kernel)) (by decide +kernel)) (hg_Uin (List.mem_of_getElem? (i := 62) (by decide +kernel)) (by decide +kernel)) rfl [.null, .int 0, .int 0] (fun j hj => by rcases (show j = 0 ∨ j = 1 ∨ j = 2 by omega) with rfl | rfl | rfl <;> rfl) (Nat.le_of_ble_eq_true rfl) (Nat.le_of_ble_eq_true rfl) dX5_init_76 rfl (fun s3 => ?_)
  refine gg_dup (pc' := 80) gx rfl dX5_init_79 rfl ?_
  refine ni_callN (pc' := 83) (As := []) cx (show hg_LkN RX5 39 yX2_init cX2_init 1 none 0 "HatCongress" from ⟨by decide +kernel, (hg_Uin (List.mem_of_getElem? (i := 203) (by decide +kernel)) (by decide +kernel)), (hg_Uin (List.mem_of_getElem? (i := 62) (by decide +kernel)) (by decide +kernel)), by decide +kernel⟩) rfl (hg_Uin (List.mem_of_getElem? (i := 202) (by decide +kernel)) (by decide +kernel)) (K_X2_init l D cA n0 s3 _) ⟨(Nat.le_of_ble_eq_true rfl), (Nat.le_of_ble_eq_true rfl)⟩ rfl rfl (Nat.le_of_ble_eq_true rfl) (Nat.le_of_ble_eq_true rfl) (Nat.le_of_ble_eq_true rfl) dX5_init_80 rfl (fun ws2 hw2 => ?_)
  obtain ⟨n3, rfl⟩ := hw2
  refine ni_astq (pc' := 84) (ws' := ((n3, .inl (cA 1, 40, .inr (.inl (fun _ => 0)))) :: (s3, .inr (2, [.ref n3, .int 0, .int 0])) :: (n2, .inl (cA 1, 40, .inr (.inl (fun _ => 0)))) :: (s2, .inr (2, [.ref n2, .int 0, .int 0])) :: (n1, .inl (cA 1, 40, .inr (.inl (fun _ => 0)))) :: (s1, .inr (2, [.ref n1, .int 0, .int 0])) :: (n0', .inl (cA 1, 40, .inr (.inl (fun _ => 0)))) :: (s0, .inr (2, [.ref n0', .int 0, .int 0])) :: (fo, .inl (cA 0, 7, .inl (fun _ => 0))) :: (sh, .inl (cA 3, 4, .inr (.inr (.inr (.inr (va_up (va_up (va_up (va_up (fun _ => none) 0 (some s0)) 1 (some s1)) 2 (some s2)) 3 (some s3))))))) :: (bt, .inl (cA 0, 120, .inl (fun _ => 0))) :: (tp, .inr (4, [.ref bt, .int 0])) :: (ck, .inr (0, [.ref tp, .int 0, .int 0, .int 0, .int 0])) :: (ni_tab cA t3 a3 ++ (ni_tab cA t2 a2 ++ (ni_tab cA t1 a1 ++ (h0, .inr (5, [.ref t1, .ref t2, .ref t3, .int 0, .ref ck, .ref sh, .ref fo])) :: ws))))) (r := (RX2, TX2, 3)) cx 9 3 1 2 rfl rfl rfl rfl (i := 3) (by decide) (by decide) rfl dX5_init_83 rfl ?_
  refine gg_iinc1p (pc' := 87) gx rfl dX5_init_84 rfl ?_
  rw [show (nI 3 + 1 : Int32) = nI 4 from by decide]
  refine gg_goto gx 66 dX5_init_87 (by decide) ?_
  refine gg_iload1 (pc' := 67) gx dX5_init_66 rfl ?_
  refine gg_iconst (pc' := 68) gx (nI 4) dX5_init_67 (by decide) rfl ?_
  refine gg_icmp_ge (pc' := 71) gx 90 dX5_init_68 (by decide) rfl (fun _ => ?_) (fun h => absurd (by decide) h)
  exact ni_ret cx hr hlk (⟨t1, t2, t3, tp, bt, ck, sh, fo, s0, s1, s2, s3, n0', n1, n2, n3, a1, a2, a3, rfl⟩) dX5_init_90
set_option maxHeartbeats 4000000 in
set_option maxRecDepth 100000 in
theorem K_X6_init (l : Launch) (D : va_G) (cA : Nat → ClassId) (n0 : Nat) (h0 : Nat) (ws : va_W) : ni_C l D cA n0 yX6_init cX6_init 1 { frames := 1, cells := 9, slots := 497, locals := 20 } [.ref h0] ((h0, .inr (6, [.null, .null, .null, .int 0, .null, .null, .null, .int 0, .int 0, .int 0, .int 0, .int 0, .int 0, .null, .null, .null])) :: ws) (fun ws' => ∃ (r0 r1 r2 r4 r5 r6 r13 r14 r15 : Nat), ws' = (r15, .inl (cA 1, 160, .inr (.inl (fun _ => 0)))) :: (r14, .inl (cA 0, 4, .inl (fun _ => 0))) :: (r13, .inl (cA 0, 4, .inl (fun _ => 0))) :: (r6, .inl (cA 0, 120, .inl (fun _ => 0))) :: (r5, .inl (cA 0, 10, .inl (fun _ => 0))) :: (r4, .inl (cA 0, 7, .inl (fun _ => 0))) :: (r2, .inl (cA 0, 64, .inl (fun _ => 0))) :: (r1, .inl (cA 0, 64, .inl (fun _ => 0))) :: (r0, .inl (cA 0, 64, .inl (upd (fun _ => 0) 1 170))) :: (h0, .inr (6, [.ref r0, .ref r1, .ref r2, .int 0, .ref r4, .ref r5, .ref r6, .int 0, .int 0, .int 0, .int 0, .int 0, .int 0, .ref r13, .ref r14, .ref r15])) :: ws) := by
  refine ni_intro (by decide) rfl [some (.ref h0)] rfl (Nat.le_of_ble_eq_true rfl) ?_
  intro p e s m args below meth c cx hr hlk hi0
  have cx : ni_Cx D cA n0 p s m args c cX6_init 1 RX6 := cx
  have gx : gg_Cx p c cX6_init := cx.g
  refine gg_aload0 (pc' := 1) gx dX6_init_0 rfl ?_
  refine ni_obj (pc' := 4) cx (hg_Uin (List.mem_of_getElem? (i := 708) (by decide +kernel)) (by decide +kernel)) (Nat.le_of_ble_eq_true rfl) (Nat.le_of_ble_eq_true rfl) dX6_init_1 rfl ?_
  refine gg_aload0 (pc' := 5) gx dX6_init_4 rfl ?_
  refine gg_bipush (pc' := 7) gx 64 dX6_init_5 (by decide) rfl ?_
  refine ni_newI (pc' := 9) cx 64 (by decide) (by decide) (Nat.le_of_ble_eq_true rfl) (Nat.le_of_ble_eq_true rfl) (Nat.le_of_ble_eq_true rfl) dX6_init_7 rfl (fun r0 => ?_)
  refine ni_putF (pc' := 12) (ci := 6) (T := TX6) (N := 16) (ty := .array .int) (ws' := ((r0, .inl (cA 0, 64, .inl (fun _ => 0))) :: (h0, .inr (6, [.ref r0, .null, .null, .int 0, .null, .null, .null, .int 0, .int 0, .int 0, .int 0, .int 0, .int 0, .null, .null, .null])) :: ws)) cx hi0 hg_inX6 tyX6 tyX6_ok nmX6 1 rfl rfl 0 (by decide) rfl (hg_Uin (List.mem_of_getElem? (i := 709) (by decide +kernel)) (by decide +kernel)) rfl rfl (by decide +kernel) rfl rfl (Nat.le_of_ble_eq_true rfl) rfl dX6_init_9 rfl ?_
  refine gg_aload0 (pc' := 13) gx dX6_init_12 rfl ?_
  refine gg_bipush (pc' := 15) gx 64 dX6_init_13 (by decide) rfl ?_
  refine ni_newI (pc' := 17) cx 64 (by decide) (by decide) (Nat.le_of_ble_eq_true rfl) (Nat.le_of_ble_eq_true rfl) (Nat.le_of_ble_eq_true rfl) dX6_init_15 rfl (fun r1 => ?_)
  refine ni_putF (pc' := 20) (ci := 6) (T := TX6) (N := 16) (ty := .array .int) (ws' := ((r1, .inl (cA 0, 64, .inl (fun _ => 0))) :: (r0, .inl (cA 0, 64, .inl (fun _ => 0))) :: (h0, .inr (6, [.ref r0, .ref r1, .null, .int 0, .null, .null, .null, .int 0, .int 0, .int 0, .int 0, .int 0, .int 0, .null, .null, .null])) :: ws)) cx hi0 hg_inX6 tyX6 tyX6_ok nmX6 2 rfl rfl 1 (by decide) rfl (hg_Uin (List.mem_of_getElem? (i := 710) (by decide +kernel)) (by decide +kernel)) rfl rfl (by decide +kernel) rfl rfl (Nat.le_of_ble_eq_true rfl) rfl dX6_init_17 rfl ?_
  refine gg_aload0 (pc' := 21) gx dX6_init_20 rfl ?_
  refine gg_bipush (pc' := 23) gx 64 dX6_init_21 (by decide) rfl ?_
  refine ni_newI (pc' := 25) cx 64 (by decide) (by decide) (Nat.le_of_ble_eq_true rfl) (Nat.le_of_ble_eq_true rfl) (Nat.le_of_ble_eq_true rfl) dX6_init_23 rfl (fun r2 => ?_)
  refine ni_putF (pc' := 28) (ci := 6) (T := TX6) (N := 16) (ty := .array .int) (ws' := ((r2, .inl (cA 0, 64, .inl (fun _ => 0))) :: (r1, .inl (cA 0, 64, .inl (fun _ => 0))) :: (r0, .inl (cA 0, 64, .inl (fun _ => 0))) :: (h0, .inr (6, [.ref r0, .ref r1, .ref r2, .int 0, .null, .null, .null, .int 0, .int 0, .int 0, .int 0, .int 0, .int 0, .null, .null, .null])) :: ws)) cx hi0 hg_inX6 tyX6 tyX6_ok nmX6 3 rfl rfl 2 (by decide) rfl (hg_Uin (List.mem_of_getElem? (i := 711) (by decide +kernel)) (by decide +kernel)) rfl rfl (by decide +kernel) rfl rfl (Nat.le_of_ble_eq_true rfl) rfl dX6_init_25 rfl ?_
  refine gg_aload0 (pc' := 29) gx dX6_init_28 rfl ?_
  refine gg_bipush (pc' := 31) gx 7 dX6_init_29 (by decide) rfl ?_
  refine ni_newI (pc' := 33) cx 7 (by decide) (by decide) (Nat.le_of_ble_eq_true rfl) (Nat.le_of_ble_eq_true rfl) (Nat.le_of_ble_eq_true rfl) dX6_init_31 rfl (fun r4 => ?_)
  refine ni_putF (pc' := 36) (ci := 6) (T := TX6) (N := 16) (ty := .array .int) (ws' := ((r4, .inl (cA 0, 7, .inl (fun _ => 0))) :: (r2, .inl (cA 0, 64, .inl (fun _ => 0))) :: (r1, .inl (cA 0, 64, .inl (fun _ => 0))) :: (r0, .inl (cA 0, 64, .inl (fun _ => 0))) :: (h0, .inr (6, [.ref r0, .ref r1, .ref r2, .int 0, .ref r4, .null, .null, .int 0, .int 0, .int 0, .int 0, .int 0, .int 0, .null, .null, .null])) :: ws)) cx hi0 hg_inX6 tyX6 tyX6_ok nmX6 4 rfl rfl 4 (by decide) rfl (hg_Uin (List.mem_of_getElem? (i := 713) (by decide +kernel)) (by decide +kernel)) rfl rfl (by decide +kernel) rfl rfl (Nat.le_of_ble_eq_true rfl) rfl dX6_init_33 rfl ?_
  refine gg_aload0 (pc' := 37) gx dX6_init_36 rfl ?_
  refine gg_bipush (pc' := 39) gx 10 dX6_init_37 (by decide) rfl ?_
  refine ni_newI (pc' := 41) cx 10 (by decide) (by decide) (Nat.le_of_ble_eq_true rfl) (Nat.le_of_ble_eq_true rfl) (Nat.le_of_ble_eq_true rfl) dX6_init_39 rfl (fun r5 => ?_)
  refine ni_putF (pc' := 44) (ci := 6) (T := TX6) (N := 16) (ty := .array .int) (ws' := ((r5, .inl (cA 0, 10, .inl (fun _ => 0))) :: (r4, .inl (cA 0, 7, .inl (fun _ => 0))) :: (r2, .inl (cA 0, 64, .inl (fun _ => 0))) :: (r1, .inl (cA 0, 64, .inl (fun _ => 0))) :: (r0, .inl (cA 0, 64, .inl (fun _ => 0))) :: (h0, .inr (6, [.ref r0, .ref r1, .ref r2, .int 0, .ref r4, .ref r5, .null, .int 0, .int 0, .int 0, .int 0, .int 0, .int 0, .null, .null, .null])) :: ws)) cx hi0 hg_inX6 tyX6 tyX6_ok nmX6 5 rfl rfl 5 (by decide) rfl (hg_Uin (List.mem_of_getElem? (i := 714) (by decide +kernel)) (by decide +kernel)) rfl rfl (by decide +kernel) rfl rfl (Nat.le_of_ble_eq_true rfl) rfl dX6_init_41 rfl ?_
  refine gg_aload0 (pc' := 45) gx dX6_init_44 rfl ?_
  refine gg_bipush (pc' := 47) gx 120 dX6_init_45 (by decide) rfl ?_
  refine ni_newI (pc' := 49) cx 120 (by decide) (by decide) (Nat.le_of_ble_eq_true rfl) (Nat.le_of_ble_eq_true rfl) (Nat.le_of_ble_eq_true rfl) dX6_init_47 rfl (fun r6 => ?_)
  refine ni_putF (pc' := 52) (ci := 6) (T := TX6) (N := 16) (ty := .array .int) (ws' := ((r6, .inl (cA 0, 120, .inl (fun _ => 0))) :: (r5, .inl (cA 0, 10, .inl (fun _ => 0))) :: (r4, .inl (cA 0, 7, .inl (fun _ => 0))) :: (r2, .inl (cA 0, 64, .inl (fun _ => 0))) :: (r1, .inl (cA 0, 64, .inl (fun _ => 0))) :: (r0, .inl (cA 0, 64, .inl (fun _ => 0))) :: (h0, .inr (6, [.ref r0, .ref r1, .ref r2, .int 0, .ref r4, .ref r5, .ref r6, .int 0, .int 0, .int 0, .int 0, .int 0, .int 0, .null, .null, .null])) :: ws)) cx hi0 hg_inX6 tyX6 tyX6_ok nmX6 6 rfl rfl 6 (by decide) rfl (hg_Uin (List.mem_of_getElem? (i := 715) (by decide +kernel)) (by decide +kernel)) rfl rfl (by decide +kernel) rfl rfl (Nat.le_of_ble_eq_true rfl) rfl dX6_init_49 rfl ?_
  refine gg_aload0 (pc' := 53) gx dX6_init_52 rfl ?_
  refine gg_iconst (pc' := 54) gx 4 dX6_init_53 (by decide) rfl ?_
  refine ni_newI (pc' := 56) cx 4 (by decide) (by decide) (Nat.le_of_ble_eq_true rfl) (Nat.le_of_ble_eq_true rfl) (Nat.le_of_ble_eq_true rfl) dX6_init_54 rfl (fun r13 => ?_)
  refine ni_putF (pc' := 59) (ci := 6) (T := TX6) (N := 16) (ty := .array .int) (ws' := ((r13, .inl (cA 0, 4, .inl (fun _ => 0))) :: (r6, .inl (cA 0, 120, .inl (fun _ => 0))) :: (r5, .inl (cA 0, 10, .inl (fun _ => 0))) :: (r4, .inl (cA 0, 7, .inl (fun _ => 0))) :: (r2, .inl (cA 0, 64, .inl (fun _ => 0))) :: (r1, .inl (cA 0, 64, .inl (fun _ => 0))) :: (r0, .inl (cA 0, 64, .inl (fun _ => 0))) :: (h0, .inr (6, [.ref r0, .ref r1, .ref r2, .int 0, .ref r4, .ref r5, .ref r6, .int 0, .int 0, .int 0, .int 0, .int 0, .int 0, .ref r13, .null, .null])) :: ws)) cx hi0 hg_inX6 tyX6 tyX6_ok nmX6 7 rfl rfl 13 (by decide) rfl (hg_Uin (List.mem_of_getElem? (i := 722) (by decide +kernel)) (by decide +kernel)) rfl rfl (by decide +kernel) rfl rfl (Nat.le_of_ble_eq_true rfl) rfl dX6_init_56 rfl ?_
  refine gg_aload0 (pc' := 60) gx dX6_init_59 rfl ?_
  refine gg_iconst (pc' := 61) gx 4 dX6_init_60 (by decide) rfl ?_
  refine ni_newI (pc' := 63) cx 4 (by decide) (by decide) (Nat.le_of_ble_eq_true rfl) (Nat.le_of_ble_eq_true rfl) (Nat.le_of_ble_eq_true rfl) dX6_init_61 rfl (fun r14 => ?_)
  refine ni_putF (pc' := 66) (ci := 6) (T := TX6) (N := 16) (ty := .array .int) (ws' := ((r14, .inl (cA 0, 4, .inl (fun _ => 0))) :: (r13, .inl (cA 0, 4, .inl (fun _ => 0))) :: (r6, .inl (cA 0, 120, .inl (fun _ => 0))) :: (r5, .inl (cA 0, 10, .inl (fun _ => 0))) :: (r4, .inl (cA 0, 7, .inl (fun _ => 0))) :: (r2, .inl (cA 0, 64, .inl (fun _ => 0))) :: (r1, .inl (cA 0, 64, .inl (fun _ => 0))) :: (r0, .inl (cA 0, 64, .inl (fun _ => 0))) :: (h0, .inr (6, [.ref r0, .ref r1, .ref r2, .int 0, .ref r4, .ref r5, .ref r6, .int 0, .int 0, .int 0, .int 0, .int 0, .int 0, .ref r13, .ref r14, .null])) :: ws)) cx hi0 hg_inX6 tyX6 tyX6_ok nmX6 8 rfl rfl 14 (by decide) rfl (hg_Uin (List.mem_of_getElem? (i := 723) (by decide +kernel)) (by decide +kernel)) rfl rfl (by decide +kernel) rfl rfl (Nat.le_of_ble_eq_true rfl) rfl dX6_init_63 rfl ?_
  refine gg_aload0 (pc' := 67) gx dX6_init_66 rfl ?_
  refine gg_sipush (pc' := 70) gx 160 dX6_init_67 (by decide) rfl ?_
  refine ni_newL (pc' := 72) cx 160 (by decide) (by decide) (Nat.le_of_ble_eq_true rfl) (Nat.le_of_ble_eq_true rfl) (Nat.le_of_ble_eq_true rfl) dX6_init_70 rfl (fun r15 => ?_)
  refine ni_putF (pc' := 75) (ci := 6) (T := TX6) (N := 16) (ty := .array .long) (ws' := ((r15, .inl (cA 1, 160, .inr (.inl (fun _ => 0)))) :: (r14, .inl (cA 0, 4, .inl (fun _ => 0))) :: (r13, .inl (cA 0, 4, .inl (fun _ => 0))) :: (r6, .inl (cA 0, 120, .inl (fun _ => 0))) :: (r5, .inl (cA 0, 10, .inl (fun _ => 0))) :: (r4, .inl (cA 0, 7, .inl (fun _ => 0))) :: (r2, .inl (cA 0, 64, .inl (fun _ => 0))) :: (r1, .inl (cA 0, 64, .inl (fun _ => 0))) :: (r0, .inl (cA 0, 64, .inl (fun _ => 0))) :: (h0, .inr (6, [.ref r0, .ref r1, .ref r2, .int 0, .ref r4, .ref r5, .ref r6, .int 0, .int 0, .int 0, .int 0, .int 0, .int 0, .ref r13, .ref r14, .ref r15])) :: ws)) cx hi0 hg_inX6 tyX6 tyX6_ok nmX6 9 rfl rfl 15 (by decide) rfl (hg_Uin (List.mem_of_getElem? (i := 724) (by decide +kernel)) (by decide +kernel)) rfl rfl (by decide +kernel) rfl rfl (Nat.le_of_ble_eq_true rfl) rfl dX6_init_72 rfl ?_
  refine gg_aload0 (pc' := 76) gx dX6_init_75 rfl ?_
  refine ni_get (pc' := 79) (ci := 6) (T := TX6) (N := 16) cx hg_inX6 9 rfl rfl 0 (by decide) rfl (hg_Uin (List.mem_of_getElem? (i := 709) (by decide +kernel)) (by decide +kernel)) rfl dX6_init_76 rfl ?_
  refine gg_iconst (pc' := 80) gx (nI 1) dX6_init_79 (by decide) rfl ?_
  refine gg_sipush (pc' := 83) gx 170 dX6_init_80 (by decide) rfl ?_
  refine ni_iast (pc' := 84) (ws' := ((r15, .inl (cA 1, 160, .inr (.inl (fun _ => 0)))) :: (r14, .inl (cA 0, 4, .inl (fun _ => 0))) :: (r13, .inl (cA 0, 4, .inl (fun _ => 0))) :: (r6, .inl (cA 0, 120, .inl (fun _ => 0))) :: (r5, .inl (cA 0, 10, .inl (fun _ => 0))) :: (r4, .inl (cA 0, 7, .inl (fun _ => 0))) :: (r2, .inl (cA 0, 64, .inl (fun _ => 0))) :: (r1, .inl (cA 0, 64, .inl (fun _ => 0))) :: (r0, .inl (cA 0, 64, .inl (upd (fun _ => 0) 1 170))) :: (h0, .inr (6, [.ref r0, .ref r1, .ref r2, .int 0, .ref r4, .ref r5, .ref r6, .int 0, .int 0, .int 0, .int 0, .int 0, .int 0, .ref r13, .ref r14, .ref r15])) :: ws)) cx 8 rfl (i := 1) (by decide) (by decide) rfl dX6_init_83 rfl ?_
  exact ni_ret cx hr hlk (⟨r0, r1, r2, r4, r5, r6, r13, r14, r15, rfl⟩) dX6_init_84
