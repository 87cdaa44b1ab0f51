/-! WHAT HOLDS OF EVERY STATE is kept by every call -/
theorem vs_bad {S : sp_S} (h : vs_S S) (f : Nat) : vs_S (sp_bad S f).2 := h
theorem vs_badL {S : sp_S} (h : vs_S S) (f : Nat) : vs_S (sp_badL S f).2 := h
theorem vs_sL {S : sp_S} (h : vs_S S) (i : Nat) (g : Nat → Int64) : vs_S (sp_sL S i g) := h
theorem vs_sC {S : sp_S} (h : vs_S S) {C : sp_C} {n : Nat} (hC : vs_C 99999 C n) : vs_S (sp_sC S C n) := ⟨hC, h.2⟩
theorem vs_len {S : sp_S} (h : vs_S S) {k : Nat} (hk : k ≤ 120) : vs_S (sp_sR S 0 (va_up (S.2.1 0) 1 (nI k))) := ⟨h.1, h.2.1, h.2.2.1, ⟨k, hk, rfl⟩, h.2.2.2.2⟩
theorem vs_C.mono {A B : Nat} {C : sp_C} {n : Nat} (h : vs_C A C n) (hAB : A ≤ B) : vs_C B C n := by
  obtain ⟨h1, h2, ⟨k, hk, e⟩, h4⟩ := h
  exact ⟨h1, h2, ⟨k, by omega, e⟩, h4⟩
theorem vs_put1 {B : Nat} {C : sp_C} {n k : Nat} (h : vs_C B C n) (hk : k ≤ 255) : vs_C B (va_up C.1 1 (nI k), C.2) n := ⟨h.1, h.2.1, h.2.2.1, ⟨k, hk, rfl⟩, h.2.2.2.2.1, h.2.2.2.2.2⟩
theorem vs_put2 {B : Nat} {C : sp_C} {n : Nat} {v : Int32} (h : vs_C B C n) (hk : ∃ k, k ≤ 255 ∧ v = nI k) : vs_C B (va_up C.1 2 v, C.2) n := ⟨h.1, h.2.1, h.2.2.1, h.2.2.2.1, hk, h.2.2.2.2.2⟩
theorem vs_addC {B : Nat} {C : sp_C} {n : Nat} {g : Nat → Int32} (h : vs_C B C n) (hn : n < 10) (hg : vs_H g) : vs_C B (va_up C.1 3 (nI (n + 1)), va_up C.2 n g) (n + 1) := by
  refine ⟨by omega, rfl, h.2.2.1, h.2.2.2.1, h.2.2.2.2.1, fun x hx => ?_⟩
  show vs_H (va_up C.2 n g x)
  by_cases q : x = n
  · rw [q, va_upE]; exact hg
  · rw [va_upN _ _ q]; exact h.2.2.2.2.2 x (by omega)
theorem vs_setH {B : Nat} {C : sp_C} {n x : Nat} {g : Nat → Int32} (h : vs_C B C n) (hg : vs_H g) : vs_C B (C.1, va_up C.2 x g) n := by
  refine ⟨h.1, h.2.1, h.2.2.1, h.2.2.2.1, h.2.2.2.2.1, fun y hy => ?_⟩
  show vs_H (va_up C.2 x g y)
  by_cases q : y = x
  · rw [q, va_upE]; exact hg
  · rw [va_upN _ _ q]; exact h.2.2.2.2.2 y hy
theorem vs_newF {k v f o : Nat} (h1 : k ≤ 5) (h2 : v ≤ 255) (h3 : f ≤ 99) (h4 : o ≤ 1) : vs_H (sp_newF (nI k) (nI v) (nI f) (nI o)) := ⟨⟨k, h1, rfl⟩, ⟨v, h2, rfl⟩, ⟨0, by decide, rfl⟩, ⟨0, by decide, rfl⟩, ⟨f, h3, rfl⟩, ⟨o, h4, rfl⟩⟩
theorem vs_opt {S : sp_S} (h : vs_S S) (o : Option Nat) : vs_S (sp_opt S o).2 := by
  cases o with
  | none => exact vs_bad h 3
  | some k => exact h
theorem vs_orN {S : sp_S} (h : vs_S S) (b : Int32) : vs_S (sp_orN S b).2 := by
  unfold sp_orN; split
  · exact vs_bad h 3
  · exact h
theorem kp_holds {S : sp_S} (h : vs_S S) (w v : Int32) : vs_S (op_holds S w v).2 := by
  unfold op_holds
  split
  · exact vs_bad h 0
  · rename_i c
    obtain ⟨k, -, hk, rfl⟩ := sp_out_of 0 255 (by decide) (by decide) (by decide) (by decide) (Decidable.not_not.mp (not_or.mp c).2)
    split
    · exact vs_sC h (vs_put1 h.1 hk)
    · exact vs_sC h (vs_put2 h.1 ⟨k, hk, rfl⟩)
theorem kp_now {S : sp_S} (h : vs_S S) (w : Int32) : vs_S (op_now S w).2 := by
  unfold op_now
  repeat' split
  all_goals first | exact h | exact vs_bad h 0
theorem kp_hat {S : sp_S} (h : vs_S S) (k v : Int32) : vs_S (op_hat S k v).2 := by
  unfold op_hat
  split
  · exact vs_bad h 0
  · rename_i c
    obtain ⟨a, -, ha, rfl⟩ := sp_out_of 0 5 (by decide) (by decide) (by decide) (by decide) (Decidable.not_not.mp (not_or.mp c).1)
    obtain ⟨b, -, hb, rfl⟩ := sp_out_of 0 255 (by decide) (by decide) (by decide) (by decide) (Decidable.not_not.mp (not_or.mp c).2)
    split
    · exact vs_bad h 1
    · exact vs_sC h (vs_addC h.1 (by omega) (vs_newF ha hb (f := 50) (by decide) (o := 1) (by decide)))
theorem kp_of {S : sp_S} (h : vs_S S) (x w : Int32) : vs_S (op_of S x w).2 := by
  unfold op_of
  repeat' split
  all_goals first | exact h | exact vs_bad h 0
theorem kp_says {S : sp_S} (h : vs_S S) (x w : Int32) : vs_S (op_says S x w).2 := by
  unfold op_says
  repeat' split
  all_goals first | exact h | exact vs_bad h 0
theorem kp_set {S : sp_S} (h : vs_S S) (x w v : Int32) : vs_S (op_set S x w v).2 := by
  unfold op_set
  split
  · exact vs_bad h 0
  · rename_i c
    obtain ⟨c1, c2⟩ := not_or.mp c
    obtain ⟨c3, c4⟩ := not_or.mp c2
    obtain ⟨j, hj, rfl⟩ := sp_hz_of h.1.1 c1
    have hn10 := h.1.1
    obtain ⟨b, hb1, hb5, rfl⟩ := sp_out_of 1 5 (by decide) (by decide) (by decide) (by decide) (Decidable.not_not.mp c3)
    have vh := h.1.2.2.2.2.2 j hj
    refine vs_sC h (vs_setH h.1 ?_)
    rw [nI_clamp (by omega), sp_put_nI _ hb1 hb5]
    replace c4 := Decidable.not_not.mp c4
    rcases (show b = 1 ∨ b = 2 ∨ b = 3 ∨ b = 4 ∨ b = 5 by omega) with rfl | rfl | rfl | rfl | rfl
    · obtain ⟨k, -, hk, rfl⟩ := sp_out_of 0 255 (by decide) (by decide) (by decide) (by decide) c4
      exact ⟨vh.1, ⟨k, hk, rfl⟩, vh.2.2⟩
    · obtain ⟨k, -, hk, rfl⟩ := sp_out_of 0 9999 (by decide) (by decide) (by decide) (by decide) c4
      exact ⟨vh.1, vh.2.1, ⟨k, hk, rfl⟩, vh.2.2.2⟩
    · obtain ⟨k, -, hk, rfl⟩ := sp_out_of 0 9999 (by decide) (by decide) (by decide) (by decide) c4
      exact ⟨vh.1, vh.2.1, vh.2.2.1, ⟨k, hk, rfl⟩, vh.2.2.2.2⟩
    · obtain ⟨k, -, hk, rfl⟩ := sp_out_of 0 99 (by decide) (by decide) (by decide) (by decide) c4
      exact ⟨vh.1, vh.2.1, vh.2.2.1, vh.2.2.2.1, ⟨k, hk, rfl⟩, vh.2.2.2.2.2⟩
    · obtain ⟨k, -, hk, rfl⟩ := sp_out_of 0 1 (by decide) (by decide) (by decide) (by decide) c4
      exact ⟨vh.1, vh.2.1, vh.2.2.1, vh.2.2.2.1, vh.2.2.2.2.1, ⟨k, hk, rfl⟩⟩
theorem kp_turn {S : sp_S} (h : vs_S S) (x k : Int32) : vs_S (op_turn S x k).2 := by
  unfold op_turn
  split
  · exact vs_bad h 0
  · rename_i c
    obtain ⟨c1, c2⟩ := not_or.mp c
    obtain ⟨j, hj, rfl⟩ := sp_hz_of h.1.1 c1
    have hn10 := h.1.1
    obtain ⟨b, -, hb, rfl⟩ := sp_out_of 0 5 (by decide) (by decide) (by decide) (by decide) (Decidable.not_not.mp c2)
    have vh := h.1.2.2.2.2.2 j hj
    refine vs_sC h (vs_setH h.1 ?_)
    rw [nI_clamp (by omega)]
    exact ⟨⟨b, hb, rfl⟩, vh.2⟩
theorem kp_as {S : sp_S} (h : vs_S S) (x w : Int32) : vs_S (op_as S x w).2 := by
  unfold op_as
  repeat' split
  all_goals first | exact h | exact vs_bad h 0 | exact vs_bad h 2
theorem kp_sessions {S : sp_S} (h : vs_S S) (N : Int32) : vs_S (op_sessions S N).2 := by
  unfold op_sessions
  split
  · exact vs_bad h 0
  · rename_i c
    obtain ⟨b, hb1, hb, rfl⟩ := sp_out_of 1 100 (by decide) (by decide) (by decide) (by decide) (Decidable.not_not.mp c)
    split
    · exact vs_bad h 4
    · rename_i d
      replace d := Decidable.not_not.mp d
      obtain ⟨h1, h2, ⟨k, hk, e⟩, h4⟩ := h.1
      rw [e, show (99999 : Int32) = nI 99999 from rfl, pk_sub (by omega)] at d
      have hd := (nI_leI (by omega) (by omega)).mp d
      refine vs_sC h ?_
      rw [nI_clamp (by omega)]
      have q : vs_C k (S.1 0).1 (S.1 0).2 := ⟨h1, h2, ⟨k, Nat.le_refl _, e⟩, h4⟩
      exact (vs_go q b (by omega)).mono (by omega)
theorem kp_on {S : sp_S} (h : vs_S S) (x N w : Int32) : vs_S (op_on S x N w).2 := by
  unfold op_on
  repeat' split
  all_goals first | exact h | exact vs_bad h 0
theorem kp_then {S : sp_S} (h : vs_S S) (N w : Int32) : vs_S (op_then S N w).2 := by
  unfold op_then
  repeat' split
  all_goals first | exact h | exact vs_bad h 0
theorem kp_comes {S : sp_S} (h : vs_S S) (q v : Int32) : vs_S (op_comes S q v).2 := by
  unfold op_comes
  split
  · exact vs_bad h 0
  · exact vs_opt h _
theorem kp_wise {S : sp_S} (h : vs_S S) : vs_S (op_wise S).2 := by
  unfold op_wise
  exact vs_opt h _
theorem kp_errs {S : sp_S} (h : vs_S S) (x : Int32) : vs_S (op_errs S x).2 := by
  unfold op_errs
  split
  · exact vs_bad h 0
  · exact vs_opt h _
theorem kp_lift {S : sp_S} (h : vs_S S) (N : Int32) : vs_S (op_lift S N).2 := by
  unfold op_lift
  split
  · exact vs_bad h 0
  · exact vs_orN h _
theorem kp_kind {S : sp_S} (h : vs_S S) (x N : Int32) : vs_S (op_kind S x N).2 := by
  unfold op_kind
  split
  · exact vs_bad h 0
  · exact h
theorem kp_view {S : sp_S} (h : vs_S S) (x N : Int32) : vs_S (op_view S x N).2 := by
  unfold op_view
  split
  · exact vs_bad h 0
  · exact h
theorem kp_faith {S : sp_S} (h : vs_S S) (x N v : Int32) : vs_S (op_faith S x N v).2 := by
  unfold op_faith
  split
  · exact vs_bad h 0
  · exact vs_opt h _
theorem kp_swing {S : sp_S} (h : vs_S S) : vs_S (op_swing S).2 := by
  unfold op_swing
  exact vs_opt h _
theorem kp_revise {S : sp_S} (h : vs_S S) (N : Int32) : vs_S (op_revise S N).2 := by
  unfold op_revise
  split
  · exact vs_bad h 0
  · exact h
theorem kp_best {S : sp_S} (h : vs_S S) (N : Int32) : vs_S (op_best S N).2 := by
  unfold op_best
  split
  · exact vs_bad h 0
  · split
    · exact vs_bad h 3
    · exact h
theorem vs_feed (b : Int32) : ∀ N k (S : sp_S), vs_S S → S.2.1 0 1 = nI k → k + N ≤ 120 → vs_S (sp_feed b N S) := by
  intro N
  induction N with
  | zero => intro k S h _ _; exact h
  | succ N ih =>
    intro k S h e hk
    rw [sp_feed]
    refine ih (k + 1) _ ?_ ?_ (by omega)
    · exact ⟨h.1, h.2.1, h.2.2.1, ⟨k + 1, by omega, by
        show S.2.1 0 1 + 1 = _
        rw [e, nI_1]⟩, h.2.2.2.2⟩
    · show S.2.1 0 1 + 1 = _
      rw [e, nI_1]
theorem kp_feed {S : sp_S} (h : vs_S S) (b N : Int32) : vs_S (op_feed S b N).2 := by
  unfold op_feed
  split
  · exact vs_bad h 0
  · rename_i c
    obtain ⟨n, hn1, hn, rfl⟩ := sp_out_of 1 4 (by decide) (by decide) (by decide) (by decide) (Decidable.not_not.mp c)
    split
    · exact vs_bad h 1
    · rename_i d
      replace d := Decidable.not_not.mp d
      obtain ⟨k, hk, e⟩ := h.2.2.2.1
      rw [e, show (120 : Int32) = nI 120 from rfl, pk_sub (by omega)] at d
      have hd := (nI_leI (by omega) (by omega)).mp d
      show vs_S (sp_feed b (nI n).toNatClampNeg S)
      rw [nI_clamp (by omega)]
      exact vs_feed b n k S h e (by omega)
theorem kp_wipe {S : sp_S} (h : vs_S S) : vs_S (op_wipe S).2 := vs_len h (k := 0) (by decide)
theorem kp_image {S : sp_S} (h : vs_S S) : vs_S (op_image S).2 := ⟨h.1, fun _ => h.1, Or.inr rfl, h.2.2.2.1, h.2.2.2.2⟩
theorem kp_undo {S : sp_S} (h : vs_S S) : vs_S (op_undo S).2 := by
  unfold op_undo
  split
  · exact vs_bad h 3
  · rename_i c
    exact vs_sC h (h.2.1 (h.2.2.1.resolve_left c))
theorem kp_tear {S : sp_S} (h : vs_S S) : vs_S (op_tear S).2 := ⟨h.1, fun z => absurd z (show ¬ (0 : Int32) = 1 by decide), Or.inl rfl, h.2.2.2.1, h.2.2.2.2⟩
theorem kp_count {S : sp_S} (h : vs_S S) (w : Int32) : vs_S (op_count S w).2 := by
  unfold op_count
  repeat' split
  all_goals first | exact h | exact vs_bad h 0
theorem kp_status {S : sp_S} (h : vs_S S) (w : Int32) : vs_S (op_status S w).2 := by
  unfold op_status
  repeat' split
  all_goals first | exact h | exact vs_bad h 0
theorem kp_sheet {S : sp_S} (h : vs_S S) (x b n : Int32) : vs_S (op_sheet S x b n).2 := by
  unfold op_sheet
  split
  · exact vs_bad h 0
  · rename_i c
    obtain ⟨c1, c2⟩ := not_or.mp c
    obtain ⟨a, -, ha, rfl⟩ := sp_out_of 0 3 (by decide) (by decide) (by decide) (by decide) (Decidable.not_not.mp c1)
    have hb : b = 0 ∨ b = 8 ∨ b = 16 ∨ b = 64 := hg_b1 c2
    split
    · exact vs_bad h 6
    · rename_i c3
      split
      · exact vs_bad h 0
      · rename_i c4
        obtain ⟨k, hk, rfl⟩ := nI_of c3
        have hk40 : k ≤ 40 := by
          rcases Nat.lt_or_ge 40 k with q | q
          · exact absurd (nI_lt (a := 40) q hk) c4
          · exact q
        show vs_S (sp_sL (sp_sR (sp_sR S 3 (va_up (S.2.1 3) (nI a).toNatClampNeg b)) 4 (va_up (S.2.1 4) (nI a).toNatClampNeg (if b = 0 then 0 else nI k))) (nI a).toNatClampNeg (fun _ => 0))
        rw [nI_clamp (by omega)]
        refine ⟨h.1, h.2.1, h.2.2.1, h.2.2.2.1, fun s hs => ⟨?_, ?_⟩⟩
        · show va_up (S.2.1 3) a b s = 0 ∨ va_up (S.2.1 3) a b s = 8 ∨ va_up (S.2.1 3) a b s = 16 ∨ va_up (S.2.1 3) a b s = 64
          by_cases q : s = a
          · rw [q, va_upE]; exact hb
          · rw [va_upN _ _ q]; exact (h.2.2.2.2 s hs).1
        · show ∃ j, j ≤ 40 ∧ va_up (S.2.1 4) a (if b = 0 then 0 else nI k) s = nI j
          by_cases q : s = a
          · rw [q, va_upE]
            by_cases z : b = 0
            · rw [if_pos z]; exact ⟨0, by decide, rfl⟩
            · rw [if_neg z]; exact ⟨k, hk40, rfl⟩
          · rw [va_upN _ _ q]; exact (h.2.2.2.2 s hs).2
theorem kp_write {S : sp_S} (h : vs_S S) (x i : Int32) (v : Int64) : vs_S (op_write S x i v).2 := by
  unfold op_write
  split
  · exact vs_badL h 0
  · split
    · exact vs_badL h 5
    · split
      · exact vs_badL h 0
      · exact vs_sL h _ _
theorem kp_copy {S : sp_S} (h : vs_S S) (x f t g n : Int32) : vs_S (op_copy S x f t g n).2 := by
  unfold op_copy
  split
  · exact vs_bad h 0
  · split
    · exact vs_bad h 5
    · split
      · exact vs_bad h 2
      · split
        · exact vs_bad h 0
        · exact vs_sL h _ _
theorem vs_lays {B n : Nat} (c : Nat → Int64) {C : sp_C} (h : vs_C B C n) : ∀ k, k ≤ n → vs_C B (sp_lays c C k).2 n := by
  intro k
  induction k with
  | zero => intro _; exact h
  | succ k ih =>
    intro hk
    rw [sp_lays]
    split
    · rename_i z
      have vh := (ih (by omega)).2.2.2.2.2 k (by omega)
      refine vs_setH (ih (by omega)) ?_
      have q1 : ¬ (c k).toInt32 < 0 ∧ (c k).toInt32 ≤ 255 := by
        have z1 := Int64.le_iff_toInt_le.mp z.1
        have z2 := Int64.le_iff_toInt_le.mp z.2
        have e0 : (0 : Int64).toInt = 0 := by decide
        have e1 : (255 : Int64).toInt = 255 := by decide
        rw [e0] at z1
        rw [e1] at z2
        have e2 : (c k).toInt32.toInt = (c k).toInt := by
          rw [Int64.toInt_toInt32, Int.bmod_def]
          split <;> omega
        rw [Int32.lt_iff_toInt_lt, Int32.le_iff_toInt_le, e2]
        show ¬ (c k).toInt < 0 ∧ (c k).toInt ≤ 255
        omega
      obtain ⟨j, hj, e⟩ := nI_of2 (M := 255) (n := 255) (by decide) q1.1 q1.2
      rw [e]
      exact ⟨vh.1, ⟨j, hj, rfl⟩, vh.2.2⟩
    · exact ih (by omega)
theorem kp_lays {S : sp_S} (h : vs_S S) (x : Int32) : vs_S (op_lays S x).2 := by
  unfold op_lays
  split
  · exact vs_bad h 0
  · split
    · exact vs_bad h 5
    · exact vs_sC h (vs_lays _ h.1 _ (Nat.min_le_right _ _))
theorem kp_book {S : sp_S} (h : vs_S S) (x y : Int32) : vs_S (op_book S x y).2 := by
  unfold op_book
  split
  · exact vs_bad h 0
  · split
    · exact vs_bad h 5
    · split
      · exact vs_bad h 0
      · exact vs_sL h _ _
theorem kp_read {S : sp_S} (h : vs_S S) (x y : Int32) : vs_S (op_read S x y).2 := by
  unfold op_read
  split
  · exact vs_bad h 0
  · split
    · exact vs_bad h 5
    · split
      · exact vs_bad h 0
      · exact h
theorem sp_prh_in {f : Nat → Int32} {L w m so b : Nat} (hso : so ≤ m) (hm : m < 1000) : ∃ k, k ≤ m ∧ ((sp_prh f L w (nI m) (nI so) b).1 = false ∨ (sp_prh f L w (nI m) (nI so) b).2.2 = nI k) := by
  unfold sp_prh
  split
  · split
    · rename_i z
      obtain ⟨j, hj, e⟩ := sp_v_nat z.1
      have q := z.2
      rw [e] at q
      exact ⟨j, (nI_leI (by omega) (by omega)).mp q, Or.inr e⟩
    · exact ⟨0, Nat.zero_le _, Or.inl rfl⟩
  · exact ⟨so, hso, Or.inr rfl⟩
theorem vs_item {B : Nat} (f : Nat → Int32) (L b : Nat) {C : sp_C} {n : Nat} (h : vs_C B C n) : (sp_item f L b C n).1 = true → vs_C B (sp_item f L b C n).2.2.1 (sp_item f L b C n).2.2.2 := by
  unfold sp_item
  split
  · rename_i hT
    unfold sp_hatI
    split
    · intro z; exact Bool.noConfusion z
    · split
      · intro z; exact Bool.noConfusion z
      · rename_i c1
        split
        · intro z; exact Bool.noConfusion z
        · rename_i c2
          obtain ⟨v, hv, e1⟩ := sp_prh_in (f := f) (L := L) (w := 6) (m := 255) (so := 0) (b := sp_nx f L b) (by decide) (by decide)
          obtain ⟨w, hw, e2⟩ := sp_prh_in (f := f) (L := L) (w := 7) (m := 99) (so := 50) (b := (sp_prh f L 6 255 0 (sp_nx f L b)).2.1) (by decide) (by decide)
          have e1' : (sp_prh f L 6 255 0 (sp_nx f L b)).2.2 = nI v := e1.resolve_left c1
          have e2' : (sp_prh f L 7 99 50 (sp_prh f L 6 255 0 (sp_nx f L b)).2.1).2.2 = nI w := e2.resolve_left c2
          split
          · intro _
            dsimp only
            rw [e1', e2']
            exact vs_addC h (by omega) (vs_newF (by omega) hv hw (o := 0) (by decide))
          · intro _
            dsimp only
            rw [e1', e2']
            exact vs_addC h (by omega) (vs_newF (by omega) hv hw (o := 1) (by decide))
  · split
    · unfold sp_truthI
      split
      · rename_i z
        intro _
        obtain ⟨j, hj, e⟩ := sp_v_nat z.1
        have q := z.2
        rw [e] at q
        dsimp only
        rw [e]
        exact vs_put1 h ((nI_leI (b := 255) (by omega) (by decide)).mp q)
      · intro z; exact Bool.noConfusion z
    · split
      · unfold sp_holdsI
        split
        · rename_i z
          obtain ⟨j, hj, e⟩ := sp_v_nat z.1
          have q := z.2
          rw [e] at q
          have hj7 := (nI_leI (b := 7) (by omega) (by decide)).mp q
          obtain ⟨x, hx, ex⟩ := h.2.2.2.2.1
          split
          · intro _
            dsimp only
            rw [e, ex]
            exact vs_put2 h (sp_withBit_in (by omega) (by omega) _)
          · split
            · intro _
              dsimp only
              rw [e, ex]
              exact vs_put2 h (sp_withBit_in (by omega) (by omega) _)
            · intro z; exact Bool.noConfusion z
        · intro z; exact Bool.noConfusion z
      · split
        · unfold sp_liftI
          split
          · rename_i z
            intro _
            obtain ⟨j, hj, e⟩ := sp_num_lt h.1 z
            have hn := h.1
            dsimp only
            rw [e, nI_clamp (by omega)]
            exact vs_setH h (vs_upOn (h.2.2.2.2.2 j hj))
          · intro z; exact Bool.noConfusion z
        · intro z; exact Bool.noConfusion z
theorem vs_lob {B : Nat} (f : Nat → Int32) (L : Nat) : ∀ k i b (C : sp_C) n, vs_C B C n → (sp_lob f L k i b C n).1 = true → vs_C B (sp_lob f L k i b C n).2.2.2.1 (sp_lob f L k i b C n).2.2.2.2 := by
  intro k
  induction k with
  | zero => intro i b C n _ z; exact Bool.noConfusion z
  | succ k ih =>
    intro i b C n h
    rw [sp_lob]
    split
    · intro z; exact Bool.noConfusion z
    · rename_i c
      have v := vs_item f L b h (Bool.not_eq_false _ ▸ c)
      split
      · intro _; exact v
      · split
        · intro z; exact ih _ _ _ _ v z
        · intro z; exact Bool.noConfusion z
theorem kp_lobby {S : sp_S} (h : vs_S S) : vs_S (op_lobby S).2 := by
  unfold op_lobby
  split
  · rename_i c
    exact vs_len (vs_sC h (vs_lob _ _ _ _ _ _ _ h.1 c)) (k := 0) (by decide)
  · exact vs_len h (k := 0) (by decide)
