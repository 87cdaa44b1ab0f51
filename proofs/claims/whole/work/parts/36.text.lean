/-! THE TEXT: tokens, items, the lobby -/
def sp_eor (f : Nat → Int32) (a b : Int32) : Nat → Nat → Nat
  | 0, e => e
  | k + 1, e => if a ≤ f e ∧ f e ≤ b then sp_eor f a b k (e + 1) else e
theorem sp_eor_ge (f : Nat → Int32) (a b : Int32) : ∀ k e, e ≤ sp_eor f a b k e := by
  intro k
  induction k with
  | zero => intro e; exact Nat.le_refl _
  | succ k ih =>
    intro e
    rw [sp_eor]
    split
    · have := ih (e + 1); omega
    · exact Nat.le_refl _
theorem sp_eor_le (f : Nat → Int32) (a b : Int32) : ∀ k e, sp_eor f a b k e ≤ e + k := by
  intro k
  induction k with
  | zero => intro e; exact Nat.le_refl _
  | succ k ih =>
    intro e
    rw [sp_eor]
    split
    · have := ih (e + 1); omega
    · omega
theorem sp_eor_all (f : Nat → Int32) (a b : Int32) : ∀ k e j, e ≤ j → j < sp_eor f a b k e → a ≤ f j ∧ f j ≤ b := by
  intro k
  induction k with
  | zero => intro e j h1 h2; rw [sp_eor] at h2; omega
  | succ k ih =>
    intro e j h1 h2
    rw [sp_eor] at h2
    by_cases c : a ≤ f e ∧ f e ≤ b
    · rw [if_pos c] at h2
      by_cases q : j = e
      · rw [q]; exact c
      · exact ih (e + 1) j (by omega) h2
    · rw [if_neg c] at h2; omega
def sp_b (f : Nat → Int32) (L e : Nat) : Nat := sp_eor f 32 32 (L - e) e
theorem sp_b_ge (f : Nat → Int32) (L e : Nat) : e ≤ sp_b f L e := sp_eor_ge _ _ _ _ _
theorem sp_b_le (f : Nat → Int32) {L e : Nat} (h : e ≤ L) : sp_b f L e ≤ L := by
  have := sp_eor_le f 32 32 (L - e) e
  unfold sp_b; omega
def sp_c (f : Nat → Int32) (L b : Nat) : Nat := if L ≤ b then 0 else if 97 ≤ f b ∧ f b ≤ 122 then 1 else if 48 ≤ f b ∧ f b ≤ 57 then 2 else if 59 ≤ f b ∧ f b ≤ 59 then 3 else 4
def sp_e (f : Nat → Int32) (L b : Nat) : Nat := if L ≤ b then b else if 97 ≤ f b ∧ f b ≤ 122 then sp_eor f 97 122 (L - b) b else if 48 ≤ f b ∧ f b ≤ 57 then sp_eor f 48 57 (L - b) b else b + 1
theorem sp_e_le (f : Nat → Int32) {L b : Nat} (h : b ≤ L) : sp_e f L b ≤ L := by
  unfold sp_e
  split
  · exact h
  · split
    · have := sp_eor_le f 97 122 (L - b) b; omega
    · split
      · have := sp_eor_le f 48 57 (L - b) b; omega
      · omega
theorem sp_e_gt (f : Nat → Int32) {L b : Nat} (h : b < L) : b < sp_e f L b := by
  obtain ⟨k, hk⟩ : ∃ k, L - b = k + 1 := ⟨L - b - 1, by omega⟩
  unfold sp_e
  rw [if_neg (by omega), hk]
  by_cases c1 : 97 ≤ f b ∧ f b ≤ 122
  · rw [if_pos c1, sp_eor, if_pos c1]
    have := sp_eor_ge f 97 122 k (b + 1); omega
  · rw [if_neg c1]
    by_cases c2 : 48 ≤ f b ∧ f b ≤ 57
    · rw [if_pos c2, sp_eor, if_pos c2]
      have := sp_eor_ge f 48 57 k (b + 1); omega
    · rw [if_neg c2]; omega
theorem sp_e_ge (f : Nat → Int32) (L b : Nat) : b ≤ sp_e f L b := by
  rcases Nat.lt_or_ge b L with h | h
  · exact Nat.le_of_lt (sp_e_gt f h)
  · unfold sp_e; rw [if_pos h]; exact Nat.le_refl _
def sp_nx (f : Nat → Int32) (L b : Nat) : Nat := sp_b f L (sp_e f L b)
theorem sp_nx_le (f : Nat → Int32) {L b : Nat} (h : b ≤ L) : sp_nx f L b ≤ L := sp_b_le f (sp_e_le f h)
theorem sp_nx_ge (f : Nat → Int32) (L b : Nat) : b ≤ sp_nx f L b := Nat.le_trans (sp_e_ge f L b) (sp_b_ge f L _)
theorem sp_nx_gt (f : Nat → Int32) {L b : Nat} (h : b < L) : b < sp_nx f L b := Nat.lt_of_lt_of_le (sp_e_gt f h) (sp_b_ge f L _)
def sp_val (f : Nat → Int32) : Nat → Nat → Int32 → Int32
  | 0, _, v => v
  | k + 1, i, v => if v < 1000 then sp_val f k (i + 1) (v * 10 + f i - 48) else v
theorem sp_val_big (f : Nat → Int32) {v : Int32} (h : ¬ v < 1000) : ∀ k i, sp_val f k i v = v := by
  intro k i
  cases k with
  | zero => rfl
  | succ k => rw [sp_val, if_neg h]
def sp_v (f : Nat → Int32) (L b : Nat) : Int32 := sp_val f (sp_e f L b - b) b 0
theorem sp_val_nat (f : Nat → Int32) : ∀ k i v, v < 20000 → (∀ j, i ≤ j → j < i + k → 48 ≤ f j ∧ f j ≤ 57) → ∃ w, w < 20000 ∧ sp_val f k i (nI v) = nI w := by
  intro k
  induction k with
  | zero => intro i v hv _; exact ⟨v, hv, rfl⟩
  | succ k ih =>
    intro i v hv h
    rw [sp_val]
    by_cases c : nI v < 1000
    · rw [if_pos c]
      have hv2 : v < 1000 := (nI_ltI (b := 1000) (by omega) (by decide)).mp c
      obtain ⟨d1, d2⟩ := h i (Nat.le_refl _) (by omega)
      obtain ⟨d, hd, ed⟩ := nI_of2 (x := f i) (M := 57) (n := 57) (by decide) (fun z => Int32.not_lt.mpr d1 (Int32.lt_trans z (by decide))) d2
      rw [ed] at d1
      have hd48 : 48 ≤ d := (nI_leI (a := 48) (by decide) (by omega)).mp d1
      rw [ed, show (10 : Int32) = nI 10 from rfl, pk_mul, nI_add, show (48 : Int32) = nI 48 from rfl, pk_sub (by omega)]
      exact ih (i + 1) _ (by omega) (fun j h1 h2 => h j (by omega) (by omega))
    · rw [if_neg c]; exact ⟨v, hv, rfl⟩
theorem sp_c2 {f : Nat → Int32} {L b : Nat} (h : sp_c f L b = 2) : b < L ∧ (48 ≤ f b ∧ f b ≤ 57) ∧ sp_e f L b = sp_eor f 48 57 (L - b) b := by
  unfold sp_c at h
  by_cases c0 : L ≤ b
  · rw [if_pos c0] at h; omega
  · rw [if_neg c0] at h
    by_cases c1 : 97 ≤ f b ∧ f b ≤ 122
    · rw [if_pos c1] at h; omega
    · rw [if_neg c1] at h
      by_cases c2 : 48 ≤ f b ∧ f b ≤ 57
      · refine ⟨by omega, c2, ?_⟩
        unfold sp_e
        rw [if_neg c0, if_neg c1, if_pos c2]
      · rw [if_neg c2] at h
        split at h <;> omega
theorem sp_v_nat {f : Nat → Int32} {L b : Nat} (h : sp_c f L b = 2) : ∃ w, w < 20000 ∧ sp_v f L b = nI w := by
  obtain ⟨h1, h2, h3⟩ := sp_c2 h
  have := sp_e_ge f L b
  exact sp_val_nat f _ b 0 (by decide) (fun j q1 q2 => sp_eor_all f 48 57 _ b j q1 (by rw [← h3]; omega))
/-- words: the reference's table -/
def sp_wl (w : Nat) : Nat := ([3, 6, 3, 6, 5, 5, 4, 5, 3, 5, 5, 3, 2, 4] : List Nat).getD w 0
def sp_wn (w k : Nat) : Int32 := hg_names.getD (7 * w + k) 0
abbrev sp_isW (f : Nat → Int32) (b e w : Nat) : Prop := e = b + sp_wl w ∧ ∀ k, k < sp_wl w → f (b + k) = sp_wn w k
def sp_fw (f : Nat → Int32) (b e : Nat) : Nat → Nat → Nat
  | 0, _ => 23
  | k + 1, w => if sp_isW f b e w then w else sp_fw f b e k (w + 1)
theorem sp_wn_uni : ∀ w, w < 14 → ∀ v, v < 14 → sp_wl w = sp_wl v → (∀ k, k < sp_wl w → sp_wn w k = sp_wn v k) → w = v := by decide +kernel
theorem sp_isW_uni {f : Nat → Int32} {b e w v : Nat} (hw : w < 14) (hv : v < 14) (h1 : sp_isW f b e w) (h2 : sp_isW f b e v) : w = v := by
  have el : sp_wl w = sp_wl v := by have := h1.1; have := h2.1; omega
  exact sp_wn_uni w hw v hv el (fun k hk => by rw [← h1.2 k hk, h2.2 k (by omega)])
theorem sp_fw_out {f : Nat → Int32} {b e : Nat} : ∀ k w, (sp_fw f b e k w = 23 ∧ ∀ v, w ≤ v → v < w + k → ¬ sp_isW f b e v) ∨ (w ≤ sp_fw f b e k w ∧ sp_fw f b e k w < w + k ∧ sp_isW f b e (sp_fw f b e k w)) := by
  intro k
  induction k with
  | zero => intro w; exact Or.inl ⟨rfl, fun v h1 h2 => by omega⟩
  | succ k ih =>
    intro w
    rw [sp_fw]
    by_cases c : sp_isW f b e w
    · rw [if_pos c]; exact Or.inr ⟨Nat.le_refl _, by omega, c⟩
    · rw [if_neg c]
      rcases ih (w + 1) with ⟨h1, h2⟩ | ⟨h1, h2, h3⟩
      · refine Or.inl ⟨h1, fun v q1 q2 => ?_⟩
        by_cases z : v = w
        · rw [z]; exact c
        · exact h2 v (by omega) (by omega)
      · exact Or.inr ⟨by omega, by omega, h3⟩
theorem sp_fw_iff {f : Nat → Int32} {b e w : Nat} (hw : w < 14) : sp_fw f b e 14 0 = w ↔ sp_isW f b e w := by
  rcases sp_fw_out (f := f) (b := b) (e := e) 14 0 with ⟨h1, h2⟩ | ⟨h1, h2, h3⟩
  · exact ⟨fun z => by omega, fun z => absurd z (h2 w (by omega) (by omega))⟩
  · exact ⟨fun z => by rw [z] at h3; exact h3, fun z => sp_isW_uni (by omega) hw h3 z⟩
theorem sp_fw_lt {f : Nat → Int32} {b e : Nat} : sp_fw f b e 14 0 < 14 ∨ sp_fw f b e 14 0 = 23 := by
  rcases sp_fw_out (f := f) (b := b) (e := e) 14 0 with ⟨h1, h2⟩ | ⟨h1, h2, h3⟩
  · exact Or.inr h1
  · exact Or.inl (by omega)
def sp_T (f : Nat → Int32) (L b : Nat) : Nat := if L ≤ b then 22 else if 97 ≤ f b ∧ f b ≤ 122 then sp_fw f b (sp_e f L b) 14 0 else if 48 ≤ f b ∧ f b ≤ 57 then 20 else if 59 ≤ f b ∧ f b ≤ 59 then 21 else 23
/-- the class's token and the reference's -/
theorem sp_TC (f : Nat → Int32) (L b : Nat) : (sp_c f L b = 0 ∧ sp_T f L b = 22 ∧ L ≤ b) ∨ (sp_c f L b = 1 ∧ sp_T f L b = sp_fw f b (sp_e f L b) 14 0 ∧ b < L) ∨ (sp_c f L b = 2 ∧ sp_T f L b = 20 ∧ b < L) ∨ (sp_c f L b = 3 ∧ sp_T f L b = 21 ∧ b < L ∧ sp_e f L b = b + 1) ∨ (sp_c f L b = 4 ∧ sp_T f L b = 23 ∧ b < L) := by
  unfold sp_c sp_T
  by_cases c0 : L ≤ b
  · rw [if_pos c0, if_pos c0]; exact Or.inl ⟨rfl, rfl, c0⟩
  · rw [if_neg c0, if_neg c0]
    by_cases c1 : 97 ≤ f b ∧ f b ≤ 122
    · rw [if_pos c1, if_pos c1]; exact Or.inr (Or.inl ⟨rfl, rfl, by omega⟩)
    · rw [if_neg c1, if_neg c1]
      by_cases c2 : 48 ≤ f b ∧ f b ≤ 57
      · rw [if_pos c2, if_pos c2]; exact Or.inr (Or.inr (Or.inl ⟨rfl, rfl, by omega⟩))
      · rw [if_neg c2, if_neg c2]
        by_cases c3 : 59 ≤ f b ∧ f b ≤ 59
        · rw [if_pos c3, if_pos c3]; exact Or.inr (Or.inr (Or.inr (Or.inl ⟨rfl, rfl, by omega, by unfold sp_e; rw [if_neg c0, if_neg c1, if_neg c2]⟩)))
        · rw [if_neg c3, if_neg c3]; exact Or.inr (Or.inr (Or.inr (Or.inr ⟨rfl, rfl, by omega⟩)))
theorem sp_T_num (f : Nat → Int32) (L b : Nat) : sp_T f L b = 20 ↔ sp_c f L b = 2 := by
  rcases sp_TC f L b with ⟨h1, h2, -⟩ | ⟨h1, h2, -⟩ | ⟨h1, h2, -⟩ | ⟨h1, h2, -⟩ | ⟨h1, h2, -⟩ <;> rw [h1, h2]
  · omega
  · have := sp_fw_lt (f := f) (b := b) (e := sp_e f L b); omega
  · omega
  · omega
  · omega
theorem sp_T_semi (f : Nat → Int32) (L b : Nat) : sp_T f L b = 21 ↔ sp_c f L b = 3 := by
  rcases sp_TC f L b with ⟨h1, h2, -⟩ | ⟨h1, h2, -⟩ | ⟨h1, h2, -⟩ | ⟨h1, h2, -⟩ | ⟨h1, h2, -⟩ <;> rw [h1, h2]
  · omega
  · have := sp_fw_lt (f := f) (b := b) (e := sp_e f L b); omega
  · omega
  · omega
  · omega
theorem sp_T_end (f : Nat → Int32) (L b : Nat) : sp_T f L b = 22 ↔ sp_c f L b = 0 := by
  rcases sp_TC f L b with ⟨h1, h2, -⟩ | ⟨h1, h2, -⟩ | ⟨h1, h2, -⟩ | ⟨h1, h2, -⟩ | ⟨h1, h2, -⟩ <;> rw [h1, h2]
  · omega
  · have := sp_fw_lt (f := f) (b := b) (e := sp_e f L b); omega
  · omega
  · omega
  · omega
theorem sp_T_word {f : Nat → Int32} {L b w : Nat} (hw : w < 14) : sp_T f L b = w ↔ sp_c f L b = 1 ∧ sp_isW f b (sp_e f L b) w := by
  rcases sp_TC f L b with ⟨h1, h2, -⟩ | ⟨h1, h2, -⟩ | ⟨h1, h2, -⟩ | ⟨h1, h2, -⟩ | ⟨h1, h2, -⟩ <;> rw [h1, h2]
  · exact ⟨fun z => by omega, fun z => by omega⟩
  · rw [sp_fw_iff hw]; exact ⟨fun z => ⟨rfl, z⟩, fun z => z.2⟩
  · exact ⟨fun z => by omega, fun z => by omega⟩
  · exact ⟨fun z => by omega, fun z => by omega⟩
  · exact ⟨fun z => by omega, fun z => by omega⟩
theorem sp_T_lt {f : Nat → Int32} {L b : Nat} (h : sp_T f L b < 14) : b < L := by
  rcases sp_TC f L b with ⟨h1, h2, h3⟩ | ⟨h1, h2, h3⟩ | ⟨h1, h2, h3⟩ | ⟨h1, h2, h3, h4⟩ | ⟨h1, h2, h3⟩
  · omega
  all_goals exact h3
theorem sp_T_24 (f : Nat → Int32) (L b : Nat) : sp_T f L b < 24 := by
  rcases sp_TC f L b with ⟨h1, h2, -⟩ | ⟨h1, h2, -⟩ | ⟨h1, h2, -⟩ | ⟨h1, h2, -⟩ | ⟨h1, h2, -⟩ <;> rw [h2]
  · decide
  · have := sp_fw_lt (f := f) (b := b) (e := sp_e f L b); omega
  · decide
  · decide
  · decide
/-- the class's texts are the reference's words -/
def sp_wi (i : Nat) : Nat := ([1, 2, 3, 4, 5, 0, 6, 7, 8, 9, 10, 11, 12, 13] : List Nat).getD i 0
theorem sp_wi_ok : ∀ i, i < 14 → sp_wi i < 14 ∧ hg_sl i = sp_wl (sp_wi i) ∧ ∀ k, k < hg_sl i → hg_sb i k = sp_wn (sp_wi i) k := by decide +kernel
/-- a name in the reference's table: letters, then a 0 -/
theorem sp_wn_ok : ∀ w, w < 14 → sp_wl w < 7 ∧ sp_wn w (sp_wl w) = 0 ∧ (∀ k, k < sp_wl w → ¬ sp_wn w k = 0) ∧ sp_wn w 6 = 0 := by decide +kernel
/-! ITEMS: whether it is right, the place, the congress, its hats -/
abbrev sp_num (f : Nat → Int32) (L b : Nat) (m : Int32) : Prop := sp_c f L b = 2 ∧ sp_v f L b ≤ m
def sp_prh (f : Nat → Int32) (L w : Nat) (m so : Int32) (b : Nat) : Bool × Nat × Int32 :=
  if sp_T f L b = w then (if sp_num f L (sp_nx f L b) m then (true, sp_nx f L (sp_nx f L b), sp_v f L (sp_nx f L b)) else (false, sp_nx f L b, 0)) else (true, b, so)
def sp_addC (C : sp_C) (n : Nat) (h : Nat → Int32) : sp_C := (va_up C.1 3 (nI (n + 1)), va_up C.2 n h)
def sp_hatI (f : Nat → Int32) (L k b : Nat) (C : sp_C) (n : Nat) : Bool × Nat × sp_C × Nat :=
  if 10 ≤ n then (false, b, C, n)
  else if (sp_prh f L 6 255 0 (sp_nx f L b)).1 = false then (false, (sp_prh f L 6 255 0 (sp_nx f L b)).2.1, C, n)
  else if (sp_prh f L 7 99 50 (sp_prh f L 6 255 0 (sp_nx f L b)).2.1).1 = false then (false, (sp_prh f L 7 99 50 (sp_prh f L 6 255 0 (sp_nx f L b)).2.1).2.1, C, n)
  else if sp_T f L (sp_prh f L 7 99 50 (sp_prh f L 6 255 0 (sp_nx f L b)).2.1).2.1 = 8 then
    (true, sp_nx f L (sp_prh f L 7 99 50 (sp_prh f L 6 255 0 (sp_nx f L b)).2.1).2.1, sp_addC C n (sp_newF (nI k) (sp_prh f L 6 255 0 (sp_nx f L b)).2.2 (sp_prh f L 7 99 50 (sp_prh f L 6 255 0 (sp_nx f L b)).2.1).2.2 0), n + 1)
  else (true, (sp_prh f L 7 99 50 (sp_prh f L 6 255 0 (sp_nx f L b)).2.1).2.1, sp_addC C n (sp_newF (nI k) (sp_prh f L 6 255 0 (sp_nx f L b)).2.2 (sp_prh f L 7 99 50 (sp_prh f L 6 255 0 (sp_nx f L b)).2.1).2.2 1), n + 1)
def sp_truthI (f : Nat → Int32) (L b : Nat) (C : sp_C) (n : Nat) : Bool × Nat × sp_C × Nat :=
  if sp_num f L b 255 then (true, sp_nx f L b, (va_up C.1 1 (sp_v f L b), C.2), n) else (false, b, C, n)
def sp_holdsI (f : Nat → Int32) (L b : Nat) (C : sp_C) (n : Nat) : Bool × Nat × sp_C × Nat :=
  if sp_num f L b 7 then
    (if sp_T f L (sp_nx f L b) = 11 then (true, sp_nx f L (sp_nx f L b), (va_up C.1 2 (sp_withBit (C.1 2) (sp_v f L b) 1), C.2), n)
     else if sp_T f L (sp_nx f L b) = 12 then (true, sp_nx f L (sp_nx f L b), (va_up C.1 2 (sp_withBit (C.1 2) (sp_v f L b) 0), C.2), n)
     else (false, sp_nx f L b, C, n))
  else (false, b, C, n)
def sp_liftI (f : Nat → Int32) (L b : Nat) (C : sp_C) (n : Nat) : Bool × Nat × sp_C × Nat :=
  if sp_num f L b (nI n - 1) then (true, sp_nx f L b, sp_hatF C (sp_v f L b).toNatClampNeg 5 0, n) else (false, b, C, n)
def sp_item (f : Nat → Int32) (L b : Nat) (C : sp_C) (n : Nat) : Bool × Nat × sp_C × Nat :=
  if sp_T f L b < 6 then sp_hatI f L (sp_T f L b) b C n
  else if sp_T f L b = 9 then sp_truthI f L (sp_nx f L b) C n
  else if sp_T f L b = 10 then sp_holdsI f L (sp_nx f L b) C n
  else if sp_T f L b = 13 then sp_liftI f L (sp_nx f L b) C n
  else (false, b, C, n)
def sp_lob (f : Nat → Int32) (L : Nat) : Nat → Nat → Nat → sp_C → Nat → Bool × Nat × Nat × sp_C × Nat
  | 0, i, b, C, n => (false, b, i, C, n)
  | k + 1, i, b, C, n =>
    if (sp_item f L b C n).1 = false then (false, (sp_item f L b C n).2.1, i, C, n)
    else if sp_T f L (sp_item f L b C n).2.1 = 22 then (true, (sp_item f L b C n).2.1, i, (sp_item f L b C n).2.2.1, (sp_item f L b C n).2.2.2)
    else if sp_T f L (sp_item f L b C n).2.1 = 21 then sp_lob f L k (i + 1) (sp_nx f L (sp_item f L b C n).2.1) (sp_item f L b C n).2.2.1 (sp_item f L b C n).2.2.2
    else (false, (sp_item f L b C n).2.1, i, C, n)
def sp_lobR (S : sp_S) : Bool × Nat × Nat × sp_C × Nat := sp_lob (S.2.1 2) (S.2.1 0 1).toNatClampNeg 200 1 (sp_b (S.2.1 2) (S.2.1 0 1).toNatClampNeg 0) (S.1 0).1 (S.1 0).2
def op_lobby (S : sp_S) : Int32 × sp_S :=
  if (sp_lobR S).1 = true then (nI (sp_lobR S).2.2.1, sp_sR (sp_sC S (sp_lobR S).2.2.2.1 (sp_lobR S).2.2.2.2) 0 (va_up (S.2.1 0) 1 0))
  else (-1 - nI (sp_lobR S).2.1, sp_sR S 0 (va_up (S.2.1 0) 1 0))
/-- places only grow -/
theorem sp_prh_ge (f : Nat → Int32) {L b : Nat} (w : Nat) (m so : Int32) (hb : b ≤ L) : b ≤ (sp_prh f L w m so b).2.1 ∧ (sp_prh f L w m so b).2.1 ≤ L := by
  have a1 := sp_nx_ge f L b
  have a2 := sp_nx_ge f L (sp_nx f L b)
  have a3 := sp_nx_le f hb
  have a4 := sp_nx_le f a3
  unfold sp_prh
  split
  · split
    · dsimp only; omega
    · dsimp only; omega
  · dsimp only; omega
theorem sp_item_ge (f : Nat → Int32) {L b : Nat} (C : sp_C) (n : Nat) (hb : b ≤ L) : b ≤ (sp_item f L b C n).2.1 ∧ (sp_item f L b C n).2.1 ≤ L ∧ ((sp_item f L b C n).1 = true → b < (sp_item f L b C n).2.1) := by
  have a1 := sp_nx_ge f L b
  have a2 := sp_nx_ge f L (sp_nx f L b)
  have a3 := sp_nx_le f hb
  have a4 := sp_nx_le f a3
  have a5 := sp_nx_ge f L (sp_nx f L (sp_nx f L b))
  have a6 := sp_nx_le f a4
  have o1 := sp_prh_ge f 6 255 0 a3
  have o2 := sp_prh_ge f 7 99 50 o1.2
  have o3 := sp_nx_ge f L (sp_prh f L 7 99 50 (sp_prh f L 6 255 0 (sp_nx f L b)).2.1).2.1
  have o4 := sp_nx_le f o2.2
  unfold sp_item
  by_cases c1 : sp_T f L b < 6
  · have g1 := sp_nx_gt f (sp_T_lt (show sp_T f L b < 14 by omega))
    rw [if_pos c1]
    unfold sp_hatI
    split
    · exact ⟨Nat.le_refl _, hb, fun z => Bool.noConfusion z⟩
    · split
      · dsimp only; exact ⟨by omega, by omega, fun z => absurd z (by decide)⟩
      · split
        · dsimp only; exact ⟨by omega, by omega, fun z => absurd z (by decide)⟩
        · split
          · dsimp only; exact ⟨by omega, by omega, fun _ => by omega⟩
          · dsimp only; exact ⟨by omega, by omega, fun _ => by omega⟩
  · rw [if_neg c1]
    by_cases c2 : sp_T f L b = 9
    · have g1 := sp_nx_gt f (sp_T_lt (show sp_T f L b < 14 by omega))
      rw [if_pos c2]
      unfold sp_truthI
      split
      · dsimp only; exact ⟨by omega, by omega, fun _ => by omega⟩
      · dsimp only; exact ⟨by omega, by omega, fun z => absurd z (by decide)⟩
    · rw [if_neg c2]
      by_cases c3 : sp_T f L b = 10
      · have g1 := sp_nx_gt f (sp_T_lt (show sp_T f L b < 14 by omega))
        rw [if_pos c3]
        unfold sp_holdsI
        split
        · split
          · dsimp only; exact ⟨by omega, by omega, fun _ => by omega⟩
          · split
            · dsimp only; exact ⟨by omega, by omega, fun _ => by omega⟩
            · dsimp only; exact ⟨by omega, by omega, fun z => absurd z (by decide)⟩
        · dsimp only; exact ⟨by omega, by omega, fun z => absurd z (by decide)⟩
      · rw [if_neg c3]
        by_cases c4 : sp_T f L b = 13
        · have g1 := sp_nx_gt f (sp_T_lt (show sp_T f L b < 14 by omega))
          rw [if_pos c4]
          unfold sp_liftI
          split
          · dsimp only; exact ⟨by omega, by omega, fun _ => by omega⟩
          · dsimp only; exact ⟨by omega, by omega, fun z => absurd z (by decide)⟩
        · rw [if_neg c4]
          exact ⟨Nat.le_refl _, hb, fun z => Bool.noConfusion z⟩
