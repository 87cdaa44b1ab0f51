/-! THE REFERENCE: its row of numbers, and the words of the document in it -/
def sp_hr (f : Nat → Int32) (h : Nat) : Nat → Int32 := fun k => f (4 + 6 * h + k)
def sp_RepM (σ : hg_Mem) (a : Nat) (C : sp_C) (n : Nat) : Prop := n ≤ 10 ∧ C.1 3 = nI n ∧ (∀ k, k < 4 → σ.1 a k = C.1 k) ∧ ∀ h, h < n → ∀ k, k < 6 → σ.1 a (4 + 6 * h + k) = C.2 h k
theorem sp_RepM.ag {σ : hg_Mem} {a n : Nat} {C : sp_C} (h : sp_RepM σ a C n) {x : Nat} (hx : x < n) : sp_Ag (sp_hr (σ.1 a) x) (C.2 x) := fun k hk => h.2.2.2 x hx k hk
def sp_inL (v : Int64) (a b : Int32) : Int32 := if a.toInt64 ≤ v ∧ v ≤ b.toInt64 then 1 else 0
theorem i32_64_lt {x y : Int32} : x.toInt64 < y.toInt64 ↔ x < y := by
  rw [Int64.lt_iff_toInt_lt, Int32.lt_iff_toInt_lt, Int32.toInt_toInt64, Int32.toInt_toInt64]
theorem i32_64_le {x y : Int32} : x.toInt64 ≤ y.toInt64 ↔ x ≤ y := by
  rw [Int64.le_iff_toInt_le, Int32.le_iff_toInt_le, Int32.toInt_toInt64, Int32.toInt_toInt64]
theorem sp_inL_out (x a b : Int32) : sp_inL x.toInt64 a b = if sp_out x a b = 0 then 1 else 0 := by
  unfold sp_inL sp_out
  by_cases c : x < a ∨ b < x
  · have h0 : ¬ (a.toInt64 ≤ x.toInt64 ∧ x.toInt64 ≤ b.toInt64) := by
      rintro ⟨h1, h2⟩
      rcases c with c | c
      · exact Int32.not_lt.mpr (i32_64_le.mp h1) c
      · exact Int32.not_lt.mpr (i32_64_le.mp h2) c
    rw [if_neg h0, if_pos c, if_neg (show ¬ (1 : Int32) = 0 by decide)]
  · have h0 : a.toInt64 ≤ x.toInt64 ∧ x.toInt64 ≤ b.toInt64 := ⟨i32_64_le.mpr (Int32.not_lt.mp (fun z => c (Or.inl z))), i32_64_le.mpr (Int32.not_lt.mp (fun z => c (Or.inr z)))⟩
    rw [if_pos h0, if_neg c, if_pos rfl]
def sp_clamp (v a b : Int32) : Int32 := if v < a then a else if b < v then b else v
def sp_withBit (x q v : Int32) : Int32 := if v = 1 then x ||| ((1 : Int32) <<< (q &&& 31)) else x &&& (((1 : Int32) <<< (q &&& 31)) ^^^ (-1))
def sp_wt (f : Nat → Nat → Int32) (q held ses word : Int32) : Nat → Int32
  | 0 => 0
  | n + 1 => sp_wt f q held ses word n + (if f n 5 = 1 ∧ sp_says (f n) q held = word then sp_weighs (f n) ses else 0)
theorem sp_bit01 (v q : Int32) : sp_bit v q = 0 ∨ sp_bit v q = 1 := by
  unfold sp_bit
  obtain ⟨j, hj, e⟩ := pk_andE (v >>> (q &&& 31)) (m := 1) 1 (by decide)
  rw [e]
  rcases (show j = 0 ∨ j = 1 by omega) with rfl | rfl
  · exact Or.inl rfl
  · exact Or.inr rfl
theorem sp_says01 (h : Nat → Int32) (q held : Int32) : sp_says h q held = -1 ∨ sp_says h q held = 0 ∨ sp_says h q held = 1 := by
  have b : ∀ v, (1 - sp_bit v q = 0 ∨ 1 - sp_bit v q = 1) := fun v => by
    rcases sp_bit01 v q with e | e <;> rw [e]
    · exact Or.inr (by decide)
    · exact Or.inl (by decide)
  have bo : sp_bowler h q = 0 ∨ sp_bowler h q = 1 := by
    unfold sp_bowler; split
    · exact b _
    · exact sp_bit01 _ _
  have ca : sp_cap h q held = 0 ∨ sp_cap h q held = 1 := by
    unfold sp_cap; split
    · exact sp_bit01 _ _
    · exact sp_bit01 _ _
  unfold sp_says
  repeat' split
  all_goals first | exact Or.inl rfl | exact Or.inr (Or.inr rfl) | exact Or.inr bo | exact Or.inr ca | exact Or.inr (sp_bit01 _ _)
theorem sp_wt1 {f : Nat → Nat → Int32} (q held ses : Int32) : ∀ n, (∀ h, h < n → f h 5 = 0 ∨ f h 5 = 1) → sp_wt f q held ses 1 n = sp_yes f q held ses n := by
  intro n
  induction n with
  | zero => intro _; rfl
  | succ n ih =>
    intro h
    rw [sp_wt, sp_yes, ih (fun k hk => h k (by omega))]
    unfold sp_said
    rcases h n (by omega) with e | e
    · rw [e, if_neg (show ¬ ((0 : Int32) = 1 ∧ sp_says (f n) q held = 1) from fun z => absurd z.1 (by decide)), if_pos rfl, if_neg (show ¬ (-1 : Int32) = 1 by decide)]; exact Int32.add_zero _
    · rw [e, if_neg (show ¬ (1 : Int32) = 0 by decide)]
      by_cases c : sp_says (f n) q held = 1
      · rw [if_pos ⟨rfl, c⟩, if_pos c]
      · rw [if_neg (fun z => c z.2), if_neg c]; exact Int32.add_zero _
theorem sp_wt0 {f : Nat → Nat → Int32} (q held ses : Int32) : ∀ n, (∀ h, h < n → f h 5 = 0 ∨ f h 5 = 1) → sp_wt f q held ses 0 n = sp_no f q held ses n := by
  intro n
  induction n with
  | zero => intro _; rfl
  | succ n ih =>
    intro h
    rw [sp_wt, sp_no, ih (fun k hk => h k (by omega))]
    unfold sp_said
    rcases h n (by omega) with e | e
    · rw [e, if_neg (show ¬ ((0 : Int32) = 1 ∧ sp_says (f n) q held = 0) from fun z => absurd z.1 (by decide)), if_pos rfl, if_neg (show ¬ (-1 : Int32) = 0 by decide)]; exact Int32.add_zero _
    · rw [e, if_neg (show ¬ (1 : Int32) = 0 by decide)]
      by_cases c : sp_says (f n) q held = 0
      · rw [if_pos ⟨rfl, c⟩, if_pos c]
      · rw [if_neg (fun z => c z.2), if_neg c]; exact Int32.add_zero _
theorem sp_wt_ag {f g : Nat → Nat → Int32} (q held ses word : Int32) : ∀ n, (∀ h, h < n → sp_Ag (f h) (g h)) → sp_wt f q held ses word n = sp_wt g q held ses word n := by
  intro n
  induction n with
  | zero => intro _; rfl
  | succ n ih =>
    intro h
    have a := h n (by omega)
    simp only [sp_wt, a.says, a.weighs, a.all.2.2.2.2.2, ih (fun k hk => h k (by omega))]
/-- bits, eight of them -/
theorem sp_bits8 : ∀ x, x < 256 → ∀ q, q < 8 → ((nI x &&& (((1 : Int32) <<< (nI q &&& 31)) ^^^ (-1))) ||| (sp_bit (nI x) (nI q) <<< (nI q &&& 31)) = nI x ∧ (nI x &&& (((1 : Int32) <<< (nI q &&& 31)) ^^^ (-1))) ||| ((1 : Int32) <<< (nI q &&& 31)) = nI x ||| ((1 : Int32) <<< (nI q &&& 31)) ∧ (nI x &&& (((1 : Int32) <<< (nI q &&& 31)) ^^^ (-1))) ||| ((0 : Int32) <<< (nI q &&& 31)) = nI x &&& (((1 : Int32) <<< (nI q &&& 31)) ^^^ (-1)) ∧ (sp_bit (nI x) (nI q) = 1 → nI x &&& ((1 : Int32) <<< (nI q &&& 31)) = (1 : Int32) <<< (nI q &&& 31)) ∧ (sp_bit (nI x) (nI q) = 0 → nI x &&& ((1 : Int32) <<< (nI q &&& 31)) = (0 : Int32) <<< (nI q &&& 31)) ∧ (nI x ||| ((1 : Int32) <<< (nI q &&& 31))).toNatClampNeg < 256 ∧ nI (nI x ||| ((1 : Int32) <<< (nI q &&& 31))).toNatClampNeg = nI x ||| ((1 : Int32) <<< (nI q &&& 31)) ∧ (nI x &&& (((1 : Int32) <<< (nI q &&& 31)) ^^^ (-1))).toNatClampNeg < 256 ∧ nI (nI x &&& (((1 : Int32) <<< (nI q &&& 31)) ^^^ (-1))).toNatClampNeg = nI x &&& (((1 : Int32) <<< (nI q &&& 31)) ^^^ (-1))) := by
  decide +kernel
theorem sp_q8 {k : Nat} (hk : k < 1000000) : sp_q (nI k) = nI (k % 8) := pk_rem (d := 8) (by omega) (by decide) (by decide)
theorem sp_heldN_eq {x q : Nat} (hx : x < 256) (hq : q < 8) (y n : Int32) : sp_heldN (nI x) (nI q) y n = if y = n then nI x else sp_withBit (nI x) (nI q) (if n < y then 1 else 0) := by
  obtain ⟨a1, a2, a3, -⟩ := sp_bits8 x hx q hq
  unfold sp_heldN sp_verdict sp_withBit
  by_cases c : y = n
  · rw [if_pos c, if_pos c]; exact a1
  · rw [if_neg c, if_neg c]
    by_cases d : n < y
    · rw [if_pos d, if_pos rfl]; exact a2
    · rw [if_neg d, if_neg (by decide)]; exact a3
theorem sp_withBit_in {x q : Nat} (hx : x < 256) (hq : q < 8) (v : Int32) : ∃ k, k ≤ 255 ∧ sp_withBit (nI x) (nI q) v = nI k := by
  obtain ⟨-, -, -, -, -, b1, b2, b3, b4⟩ := sp_bits8 x hx q hq
  unfold sp_withBit
  by_cases c : v = 1
  · rw [if_pos c]; exact ⟨_, by omega, b2.symm⟩
  · rw [if_neg c]; exact ⟨_, by omega, b4.symm⟩
theorem sp_learn_eq {x y q : Nat} (hx : x < 256) (hy : y < 256) (hq : q < 8) : (nI x &&& (((1 : Int32) <<< (nI q &&& 31)) ^^^ (-1))) ||| (nI y &&& ((1 : Int32) <<< (nI q &&& 31))) = sp_withBit (nI x) (nI q) (sp_bit (nI y) (nI q)) := by
  obtain ⟨-, a2, a3, -⟩ := sp_bits8 x hx q hq
  obtain ⟨-, -, -, b1, b0, -⟩ := sp_bits8 y hy q hq
  unfold sp_withBit
  rcases sp_bit01 (nI y) (nI q) with e | e
  · rw [e, if_neg (by decide), b0 e]; exact a3
  · rw [e, if_pos rfl, b1 e]; exact a2
theorem sp_clampR {k : Nat} (hk : k ≤ 9999) : sp_clamp (nI k + 1) 0 9999 = sp_min (nI k + 1) 9999 := by
  unfold sp_clamp sp_min
  rw [nI_1, if_neg (nI_pos (by omega))]
theorem sp_clampF {k j : Nat} (hk : k ≤ 99) (hj : j ≤ 10) : sp_clamp (nI k + nI j) 0 99 = sp_min (nI k + nI j) 99 := by
  unfold sp_clamp sp_min
  rw [nI_add, if_neg (nI_pos (by omega))]
theorem sp_clampL : ∀ k, k ≤ 99 → ∀ j, j ≤ 10 → sp_clamp (nI k - nI j) 0 99 = sp_max (nI k - nI j) 0 := by decide +kernel
theorem sp_stirs_in {h : Nat → Int32} : ∃ k, k ≤ 10 ∧ sp_stirs h = nI k := by
  unfold sp_stirs
  repeat' split
  · exact ⟨10, by decide, rfl⟩
  · exact ⟨1, by decide, rfl⟩
  · exact ⟨3, by decide, rfl⟩
  · exact ⟨5, by decide, rfl⟩
/-- what holds of a state holds behind a session -/
theorem vs_right {h : Nat → Int32} (v : vs_H h) : vs_H (sp_right h) := by
  obtain ⟨a0, a1, ⟨k2, b2, e2⟩, a3, ⟨k4, b4, e4⟩, a5⟩ := v
  obtain ⟨j, hj, ej⟩ := sp_stirs_in (h := h)
  refine ⟨a0, a1, ?_, a3, ?_, a5⟩
  · show ∃ k, k ≤ 9999 ∧ sp_min (h 2 + 1) 9999 = nI k
    rw [e2, nI_1, sp_min]
    by_cases c : (9999 : Int32) < nI (k2 + 1)
    · rw [if_pos c]; exact ⟨9999, by omega, rfl⟩
    · rw [if_neg c]; exact ⟨k2 + 1, hg_ngt (a := 9999) (by omega) (by omega) c, rfl⟩
  · show ∃ k, k ≤ 99 ∧ sp_min (h 4 + sp_stirs h) 99 = nI k
    rw [e4, ej, nI_add, sp_min]
    by_cases c : (99 : Int32) < nI (k4 + j)
    · rw [if_pos c]; exact ⟨99, by omega, rfl⟩
    · rw [if_neg c]; exact ⟨k4 + j, hg_ngt (a := 99) (by omega) (by omega) c, rfl⟩
theorem sp_maxF : ∀ k, k ≤ 99 → ∀ j, j ≤ 10 → (sp_max (nI k - nI j) 0).toNatClampNeg ≤ 99 ∧ nI (sp_max (nI k - nI j) 0).toNatClampNeg = sp_max (nI k - nI j) 0 := by decide +kernel
theorem vs_wrong {h : Nat → Int32} (v : vs_H h) {y q : Nat} (hy : y < 256) (hq : q < 8) (ses : Int32) : vs_H (sp_wrong h ses (nI q) (nI y)) := by
  obtain ⟨a0, ⟨k1, b1, e1⟩, a2, ⟨k3, b3, e3⟩, ⟨k4, b4, e4⟩, a5⟩ := v
  obtain ⟨j, hj, ej⟩ := sp_stirs_in (h := h)
  unfold sp_wrong
  have w3 : ∃ k, k ≤ 9999 ∧ sp_min (h 3 + 1) 9999 = nI k := by
    rw [e3, nI_1, sp_min]
    by_cases c : (9999 : Int32) < nI (k3 + 1)
    · rw [if_pos c]; exact ⟨9999, by omega, rfl⟩
    · rw [if_neg c]; exact ⟨k3 + 1, hg_ngt (a := 9999) (by omega) (by omega) c, rfl⟩
  have w4 : ∃ k, k ≤ 99 ∧ sp_max (h 4 - sp_stirs h) 0 = nI k := by
    rw [e4, ej]
    obtain ⟨q1, q2⟩ := sp_maxF k4 b4 j hj
    exact ⟨_, q1, q2.symm⟩
  by_cases c : sp_learns h ses = 0
  · rw [if_pos c]
    exact ⟨a0, ⟨k1, b1, e1⟩, a2, w3, w4, a5⟩
  · rw [if_neg c]
    refine ⟨a0, ?_, a2, w3, w4, a5⟩
    show ∃ k, k ≤ 255 ∧ (h 1 &&& _) ||| _ = nI k
    rw [e1, sp_learn_eq (by omega) hy hq]
    exact sp_withBit_in (by omega) hq _
theorem vs_hatN {h : Nat → Int32} (v : vs_H h) {y q : Nat} (hy : y < 256) (hq : q < 8) (held ses : Int32) : vs_H (sp_hatN h (nI q) held (nI y) ses) := by
  unfold sp_hatN
  split
  · exact v
  · split
    · exact vs_right v
    · exact vs_wrong v hy hq ses
theorem vs_go1 {B : Nat} {C : sp_C} {n : Nat} (hB : B < 200000) (v : vs_C B C n) : vs_C (B + 1) (sp_go1 C n) n := by
  obtain ⟨hn, h3, ⟨k0, b0, e0⟩, ⟨k1, b1, e1⟩, ⟨k2, b2, e2⟩, hh⟩ := v
  have eq : sp_q (C.1 0) = nI (k0 % 8) := by rw [e0]; exact sp_q8 (by omega)
  refine ⟨hn, ?_, ⟨k0 + 1, by omega, ?_⟩, ⟨k1, b1, ?_⟩, ?_, fun h hlt => ?_⟩
  · simp [sp_go1, va_up, h3]
  · simp only [sp_go1, va_upE]; rw [e0, nI_1]
  · simp [sp_go1, va_up, e1]
  · simp only [sp_go1]
    rw [va_upN _ _ (show (2 : Nat) ≠ 0 by decide), va_upE, e2, eq, sp_heldN_eq (by omega) (by omega)]
    split
    · exact ⟨k2, b2, rfl⟩
    · exact sp_withBit_in (by omega) (by omega) _
  · show vs_H (sp_hatN (C.2 h) (sp_q (C.1 0)) (C.1 2) (C.1 1) (C.1 0))
    rw [eq, e1]
    exact vs_hatN (hh h hlt) (by omega) (by omega) _ _
theorem vs_go {B : Nat} {C : sp_C} {n : Nat} (v : vs_C B C n) : ∀ k, B + k < 200000 → vs_C (B + k) (sp_go C n k) n := by
  intro k
  induction k with
  | zero => intro _; exact v
  | succ k ih => intro h; exact vs_go1 (B := B + k) (by omega) (ih (by omega))
