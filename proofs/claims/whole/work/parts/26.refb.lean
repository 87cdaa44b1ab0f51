/-! THE REFERENCE: sessions, thinking, the state -/
def sp_hrs (f : Nat → Int32) : Nat → Nat → Int32 := fun h => sp_hr f h
def sp_sumK (f : Nat → Nat → Int32) (w : Nat) : Nat → Int32
  | 0 => 0
  | n + 1 => sp_sumK f w n + f n w
theorem sp_sumK_2 (f : Nat → Nat → Int32) : ∀ n, sp_sumK f 2 n = sp_sum f 2 n := by
  intro n
  induction n with
  | zero => rfl
  | succ n ih => rw [sp_sumK, sp_sum, ih]; simp [sp_trait]
theorem sp_sumK_3 (f : Nat → Nat → Int32) : ∀ n, sp_sumK f 3 n = sp_sum f 3 n := by
  intro n
  induction n with
  | zero => rfl
  | succ n ih => rw [sp_sumK, sp_sum, ih]; simp [sp_trait]
theorem sp_pop : ∀ r, r < 256 → r ≠ 0 → (nI r &&& (nI r - 1)).toNatClampNeg < r ∧ nI (nI r &&& (nI r - 1)).toNatClampNeg = nI r &&& (nI r - 1) ∧ sp_bc (nI r) = 1 + sp_bc (nI r &&& (nI r - 1)) := by decide +kernel
theorem sp_bc0 : sp_bc 0 = 0 := by decide +kernel
theorem sp_trueOnes_in (h t : Int32) : ∃ k, k < 256 ∧ sp_trueOnes h t = nI k := by
  obtain ⟨j, hj, e⟩ := pk_andE ((h ^^^ t) ^^^ (-1)) (m := 255) 8 (by decide)
  exact ⟨j, hj, e⟩
def sp_FrM (σ τ : hg_Mem) : Prop := τ.2 = σ.2 ∧ ∀ i, i ≠ 51 → i ≠ 55 → τ.1 i = σ.1 i
theorem sp_FrM.rf (σ : hg_Mem) : sp_FrM σ σ := ⟨rfl, fun _ _ _ => rfl⟩
theorem sp_FrM.tr {σ τ ρ : hg_Mem} (a : sp_FrM σ τ) (b : sp_FrM τ ρ) : sp_FrM σ ρ := ⟨b.1.trans a.1, fun i h1 h2 => (b.2 i h1 h2).trans (a.2 i h1 h2)⟩
/-- a hat's six places in the row -/
theorem sp_hr_in {f : Nat → Int32} {h k : Nat} (v : Int32) (hk : k < 6) : sp_hr (va_up f (4 + 6 * h + k) v) h = va_up (sp_hr f h) k v := by
  funext j
  unfold sp_hr
  by_cases q : j = k
  · rw [q, va_upE, va_upE]
  · rw [va_upN _ _ (by omega), va_upN _ _ q]
theorem sp_hr_out {f : Nat → Int32} {h g k : Nat} (v : Int32) (hk : k < 6) (hg : g ≠ h) : sp_Ag (sp_hr (va_up f (4 + 6 * h + k) v) g) (sp_hr f g) := by
  intro j hj
  unfold sp_hr
  rw [va_upN _ _ (by omega)]
/-- judged -/
def sp_jud (h : Nat → Int32) (said ses q tb truth : Int32) : Nat → Int32 := if said = tb then sp_right h else sp_wrong h ses q truth
theorem sp_jud_right {f : Nat → Int32} {h : Nat} (v : vs_H (sp_hr f h)) : sp_hr (va_up (va_up f (4 + 6 * h + 2) (sp_clamp (f (4 + 6 * h + 2) + 1) 0 9999)) (4 + 6 * h + 4) (sp_clamp (f (4 + 6 * h + 4) + sp_stirs (sp_hr (va_up f (4 + 6 * h + 2) (sp_clamp (f (4 + 6 * h + 2) + 1) 0 9999)) h)) 0 99)) h = sp_right (sp_hr f h) := by
  obtain ⟨-, -, ⟨k2, b2, e2⟩, -, ⟨k4, b4, e4⟩, -⟩ := v
  obtain ⟨j, hj, ej⟩ := sp_stirs_in (h := sp_hr f h)
  rw [sp_hr_in _ (by decide), sp_hr_in _ (by decide), sp_stirs_up _ _ (by decide)]
  unfold sp_right
  have e2' : f (4 + 6 * h + 2) = nI k2 := e2
  have e4' : f (4 + 6 * h + 4) = nI k4 := e4
  have r2 : sp_hr f h 2 = f (4 + 6 * h + 2) := rfl
  have r4 : sp_hr f h 4 = f (4 + 6 * h + 4) := rfl
  rw [r2, r4, e2', e4', ej, sp_clampR b2, sp_clampF b4 hj]
theorem sp_jud_wrong {f : Nat → Int32} {h x y : Nat} (v : vs_H (sp_hr f h)) (hx : x < 256) (hy : y < 8) (ses w : Int32) (hw : w = if sp_learns (sp_hr f h) ses = 0 then f (4 + 6 * h + 1) else sp_withBit (f (4 + 6 * h + 1)) (nI y) (sp_bit (nI x) (nI y))) :
    sp_hr (va_up (va_up (va_up f (4 + 6 * h + 1) w) (4 + 6 * h + 3) (sp_clamp (f (4 + 6 * h + 3) + 1) 0 9999)) (4 + 6 * h + 4) (sp_clamp (f (4 + 6 * h + 4) - sp_stirs (sp_hr f h)) 0 99)) h = sp_wrong (sp_hr f h) ses (nI y) (nI x) := by
  obtain ⟨-, ⟨k1, b1, e1⟩, -, ⟨k3, b3, e3⟩, ⟨k4, b4, e4⟩, -⟩ := v
  obtain ⟨j, hj, ej⟩ := sp_stirs_in (h := sp_hr f h)
  rw [sp_hr_in _ (by decide), sp_hr_in _ (by decide), sp_hr_in _ (by decide)]
  unfold sp_wrong
  have e1' : f (4 + 6 * h + 1) = nI k1 := e1
  have e3' : f (4 + 6 * h + 3) = nI k3 := e3
  have e4' : f (4 + 6 * h + 4) = nI k4 := e4
  have r1 : sp_hr f h 1 = f (4 + 6 * h + 1) := rfl
  have r3 : sp_hr f h 3 = f (4 + 6 * h + 3) := rfl
  have r4 : sp_hr f h 4 = f (4 + 6 * h + 4) := rfl
  rw [r1, r3, r4, e1', e3', e4', ej, sp_clampR b3, sp_clampL k4 b4 j hj]
  rw [e1'] at hw
  congr 2
  by_cases c : sp_learns (sp_hr f h) ses = 0
  · rw [if_pos c] at hw ⊢
    rw [hw]
    funext z
    by_cases q : z = 1
    · rw [q, va_upE]; exact e1.symm
    · rw [va_upN _ _ q]
  · rw [if_neg c] at hw ⊢
    rw [hw, sp_learn_eq (by omega) hx hy]
/-- the congress with one more -/
def sp_come (f : Nat → Int32) (n : Nat) (kind view faith on : Int32) : Nat → Int32 :=
  va_up (va_up (va_up (va_up (va_up (va_up (va_up f 3 (nI (n + 1))) (4 + 6 * n + 0) kind) (4 + 6 * n + 1) view) (4 + 6 * n + 2) 0) (4 + 6 * n + 3) 0) (4 + 6 * n + 4) faith) (4 + 6 * n + 5) on
def sp_newF (kind view faith on : Int32) : Nat → Int32 := va_up (va_up (va_up (va_up (va_up (va_up sp_zero 0 kind) 1 view) 2 0) 3 0) 4 faith) 5 on
theorem sp_RepM.come {σ : hg_Mem} {n : Nat} {C : sp_C} (h : sp_RepM σ 51 C n) (hn : n < 10) (kind view faith on : Int32) : sp_RepM (hg_sH σ 51 (sp_come (σ.1 51) n kind view faith on)) 51 (va_up C.1 3 (nI (n + 1)), va_up C.2 n (sp_newF kind view faith on)) (n + 1) := by
  refine ⟨by omega, ?_, fun k hk => ?_, fun y hy k hk => ?_⟩
  · show va_up C.1 3 (nI (n + 1)) 3 = _
    rw [va_upE]
  · rw [hg_sH_at]
    unfold sp_come
    rw [va_upN _ _ (by omega), va_upN _ _ (by omega), va_upN _ _ (by omega), va_upN _ _ (by omega), va_upN _ _ (by omega), va_upN _ _ (by omega)]
    show _ = va_up C.1 3 (nI (n + 1)) k
    by_cases q : k = 3
    · rw [q, va_upE, va_upE]
    · rw [va_upN _ _ q, va_upN _ _ q]; exact h.2.2.1 k hk
  · rw [hg_sH_at]
    show _ = va_up C.2 n (sp_newF kind view faith on) y k
    by_cases q : y = n
    · rw [q, va_upE]
      rcases (show k = 0 ∨ k = 1 ∨ k = 2 ∨ k = 3 ∨ k = 4 ∨ k = 5 by omega) with rfl | rfl | rfl | rfl | rfl | rfl <;> simp [sp_come, sp_newF, va_up]
    · rw [va_upN _ _ q]
      unfold sp_come
      rw [va_upN _ _ (by omega), va_upN _ _ (by omega), va_upN _ _ (by omega), va_upN _ _ (by omega), va_upN _ _ (by omega), va_upN _ _ (by omega), va_upN _ _ (by omega)]
      exact h.2.2.2 y (by omega) k hk
/-- the reference's cells hold the state -/
def cw_M (σ : hg_Mem) (S : sp_S) : Prop :=
  sp_RepM σ 51 (S.1 0).1 (S.1 0).2 ∧ (S.2.1 0 0 = 1 → sp_RepM σ 52 (S.1 1).1 (S.1 1).2) ∧ σ.1 50 3 = S.2.1 0 0 ∧ σ.1 50 7 = S.2.1 0 1 ∧ (∀ k, k < 7 → σ.1 54 k = S.2.1 1 k) ∧ (∀ k, k < 120 → σ.1 56 k = S.2.1 2 k) ∧
  ∀ s, s < 4 → σ.1 57 s = S.2.1 3 s ∧ σ.1 58 s = S.2.1 4 s ∧ ∀ k, k < 40 → σ.2 59 (40 * s + k) = S.2.2 s k
def mw_Fr (σ τ : hg_Mem) : Prop := ∀ i, i < 50 → τ.1 i = σ.1 i ∧ τ.2 i = σ.2 i
theorem mw_Fr.rf (σ : hg_Mem) : mw_Fr σ σ := fun _ _ => ⟨rfl, rfl⟩
theorem mw_Fr.tr {σ τ ρ : hg_Mem} (a : mw_Fr σ τ) (b : mw_Fr τ ρ) : mw_Fr σ ρ := fun i h => ⟨(b i h).1.trans (a i h).1, (b i h).2.trans (a i h).2⟩
def mw_P (σ : hg_Mem) (w : Int32 × sp_S) (r : Int32) (τ : hg_Mem) : Prop := r = w.1 ∧ cw_M τ w.2 ∧ mw_Fr σ τ
theorem sp_RepM.keep {σ τ : hg_Mem} {a n : Nat} {C : sp_C} (h : sp_RepM σ a C n) (h1 : ∀ k, k < 64 → τ.1 a k = σ.1 a k) : sp_RepM τ a C n :=
  ⟨h.1, h.2.1, fun k hk => (h1 k (by omega)).trans (h.2.2.1 k hk), fun x hx k hk => (h1 _ (by have := h.1; omega)).trans (h.2.2.2 x hx k hk)⟩
theorem cw_M.find {σ : hg_Mem} {S : sp_S} (h : cw_M σ S) {f : Nat} (hf : f < 7) {w : Int32} (hw : w = -1000000001 - nI f) : mw_P σ (sp_bad S f) w (hg_sI σ 54 f (σ.1 54 f + 1)) := by
  obtain ⟨a, b, c, d, e, g, i⟩ := h
  have ne : ∀ j, j ≠ 54 → (hg_sI σ 54 f (σ.1 54 f + 1)).1 j = σ.1 j := fun j hj => by rw [hg_sI_eq, hg_sH_ne _ _ hj]
  refine ⟨hw, ⟨a.keep (fun k _ => by rw [ne _ (by omega)]), fun hk => (b hk).keep (fun k _ => by rw [ne _ (by omega)]), ?_, ?_, fun k hk => ?_, fun k hk => ?_, fun s hs => ?_⟩, fun j hj => ⟨ne j (by omega), rfl⟩⟩
  · rw [ne _ (by omega)]; exact c
  · rw [ne _ (by omega)]; exact d
  · rw [hg_sI_eq, hg_sH_at]
    show va_up (σ.1 54) f (σ.1 54 f + 1) k = va_up (S.2.1 1) f (S.2.1 1 f + 1) k
    by_cases q : k = f
    · rw [q, va_upE, va_upE, e f hf]
    · rw [va_upN _ _ q, va_upN _ _ q]; exact e k hk
  · rw [ne _ (by omega)]; exact g k hk
  · rw [ne _ (by omega), ne _ (by omega)]; exact i s hs
theorem cw_M.get {σ : hg_Mem} {S : sp_S} (h : cw_M σ S) : (S.1 0).2 ≤ 10 ∧ σ.1 51 3 = nI (S.1 0).2 ∧ σ.1 51 0 = (S.1 0).1.1 0 ∧ σ.1 51 1 = (S.1 0).1.1 1 ∧ σ.1 51 2 = (S.1 0).1.1 2 ∧ ∀ x, x < (S.1 0).2 → sp_Ag (sp_hr (σ.1 51) x) ((S.1 0).1.2 x) :=
  ⟨h.1.1, (h.1.2.2.1 3 (by decide)).trans h.1.2.1, h.1.2.2.1 0 (by decide), h.1.2.2.1 1 (by decide), h.1.2.2.1 2 (by decide), fun x hx k hk => h.1.2.2.2 x hx k hk⟩
/-- only rows that aren't told have changed: 53 and 55, and 51 as it is then -/
theorem cw_M.setC {σ τ : hg_Mem} {S : sp_S} (h : cw_M σ S) (C : sp_C) (n : Nat) (h2 : τ.2 = σ.2) (h1 : ∀ i, i ≠ 51 → i ≠ 53 → i ≠ 55 → τ.1 i = σ.1 i) (hR : sp_RepM τ 51 C n) : cw_M τ (sp_sC S C n) ∧ mw_Fr σ τ := by
  obtain ⟨a, b, c, d, e, g, i⟩ := h
  refine ⟨⟨hR, fun hk => (b hk).keep (fun k _ => by rw [h1 52 (by omega) (by omega) (by omega)]), ?_, ?_, fun k hk => ?_, fun k hk => ?_, fun s hs => ?_⟩, fun j hj => ⟨h1 j (by omega) (by omega) (by omega), by rw [h2]⟩⟩
  · rw [h1 50 (by omega) (by omega) (by omega)]; exact c
  · rw [h1 50 (by omega) (by omega) (by omega)]; exact d
  · rw [h1 54 (by omega) (by omega) (by omega)]; exact e k hk
  · rw [h1 56 (by omega) (by omega) (by omega)]; exact g k hk
  · rw [h1 57 (by omega) (by omega) (by omega), h1 58 (by omega) (by omega) (by omega), h2]; exact i s hs
/-- thinking: what was is kept in row 53 -/
def sp_Th (σ τ : hg_Mem) : Prop := τ.2 = σ.2 ∧ (∀ i, i ≠ 51 → i ≠ 53 → i ≠ 55 → τ.1 i = σ.1 i) ∧ ∀ k, k < 64 → τ.1 53 k = σ.1 51 k
theorem sp_Th.fr {σ τ ρ : hg_Mem} (h : sp_Th σ τ) (hF : sp_FrM τ ρ) : sp_Th σ ρ :=
  ⟨hF.1.trans h.1, fun i h1 h2 h3 => (hF.2 i h1 h3).trans (h.2.1 i h1 h2 h3), fun k hk => by rw [hF.2 53 (by decide) (by decide)]; exact h.2.2 k hk⟩
theorem sp_Th.put {σ τ : hg_Mem} (h : sp_Th σ τ) (k : Nat) (v : Int32) : sp_Th σ (hg_sI τ 51 k v) :=
  ⟨h.1, fun i h1 h2 h3 => by rw [hg_sI_eq, hg_sH_ne _ _ h1]; exact h.2.1 i h1 h2 h3, fun j hj => by rw [hg_sI_eq, hg_sH_ne _ _ (by decide)]; exact h.2.2 j hj⟩
theorem cw_M.th {σ τ : hg_Mem} {S : sp_S} (h : cw_M σ S) (ht : sp_Th σ τ) (hb : ∀ k, k < 64 → τ.1 51 k = σ.1 51 k) : cw_M τ S ∧ mw_Fr σ τ := by
  obtain ⟨q1, q2⟩ := h.setC (S.1 0).1 (S.1 0).2 ht.1 ht.2.1 (h.1.keep hb)
  rw [sp_sC_self] at q1
  exact ⟨q1, q2⟩
theorem sp_RepM.putF {σ : hg_Mem} {n x k : Nat} {C : sp_C} (h : sp_RepM σ 51 C n) (hx : x < n) (hk : k < 6) (v : Int32) : sp_RepM (hg_sI σ 51 (4 + 6 * x + k) v) 51 (sp_hatF C x k v) n := by
  refine ⟨h.1, h.2.1, fun j hj => ?_, fun y hy j hj => ?_⟩
  · rw [hg_sI_eq, hg_sH_at, va_upN _ _ (by omega)]; exact h.2.2.1 j hj
  · rw [hg_sI_eq, hg_sH_at]
    show _ = va_up C.2 x (va_up (C.2 x) k v) y j
    by_cases q : y = x
    · rw [q, va_upE]
      by_cases z : j = k
      · rw [z, va_upE, va_upE]
      · rw [va_upN _ _ (by omega), va_upN _ _ z]; exact h.2.2.2 x hx j hj
    · rw [va_upN _ _ q, va_upN _ _ (by omega)]; exact h.2.2.2 y hy j hj
theorem sp_RepM.setG {σ : hg_Mem} {n k : Nat} {C : sp_C} (h : sp_RepM σ 51 C n) (hk : k < 3) (v : Int32) : sp_RepM (hg_sI σ 51 k v) 51 (va_up C.1 k v, C.2) n := by
  refine ⟨h.1, ?_, fun j hj => ?_, fun y hy j hj => ?_⟩
  · show va_up C.1 k v 3 = nI n
    rw [va_upN _ _ (by omega)]; exact h.2.1
  · rw [hg_sI_eq, hg_sH_at]
    show _ = va_up C.1 k v j
    by_cases q : j = k
    · rw [q, va_upE, va_upE]
    · rw [va_upN _ _ q, va_upN _ _ q]; exact h.2.2.1 j hj
  · rw [hg_sI_eq, hg_sH_at, va_upN _ _ (by omega)]; exact h.2.2.2 y hy j hj
