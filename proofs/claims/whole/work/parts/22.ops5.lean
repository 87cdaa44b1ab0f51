theorem sp_sC_sC (S : sp_S) (C D : sp_C) (n m : Nat) : sp_sC (sp_sC S C n) D m = sp_sC S D m := by
  unfold sp_sC
  rw [bx_uu]
theorem sp_sC_get (S : sp_S) (C : sp_C) (n : Nat) : ((sp_sC S C n).1 0) = (C, n) := by
  show va_up S.1 0 (C, n) 0 = _
  rw [va_upE]
theorem sp_sC_self (S : sp_S) : sp_sC S (S.1 0).1 (S.1 0).2 = S := by
  unfold sp_sC
  refine Prod.ext (funext fun j => ?_) rfl
  by_cases q : j = 0
  · show va_up S.1 0 ((S.1 0).1, (S.1 0).2) j = S.1 j
    rw [q, va_upE]
  · show va_up S.1 0 ((S.1 0).1, (S.1 0).2) j = S.1 j
    rw [va_upN _ _ q]
theorem cw_C.book {σ τ : hg_Mem} {S : sp_S} (h : cw_C σ S) {s : Nat} (hs : s < 4) (g : Nat → Int64) (h1 : ∀ i, i ≠ 2 → (i < 30 ∨ 40 ≤ i) → τ.1 i = σ.1 i) (h2 : ∀ j, j ≠ 16 + s → τ.2 j = σ.2 j) (h3 : ∀ k, k < 40 → τ.2 (16 + s) k = g k) : cw_C τ (sp_sL S s g) ∧ cw_Fr σ τ := by
  have hF : sp_Fr σ ((τ.1, σ.2) : hg_Mem) 2 := ⟨rfl, fun i a b => h1 i a (by omega)⟩
  obtain ⟨q1, q2⟩ := h.fr2 hF
  obtain ⟨q3, q4⟩ := q1.cells (τ := τ) hs g rfl h2 h3
  exact ⟨q3, q2.tr q4⟩
theorem sp_Rep.word {σ : hg_Mem} {t n x k : Nat} {C : sp_C} (h : sp_Rep σ t (sp_go C n k) n) (hx : x < n) : sp_says (σ.1 (10 + 10 * t + x)) (sp_q (σ.1 t 0)) (σ.1 t 2) = sp_word C n x k := by
  rw [h.2.2.1 0 (by decide), h.2.2.1 2 (by decide)]
  exact sp_Ag.says (fun j hj => h.2.2.2 x hx j hj) _ _
theorem sp_go_add (C : sp_C) (n : Nat) (a b : Nat) : sp_go (sp_go C n a) n b = sp_go C n (a + b) := by
  induction b with
  | zero => rfl
  | succ b ih => rw [sp_go, ih]; rfl
theorem sp_just_ag {c d : Nat → Int64} {C : sp_C} {n x : Nat} (h : ∀ y, y < 40 → c y = d y) : ∀ m a, m + a ≤ 40 → sp_just c C n x m a = sp_just d C n x m a := by
  intro m
  induction m with
  | zero => intro a _; rfl
  | succ m ih =>
    intro a ha
    rw [sp_just, sp_just, h a (by omega), ih (a + 1) (by omega)]
