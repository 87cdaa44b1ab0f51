theorem sp_Rep.bec {σ τ : hg_Mem} {t u n : Nat} {C : sp_C} (h : sp_Rep σ u C n) (h1 : ∀ k, k < 4 → τ.1 t k = σ.1 u k) (h2 : ∀ x, x < n → sp_Ag (τ.1 (10 + 10 * t + x)) (σ.1 (10 + 10 * u + x))) : sp_Rep τ t C n :=
  ⟨h.1, h.2.1, fun k hk => (h1 k hk).trans (h.2.2.1 k hk), fun x hx k hk => (h2 x hx k hk).trans (h.2.2.2 x hx k hk)⟩
theorem cw_C.get {σ : hg_Mem} {S : sp_S} (h : cw_C σ S) : (S.1 0).2 ≤ 10 ∧ σ.1 1 3 = nI (S.1 0).2 ∧ σ.1 1 0 = (S.1 0).1.1 0 ∧ σ.1 1 1 = (S.1 0).1.1 1 ∧ σ.1 1 2 = (S.1 0).1.1 2 ∧ ∀ x, x < (S.1 0).2 → sp_Ag (σ.1 (10 + 10 * 1 + x)) ((S.1 0).1.2 x) :=
  ⟨h.1.1, (h.1.2.2.1 3 (by decide)).trans h.1.2.1, h.1.2.2.1 0 (by decide), h.1.2.2.1 1 (by decide), h.1.2.2.1 2 (by decide), fun x hx k hk => h.1.2.2.2 x hx k hk⟩
theorem sp_Rep.set {σ : hg_Mem} {t n k : Nat} {C : sp_C} (h : sp_Rep σ t C n) (hk : k < 3) (v : Int32) : sp_Rep (hg_sI σ t k v) t (va_up C.1 k v, C.2) n ∧ sp_Fr σ (hg_sI σ t k v) t := by
  refine ⟨⟨h.1, ?_, fun j hj => ?_, fun x hx j hj => ?_⟩, rfl, fun i hi _ => by rw [hg_sI_eq, hg_sH_ne _ _ hi]⟩
  · show va_up C.1 k v 3 = nI n
    rw [va_upN _ _ (by omega)]; exact h.2.1
  · rw [hg_sI_eq, hg_sH_at]
    show va_up (σ.1 t) k v j = va_up C.1 k v j
    by_cases q : j = k
    · rw [q, va_upE, va_upE]
    · rw [va_upN _ _ q, va_upN _ _ q]; exact h.2.2.1 j hj
  · rw [hg_sI_eq, hg_sH_ne _ _ (show 10 + 10 * t + x ≠ t by omega)]; exact h.2.2.2 x hx j hj
theorem sp_Rep.setH {σ : hg_Mem} {t n x : Nat} {C : sp_C} (h : sp_Rep σ t C n) (hx : x < n) {f g : Nat → Int32} (hfg : sp_Ag f g) : sp_Rep (hg_sH σ (10 + 10 * t + x) f) t (C.1, va_up C.2 x g) n ∧ sp_Fr σ (hg_sH σ (10 + 10 * t + x) f) t := by
  have := h.1
  refine ⟨⟨h.1, h.2.1, fun j hj => ?_, fun y hy j hj => ?_⟩, rfl, fun i hi hj => by rw [hg_sH_ne _ _ (by omega)]⟩
  · rw [hg_sH_ne _ _ (show t ≠ 10 + 10 * t + x by omega)]; exact h.2.2.1 j hj
  · show _ = va_up C.2 x g y j
    by_cases q : y = x
    · rw [q, hg_sH_at, va_upE]; exact hfg j hj
    · rw [hg_sH_ne _ _ (by omega), va_upN _ _ q]; exact h.2.2.2 y hy j hj
theorem sp_Ag.put {f g : Nat → Int32} (h : sp_Ag f g) (w v : Int32) : sp_Ag (sp_put f w v) (sp_put g w v) := by
  unfold sp_put
  split
  · exact h.up 1 rfl
  · split
    · exact h.up 2 rfl
    · split
      · exact h.up 3 rfl
      · split
        · exact h.up 4 rfl
        · exact h.up 5 rfl
theorem sp_Ag.isKind {f g : Nat → Int32} (h : sp_Ag f g) (k : Int32) : sp_isKind f k = sp_isKind g k := by
  simp only [sp_isKind, h.all.1]
theorem sp_new_ag (f g : Nat → Int32) (k v : Int32) : sp_Ag (sp_new f k v) (sp_new g k v) := by
  intro j hj
  rcases (show j = 0 ∨ j = 1 ∨ j = 2 ∨ j = 3 ∨ j = 4 ∨ j = 5 by omega) with rfl | rfl | rfl | rfl | rfl | rfl <;> rfl
theorem sp_Rep.add {σ : hg_Mem} {t n : Nat} {C : sp_C} (h : sp_Rep σ t C n) (hn : n < 10) (k v : Int32) :
    sp_Rep (hg_sH (hg_sH σ (10 + 10 * t + n) (sp_new (σ.1 (10 + 10 * t + n)) k v)) t (va_up (σ.1 t) 3 (nI (n + 1)))) t (va_up C.1 3 (nI (n + 1)), va_up C.2 n (sp_new sp_zero k v)) (n + 1) ∧ sp_Fr σ (hg_sH (hg_sH σ (10 + 10 * t + n) (sp_new (σ.1 (10 + 10 * t + n)) k v)) t (va_up (σ.1 t) 3 (nI (n + 1)))) t := by
  refine ⟨⟨by omega, ?_, fun j hj => ?_, fun y hy j hj => ?_⟩, rfl, fun i hi hj => ?_⟩
  · show va_up C.1 3 (nI (n + 1)) 3 = _
    rw [va_upE]
  · rw [hg_sH_at]
    show va_up (σ.1 t) 3 (nI (n + 1)) j = va_up C.1 3 (nI (n + 1)) j
    by_cases q : j = 3
    · rw [q, va_upE, va_upE]
    · rw [va_upN _ _ q, va_upN _ _ q]; exact h.2.2.1 j hj
  · rw [hg_sH_ne _ _ (by omega)]
    show _ = va_up C.2 n (sp_new sp_zero k v) y j
    by_cases q : y = n
    · rw [q, hg_sH_at, va_upE]; exact sp_new_ag _ _ k v j hj
    · rw [hg_sH_ne _ _ (by omega), va_upN _ _ q]; exact h.2.2.2 y (by omega) j hj
  · rw [hg_sH_ne _ _ hi, hg_sH_ne _ _ (by omega)]
theorem sp_out_of {x a b : Int32} (n m : Nat) (ha : a = nI n) (hb : b = nI m) (hn : n < 100000) (hm : m < 100000) (h : sp_out x a b = 0) : ∃ j, n ≤ j ∧ j ≤ m ∧ x = nI j := by
  have h1 := hg_b0 h
  have h2 : ¬ x < a := fun q => h1 (Or.inl q)
  have h3 : ¬ b < x := fun q => h1 (Or.inr q)
  subst ha hb
  have hx0 : ¬ x < 0 := fun q => h2 (Int32.lt_of_lt_of_le q (nI_pos' (by omega)))
  obtain ⟨j, hj, rfl⟩ := nI_of hx0
  refine ⟨j, ?_, ?_, rfl⟩
  · rcases Nat.lt_or_ge j n with z | z
    · exact absurd (nI_lt z (by omega)) h2
    · exact z
  · rcases Nat.lt_or_ge m j with z | z
    · exact absurd (nI_lt z hj) h3
    · exact z
theorem sp_learns_1 {h : Nat → Int32} {ses : Int32} (c : ¬ sp_learns h ses = 0) : sp_learns h ses = 1 := by
  unfold sp_learns at c ⊢
  split
  · rfl
  · split
    · simp_all
    · split
      · split
        · rfl
        · simp_all
      · split
        · rfl
        · simp_all
theorem sp_ask.rep {σ τ : hg_Mem} {t n : Nat} {q held ses : Int32} {C : sp_C} (h : sp_ask σ τ t n q held ses) (hR : sp_Rep σ t C n) (h1 : 1 ≤ t) : sp_Rep τ t C n := by
  refine hR.keep (fun k hk => h.2.2.1 k (by omega) (by omega)) (fun x hx k hk => ?_)
  rcases Nat.lt_or_ge x n with z | z
  · rw [h.2.2.2.2.2 x z, va_upN _ _ (by omega)]
  · rw [h.2.1 _ (by omega) (by omega)]
