/-! SESSIONS: a congress is (SESSION, TRUTH, HELD, how many; the hats); what a session does -/
abbrev sp_C : Type := (Nat → Int32) × (Nat → Nat → Int32)
def sp_q (ses : Int32) : Int32 := ses - ses / 8 * 8
def sp_said (h : Nat → Int32) (q held : Int32) : Int32 := if h 5 = 0 then -1 else sp_says h q held
def sp_yes (f : Nat → Nat → Int32) (q held ses : Int32) : Nat → Int32
  | 0 => 0
  | n + 1 => if sp_said (f n) q held = 1 then sp_yes f q held ses n + sp_weighs (f n) ses else sp_yes f q held ses n
def sp_no (f : Nat → Nat → Int32) (q held ses : Int32) : Nat → Int32
  | 0 => 0
  | n + 1 => if sp_said (f n) q held = 0 then sp_no f q held ses n + sp_weighs (f n) ses else sp_no f q held ses n
def sp_verdict (y n held q : Int32) : Int32 := if y = n then sp_bit held q else if n < y then 1 else 0
def sp_heldN (held q y n : Int32) : Int32 := (held &&& (((1 : Int32) <<< (q &&& 31)) ^^^ (-1))) ||| (sp_verdict y n held q <<< (q &&& 31))
def sp_onset (f : Nat → Nat → Int32) : Nat → Int32
  | 0 => 0
  | n + 1 => sp_onset f n ||| (f n 5 <<< (nI n &&& 31))
def sp_sum (f : Nat → Nat → Int32) (w : Int32) : Nat → Int32
  | 0 => 0
  | n + 1 => sp_sum f w n + sp_trait (f n) w
def sp_trueOnes (held truth : Int32) : Int32 := ((held ^^^ truth) ^^^ (-1)) &&& 255
/-- a hat behind a session -/
def sp_hatN (h : Nat → Int32) (q held truth ses : Int32) : Nat → Int32 :=
  if sp_said h q held = -1 then h else if sp_said h q held = sp_bit truth q then sp_right h else sp_wrong h ses q truth
def sp_go1 (C : sp_C) (n : Nat) : sp_C :=
  (va_up (va_up C.1 2 (sp_heldN (C.1 2) (sp_q (C.1 0)) (sp_yes C.2 (sp_q (C.1 0)) (C.1 2) (C.1 0) n) (sp_no C.2 (sp_q (C.1 0)) (C.1 2) (C.1 0) n))) 0 (C.1 0 + 1),
   fun h => sp_hatN (C.2 h) (sp_q (C.1 0)) (C.1 2) (C.1 1) (C.1 0))
def sp_go (C : sp_C) (n : Nat) : Nat → sp_C
  | 0 => C
  | k + 1 => sp_go1 (sp_go C n k) n
/-- table t holds the congress C of n hats -/
def sp_Rep (σ : hg_Mem) (t : Nat) (C : sp_C) (n : Nat) : Prop := n ≤ 10 ∧ C.1 3 = nI n ∧ (∀ k, k < 4 → σ.1 t k = C.1 k) ∧ ∀ h, h < n → ∀ k, k < 6 → σ.1 (10 + 10 * t + h) k = C.2 h k
/-- nothing but table t's cells has changed -/
def sp_Fr (σ τ : hg_Mem) (t : Nat) : Prop := τ.2 = σ.2 ∧ ∀ i, i ≠ t → (i < 10 + 10 * t ∨ 20 + 10 * t ≤ i) → τ.1 i = σ.1 i
theorem sp_Fr.rf (σ : hg_Mem) (t : Nat) : sp_Fr σ σ t := ⟨rfl, fun _ _ _ => rfl⟩
theorem sp_Fr.tr {σ τ ρ : hg_Mem} {t : Nat} (a : sp_Fr σ τ t) (b : sp_Fr τ ρ t) : sp_Fr σ ρ t := ⟨b.1.trans a.1, fun i h1 h2 => (b.2 i h1 h2).trans (a.2 i h1 h2)⟩
/-- hats that agree in their six numbers -/
def sp_Ag (f g : Nat → Int32) : Prop := ∀ k, k < 6 → f k = g k
theorem sp_Ag.all {f g : Nat → Int32} (h : sp_Ag f g) : f 0 = g 0 ∧ f 1 = g 1 ∧ f 2 = g 2 ∧ f 3 = g 3 ∧ f 4 = g 4 ∧ f 5 = g 5 := ⟨h 0 (by decide), h 1 (by decide), h 2 (by decide), h 3 (by decide), h 4 (by decide), h 5 (by decide)⟩
theorem sp_Ag.says {f g : Nat → Int32} (h : sp_Ag f g) (q held : Int32) : sp_says f q held = sp_says g q held := by
  obtain ⟨h0, h1, h2, h3, h4, h5⟩ := h.all
  simp only [sp_says, sp_bowler, sp_cap, h0, h1, h2, h3, h4]
theorem sp_Ag.said {f g : Nat → Int32} (h : sp_Ag f g) (q held : Int32) : sp_said f q held = sp_said g q held := by
  simp only [sp_said, h.all.2.2.2.2.2, h.says]
theorem sp_Ag.weighs {f g : Nat → Int32} (h : sp_Ag f g) (ses : Int32) : sp_weighs f ses = sp_weighs g ses := by
  obtain ⟨h0, h1, h2, h3, h4, h5⟩ := h.all
  simp only [sp_weighs, h0, h4]
theorem sp_Ag.learns {f g : Nat → Int32} (h : sp_Ag f g) (ses : Int32) : sp_learns f ses = sp_learns g ses := by
  obtain ⟨h0, h1, h2, h3, h4, h5⟩ := h.all
  simp only [sp_learns, h0, h4]
theorem sp_Ag.stirs {f g : Nat → Int32} (h : sp_Ag f g) : sp_stirs f = sp_stirs g := by
  simp only [sp_stirs, h.all.1]
theorem sp_Ag.up {f g : Nat → Int32} (h : sp_Ag f g) (k : Nat) {v w : Int32} (e : v = w) : sp_Ag (va_up f k v) (va_up g k w) := by
  intro j hj
  by_cases q : j = k
  · rw [q, va_upE, va_upE]; exact e
  · rw [va_upN _ _ q, va_upN _ _ q]; exact h j hj
theorem sp_Ag.upL {f g : Nat → Int32} (h : sp_Ag f g) {k : Nat} (hk : 6 ≤ k) (v : Int32) : sp_Ag (va_up f k v) g := by
  intro j hj
  rw [va_upN _ _ (by omega)]; exact h j hj
theorem sp_Ag.right {f g : Nat → Int32} (h : sp_Ag f g) : sp_Ag (sp_right f) (sp_right g) := by
  obtain ⟨h0, h1, h2, h3, h4, h5⟩ := h.all
  exact (h.up 2 (by rw [h2])).up 4 (by rw [h4, h.stirs])
theorem sp_Ag.wrong {f g : Nat → Int32} (h : sp_Ag f g) (ses q truth : Int32) : sp_Ag (sp_wrong f ses q truth) (sp_wrong g ses q truth) := by
  obtain ⟨h0, h1, h2, h3, h4, h5⟩ := h.all
  unfold sp_wrong
  rw [h.learns]
  by_cases c : sp_learns g ses = 0
  · rw [if_pos c, if_pos c]
    exact (h.up 3 (by rw [h3])).up 4 (by rw [h4, h.stirs])
  · rw [if_neg c, if_neg c]
    exact ((h.up 1 (by rw [h1])).up 3 (by rw [h3])).up 4 (by rw [h4, h.stirs])
theorem sp_Ag.hatN {f g : Nat → Int32} (h : sp_Ag f g) (q held truth ses : Int32) : sp_Ag (sp_hatN f q held truth ses) (sp_hatN g q held truth ses) := by
  unfold sp_hatN
  rw [h.said]
  by_cases c : sp_said g q held = -1
  · rw [if_pos c, if_pos c]; exact h
  · rw [if_neg c, if_neg c]
    by_cases d : sp_said g q held = sp_bit truth q
    · rw [if_pos d, if_pos d]; exact h.right
    · rw [if_neg d, if_neg d]; exact h.wrong ses q truth
theorem sp_Ag.trait {f g : Nat → Int32} (h : sp_Ag f g) (w : Int32) : sp_trait f w = sp_trait g w := by
  obtain ⟨h0, h1, h2, h3, h4, h5⟩ := h.all
  simp only [sp_trait, h0, h1, h2, h3, h4, h5]
theorem sp_yes_ag {f g : Nat → Nat → Int32} (q held ses : Int32) : ∀ n, (∀ h, h < n → sp_Ag (f h) (g h)) → sp_yes f q held ses n = sp_yes g q held ses n := by
  intro n
  induction n with
  | zero => intro _; rfl
  | succ n ih =>
    intro h
    have a := h n (by omega)
    simp only [sp_yes, a.said, a.weighs, ih (fun k hk => h k (by omega))]
theorem sp_no_ag {f g : Nat → Nat → Int32} (q held ses : Int32) : ∀ n, (∀ h, h < n → sp_Ag (f h) (g h)) → sp_no f q held ses n = sp_no g q held ses n := by
  intro n
  induction n with
  | zero => intro _; rfl
  | succ n ih =>
    intro h
    have a := h n (by omega)
    simp only [sp_no, a.said, a.weighs, ih (fun k hk => h k (by omega))]
theorem sp_onset_ag {f g : Nat → Nat → Int32} : ∀ n, (∀ h, h < n → sp_Ag (f h) (g h)) → sp_onset f n = sp_onset g n := by
  intro n
  induction n with
  | zero => intro _; rfl
  | succ n ih =>
    intro h
    have a := (h n (by omega)).all.2.2.2.2.2
    simp only [sp_onset, a, ih (fun k hk => h k (by omega))]
theorem sp_sum_ag {f g : Nat → Nat → Int32} (w : Int32) : ∀ n, (∀ h, h < n → sp_Ag (f h) (g h)) → sp_sum f w n = sp_sum g w n := by
  intro n
  induction n with
  | zero => intro _; rfl
  | succ n ih =>
    intro h
    have a := h n (by omega)
    simp only [sp_sum, a.trait, ih (fun k hk => h k (by omega))]
theorem hg_ge {n j : Nat} {v : Int32} (hv : v = nI n) (hn : n ≤ 100000) (hj : j ≤ 100000) (h : v ≤ nI j) : n ≤ j := by
  rw [hv] at h; exact (nI_leI (by omega) (by omega)).mp h
theorem hg_nge {n j : Nat} {v : Int32} (hv : v = nI n) (hn : n ≤ 100000) (hj : j ≤ 100000) (h : ¬ v ≤ nI j) : j < n := by
  rw [hv] at h
  rcases Nat.lt_or_ge j n with q | q
  · exact q
  · exact absurd (nI_le q (by omega)) h
theorem hg_b0 {P : Prop} [Decidable P] (h : (if P then (1 : Int32) else 0) = 0) : ¬ P := fun q => by rw [if_pos q] at h; exact absurd h (by decide)
theorem hg_b1 {P : Prop} [Decidable P] (h : ¬ (if P then (1 : Int32) else 0) = 0) : P := by
  by_cases q : P
  · exact q
  · rw [if_neg q] at h; exact absurd rfl h
/-- ask: how far the hats have been asked -/
def sp_ask (σ τ : hg_Mem) (t j : Nat) (q held ses : Int32) : Prop :=
  τ.2 = σ.2 ∧ (∀ i, i ≠ t → (i < 10 + 10 * t ∨ 10 + 10 * t + j ≤ i) → τ.1 i = σ.1 i) ∧ (∀ k, k ≠ 5 → k ≠ 6 → τ.1 t k = σ.1 t k) ∧
  τ.1 t 5 = sp_yes (fun h => σ.1 (10 + 10 * t + h)) q held ses j ∧ τ.1 t 6 = sp_no (fun h => σ.1 (10 + 10 * t + h)) q held ses j ∧
  ∀ h, h < j → τ.1 (10 + 10 * t + h) = va_up (σ.1 (10 + 10 * t + h)) 6 (sp_said (σ.1 (10 + 10 * t + h)) q held)
theorem sp_ask.start {σ : hg_Mem} {t : Nat} {q held ses : Int32} (h1 : 1 ≤ t) : sp_ask σ (hg_sI (hg_sI σ t 5 0) t 6 0) t 0 q held ses := by
  simp only [hg_sI_eq, hg_sH_at, hg_sH_sH]
  refine ⟨rfl, fun i hi _ => hg_sH_ne _ _ hi, fun k k5 k6 => ?_, ?_, ?_, fun h hh => absurd hh (Nat.not_lt_zero h)⟩
  · rw [hg_sH_at, va_upN _ _ k6, va_upN _ _ k5]
  · rw [hg_sH_at, va_upN _ _ (by decide), va_upE]; rfl
  · rw [hg_sH_at, va_upE]; rfl
theorem sp_ask.step {σ τ ρ : hg_Mem} {t j : Nat} {q held ses : Int32} (h : sp_ask σ τ t j q held ses) (h2 : ρ.2 = τ.2) (ht : t < 10 + 10 * t) (ho : ∀ i, i ≠ t → i ≠ 10 + 10 * t + j → ρ.1 i = τ.1 i) (hk : ∀ k, k ≠ 5 → k ≠ 6 → ρ.1 t k = τ.1 t k)
    (hd : ρ.1 (10 + 10 * t + j) = va_up (τ.1 (10 + 10 * t + j)) 6 (sp_said (τ.1 (10 + 10 * t + j)) q held))
    (hy : ρ.1 t 5 = if sp_said (τ.1 (10 + 10 * t + j)) q held = 1 then τ.1 t 5 + sp_weighs (τ.1 (10 + 10 * t + j)) ses else τ.1 t 5)
    (hn : ρ.1 t 6 = if sp_said (τ.1 (10 + 10 * t + j)) q held = 0 then τ.1 t 6 + sp_weighs (τ.1 (10 + 10 * t + j)) ses else τ.1 t 6) : sp_ask σ ρ t (j + 1) q held ses := by
  obtain ⟨a1, a2, a3, a4, a5, a6⟩ := h
  have e : τ.1 (10 + 10 * t + j) = σ.1 (10 + 10 * t + j) := a2 _ (by omega) (Or.inr (Nat.le_refl _))
  rw [e] at hd hy hn
  refine ⟨h2.trans a1, fun i h1 h3 => ?_, fun k k5 k6 => (hk k k5 k6).trans (a3 k k5 k6), ?_, ?_, fun x hx => ?_⟩
  · rw [ho i h1 (by omega)]; exact a2 i h1 (by omega)
  · rw [hy, a4]; rfl
  · rw [hn, a5]; rfl
  · by_cases c : x = j
    · rw [c]; exact hd
    · rw [ho _ (by omega) (by omega)]; exact a6 x (by omega)
/-- become: how many hats have come -/
def sp_bec (σ τ : hg_Mem) (t u j : Nat) : Prop := τ.2 = σ.2 ∧ (∀ k, k < 4 → τ.1 t k = σ.1 u k) ∧ (∀ i, i ≠ t → (i < 10 + 10 * t ∨ 10 + 10 * t + j ≤ i) → τ.1 i = σ.1 i) ∧ ∀ h, h < j → sp_Ag (τ.1 (10 + 10 * t + h)) (σ.1 (10 + 10 * u + h))
theorem sp_cpy_ag (f g : Nat → Int32) : sp_Ag (sp_cpy f g) g := by
  intro k hk
  have : k = 0 ∨ k = 1 ∨ k = 2 ∨ k = 3 ∨ k = 4 ∨ k = 5 := by omega
  rcases this with rfl | rfl | rfl | rfl | rfl | rfl <;> rfl
theorem sp_bec.step {σ τ : hg_Mem} {t u j : Nat} (h : sp_bec σ τ t u j) (ht1 : 1 ≤ t) (ht2 : t < 4) (hu1 : 1 ≤ u) (hu2 : u < 4) (hut : u ≠ t) (hj : j < 10) : sp_bec σ (hg_sH τ (10 + 10 * t + j) (sp_cpy (τ.1 (10 + 10 * t + j)) (τ.1 (10 + 10 * u + j)))) t u (j + 1) := by
  obtain ⟨a1, a2, a3, a4⟩ := h
  refine ⟨a1, fun k hk => ?_, fun i hi1 hi2 => ?_, fun x hx => ?_⟩
  · rw [hg_sH_ne _ _ (by omega)]; exact a2 k hk
  · rw [hg_sH_ne _ _ (by omega)]; exact a3 i hi1 (by omega)
  · by_cases c : x = j
    · rw [c, hg_sH_at, a3 (10 + 10 * u + j) (by omega) (by omega)]; exact sp_cpy_ag _ _
    · rw [hg_sH_ne _ _ (by omega)]; exact a4 x (by omega)
theorem sp_bec.fin {σ τ : hg_Mem} {t u j : Nat} (h : sp_bec σ τ t u j) (hj : j ≤ 10) : sp_Fr σ τ t ∧ (∀ k, k < 4 → τ.1 t k = σ.1 u k) ∧ ∀ h, h < j → sp_Ag (τ.1 (10 + 10 * t + h)) (σ.1 (10 + 10 * u + h)) :=
  ⟨⟨h.1, fun i h1 h2 => h.2.2.1 i h1 (by omega)⟩, h.2.1, h.2.2.2⟩
/-- judge -/
def sp_judge (h : Nat → Int32) (ses q truth : Int32) : Nat → Int32 := if h 6 = -1 then h else if h 6 = sp_bit truth q then sp_right h else sp_wrong h ses q truth
theorem sp_judge_ag {f g : Nat → Int32} (h : sp_Ag f g) (q held truth ses : Int32) : sp_Ag (sp_judge (va_up f 6 (sp_said f q held)) ses q truth) (sp_hatN g q held truth ses) := by
  rw [h.said q held]
  have a : sp_Ag (va_up f 6 (sp_said g q held)) g := h.upL (by decide) _
  unfold sp_judge sp_hatN
  rw [va_upE]
  by_cases c : sp_said g q held = -1
  · rw [if_pos c, if_pos c]; exact a
  · rw [if_neg c, if_neg c]
    by_cases d : sp_said g q held = sp_bit truth q
    · rw [if_pos d, if_pos d]; exact a.right
    · rw [if_neg d, if_neg d]; exact a.wrong ses q truth
/-- one whole session of table t -/
theorem sp_Rep.go1 {τ τ1 ρ : hg_Mem} {t n : Nat} {C : sp_C} {v : Int32} (hR : sp_Rep τ t C n) (h1 : 1 ≤ t) (hA : sp_ask τ τ1 t n (sp_q (τ.1 t 0)) (τ.1 t 2) (τ.1 t 0)) (hv : v = sp_heldN (τ1.1 t 2) (sp_q (τ.1 t 0)) (τ1.1 t 5) (τ1.1 t 6))
    (hρ2 : ρ.2 = τ1.2) (hρt : ρ.1 t = va_up (τ1.1 t) 2 v) (hρo : ∀ i, i ≠ t → (i < 10 + 10 * t ∨ 10 + 10 * t + n ≤ i) → ρ.1 i = τ1.1 i) (hρh : ∀ h, h < n → ρ.1 (10 + 10 * t + h) = sp_judge (τ1.1 (10 + 10 * t + h)) (τ.1 t 0) (sp_q (τ.1 t 0)) (τ.1 t 1)) :
    sp_Rep (hg_sI ρ t 0 (ρ.1 t 0 + 1)) t (sp_go1 C n) n ∧ sp_Fr τ (hg_sI ρ t 0 (ρ.1 t 0 + 1)) t := by
  obtain ⟨hn, hC3, hg, hh⟩ := hR
  obtain ⟨a1, a2, a3, a4, a5, a6⟩ := hA
  have ag : ∀ h, h < n → sp_Ag (τ.1 (10 + 10 * t + h)) (C.2 h) := fun h hlt k hk => hh h hlt k hk
  have ey := sp_yes_ag (f := fun h => τ.1 (10 + 10 * t + h)) (g := C.2) (sp_q (τ.1 t 0)) (τ.1 t 2) (τ.1 t 0) n ag
  have eno := sp_no_ag (f := fun h => τ.1 (10 + 10 * t + h)) (g := C.2) (sp_q (τ.1 t 0)) (τ.1 t 2) (τ.1 t 0) n ag
  have g0 := hg 0 (by decide); have g1 := hg 1 (by decide); have g2 := hg 2 (by decide)
  refine ⟨⟨hn, ?_, fun k hk => ?_, fun h hlt k hk => ?_⟩, ?_, fun i hi1 hi2 => ?_⟩
  · simp [sp_go1, va_up, hC3]
  · rw [hg_sI_eq, hg_sH_at]
    simp only [sp_go1]
    by_cases k0 : k = 0
    · subst k0
      rw [va_upE, va_upE, hρt, va_upN _ _ (by decide), a3 0 (by decide) (by decide), g0]
    · rw [va_upN _ _ k0, va_upN _ _ k0, hρt]
      by_cases k2 : k = 2
      · subst k2
        rw [va_upE, va_upE, hv, a3 2 (by decide) (by decide), a4, a5, ey, eno, g0, g2]
      · rw [va_upN _ _ k2, va_upN _ _ k2, a3 k (by omega) (by omega)]; exact hg k hk
  · rw [hg_sI_eq, hg_sH_ne _ _ (show 10 + 10 * t + h ≠ t by omega), hρh h hlt, a6 h hlt]
    have := sp_judge_ag (ag h hlt) (sp_q (τ.1 t 0)) (τ.1 t 2) (τ.1 t 1) (τ.1 t 0) k hk
    rw [this, g0, g1, g2]
    rfl
  · rw [hg_sI_eq, hg_sH_2, hρ2, a1]
  · rw [hg_sI_eq, hg_sH_ne _ _ hi1, hρo i hi1 (by omega), a2 i hi1 (by omega)]
section HGD
variable {E : hg_Wd} {p : Program} {l : Launch} {e : Env} {R : Room} {s : State} {m : MethodId} {args : Array Value} {below : List Frame} {meth : Method} {c : Code} {nL : Nat} {Q : State → Prop} {σ : hg_Mem} {pc : Nat} {st : List Value}
theorem hg_nm {lv : List (Option Value)} (k : ∀ μ, μ = σ → hg_G E p l e R s m args below meth c nL Q μ pc lv st) : hg_G E p l e R s m args below meth c nL Q σ pc lv st := k σ rfl
theorem hg_forget {lv lv2 : List (Option Value)} (hl : lv2.length = lv.length) (h : ∀ (i : Nat) (v : Value), lv2[i]? = some (some v) → lv[i]? = some (some v)) (k : hg_G E p l e R s m args below meth c nL Q σ pc lv2 st) : hg_G E p l e R s m args below meth c nL Q σ pc lv st :=
  fun H locs ls hP hS hL => k H locs ls hP hS ⟨hL.1, hl.trans hL.2.1, hL.2.2.1, fun i v hv => hL.2.2.2 i v (h i v hv)⟩
theorem hg_drop0 {o : Option Value} {r : List (Option Value)} (k : hg_G E p l e R s m args below meth c nL Q σ pc (none :: r) st) : hg_G E p l e R s m args below meth c nL Q σ pc (o :: r) st := by
  refine hg_forget (lv2 := none :: r) rfl (fun i v h => ?_) k
  match i, h with
  | 0, h => cases h
  | i + 1, h => exact h
theorem hg_drop1 {a0 : Option Value} {o : Option Value} {r : List (Option Value)} (k : hg_G E p l e R s m args below meth c nL Q σ pc (a0 :: none :: r) st) : hg_G E p l e R s m args below meth c nL Q σ pc (a0 :: o :: r) st := by
  refine hg_forget (lv2 := a0 :: none :: r) rfl (fun i v h => ?_) k
  match i, h with
  | 0, h => exact h
  | 1, h => cases h
  | i + 2, h => exact h
theorem hg_drop2 {a0 a1 : Option Value} {o : Option Value} {r : List (Option Value)} (k : hg_G E p l e R s m args below meth c nL Q σ pc (a0 :: a1 :: none :: r) st) : hg_G E p l e R s m args below meth c nL Q σ pc (a0 :: a1 :: o :: r) st := by
  refine hg_forget (lv2 := a0 :: a1 :: none :: r) rfl (fun i v h => ?_) k
  match i, h with
  | 0, h => exact h
  | 1, h => exact h
  | 2, h => cases h
  | i + 3, h => exact h
theorem hg_drop3 {a0 a1 a2 : Option Value} {o : Option Value} {r : List (Option Value)} (k : hg_G E p l e R s m args below meth c nL Q σ pc (a0 :: a1 :: a2 :: none :: r) st) : hg_G E p l e R s m args below meth c nL Q σ pc (a0 :: a1 :: a2 :: o :: r) st := by
  refine hg_forget (lv2 := a0 :: a1 :: a2 :: none :: r) rfl (fun i v h => ?_) k
  match i, h with
  | 0, h => exact h
  | 1, h => exact h
  | 2, h => exact h
  | 3, h => cases h
  | i + 4, h => exact h
theorem hg_drop4 {a0 a1 a2 a3 : Option Value} {o : Option Value} {r : List (Option Value)} (k : hg_G E p l e R s m args below meth c nL Q σ pc (a0 :: a1 :: a2 :: a3 :: none :: r) st) : hg_G E p l e R s m args below meth c nL Q σ pc (a0 :: a1 :: a2 :: a3 :: o :: r) st := by
  refine hg_forget (lv2 := a0 :: a1 :: a2 :: a3 :: none :: r) rfl (fun i v h => ?_) k
  match i, h with
  | 0, h => exact h
  | 1, h => exact h
  | 2, h => exact h
  | 3, h => exact h
  | 4, h => cases h
  | i + 5, h => exact h
theorem hg_drop5 {a0 a1 a2 a3 a4 : Option Value} {o : Option Value} {r : List (Option Value)} (k : hg_G E p l e R s m args below meth c nL Q σ pc (a0 :: a1 :: a2 :: a3 :: a4 :: none :: r) st) : hg_G E p l e R s m args below meth c nL Q σ pc (a0 :: a1 :: a2 :: a3 :: a4 :: o :: r) st := by
  refine hg_forget (lv2 := a0 :: a1 :: a2 :: a3 :: a4 :: none :: r) rfl (fun i v h => ?_) k
  match i, h with
  | 0, h => exact h
  | 1, h => exact h
  | 2, h => exact h
  | 3, h => exact h
  | 4, h => exact h
  | 5, h => cases h
  | i + 6, h => exact h
theorem hg_drop6 {a0 a1 a2 a3 a4 a5 : Option Value} {o : Option Value} {r : List (Option Value)} (k : hg_G E p l e R s m args below meth c nL Q σ pc (a0 :: a1 :: a2 :: a3 :: a4 :: a5 :: none :: r) st) : hg_G E p l e R s m args below meth c nL Q σ pc (a0 :: a1 :: a2 :: a3 :: a4 :: a5 :: o :: r) st := by
  refine hg_forget (lv2 := a0 :: a1 :: a2 :: a3 :: a4 :: a5 :: none :: r) rfl (fun i v h => ?_) k
  match i, h with
  | 0, h => exact h
  | 1, h => exact h
  | 2, h => exact h
  | 3, h => exact h
  | 4, h => exact h
  | 5, h => exact h
  | 6, h => cases h
  | i + 7, h => exact h
theorem hg_drop7 {a0 a1 a2 a3 a4 a5 a6 : Option Value} {o : Option Value} {r : List (Option Value)} (k : hg_G E p l e R s m args below meth c nL Q σ pc (a0 :: a1 :: a2 :: a3 :: a4 :: a5 :: a6 :: none :: r) st) : hg_G E p l e R s m args below meth c nL Q σ pc (a0 :: a1 :: a2 :: a3 :: a4 :: a5 :: a6 :: o :: r) st := by
  refine hg_forget (lv2 := a0 :: a1 :: a2 :: a3 :: a4 :: a5 :: a6 :: none :: r) rfl (fun i v h => ?_) k
  match i, h with
  | 0, h => exact h
  | 1, h => exact h
  | 2, h => exact h
  | 3, h => exact h
  | 4, h => exact h
  | 5, h => exact h
  | 6, h => exact h
  | 7, h => cases h
  | i + 8, h => exact h
theorem hg_drop8 {a0 a1 a2 a3 a4 a5 a6 a7 : Option Value} {o : Option Value} {r : List (Option Value)} (k : hg_G E p l e R s m args below meth c nL Q σ pc (a0 :: a1 :: a2 :: a3 :: a4 :: a5 :: a6 :: a7 :: none :: r) st) : hg_G E p l e R s m args below meth c nL Q σ pc (a0 :: a1 :: a2 :: a3 :: a4 :: a5 :: a6 :: a7 :: o :: r) st := by
  refine hg_forget (lv2 := a0 :: a1 :: a2 :: a3 :: a4 :: a5 :: a6 :: a7 :: none :: r) rfl (fun i v h => ?_) k
  match i, h with
  | 0, h => exact h
  | 1, h => exact h
  | 2, h => exact h
  | 3, h => exact h
  | 4, h => exact h
  | 5, h => exact h
  | 6, h => exact h
  | 7, h => exact h
  | 8, h => cases h
  | i + 9, h => exact h
end HGD
