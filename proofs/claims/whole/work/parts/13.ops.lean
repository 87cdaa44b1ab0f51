/-! THE STATE AS ONE VALUE, and what each call answers and makes of it: both sides are tied to these ops -/
/-- (congress and image, each with how many hats; rows: 0 kept and bytes on the tape, 1 findings, 2 tape, 3 bits, 4 sizes of sheets; sheets) -/
abbrev sp_S : Type := (Nat → sp_C × Nat) × (Nat → Nat → Int32) × (Nat → Nat → Int64)
def sp_sC (S : sp_S) (C : sp_C) (n : Nat) : sp_S := (va_up S.1 0 (C, n), S.2)
def sp_sR (S : sp_S) (i : Nat) (f : Nat → Int32) : sp_S := (S.1, va_up S.2.1 i f, S.2.2)
def sp_sL (S : sp_S) (i : Nat) (f : Nat → Int64) : sp_S := (S.1, S.2.1, va_up S.2.2 i f)
def sp_bad (S : sp_S) (f : Nat) : Int32 × sp_S := (-1000000001 - nI f, sp_sR S 1 (va_up (S.2.1 1) f (S.2.1 1 f + 1)))
def sp_hz (x : Int32) (n : Nat) : Int32 := if 0 ≤ x ∧ x < nI n then 1 else 0
theorem sp_hz_of {x : Int32} {n : Nat} (hn : n ≤ 10) (h : ¬ sp_hz x n = 0) : ∃ j, j < n ∧ x = nI j := by
  obtain ⟨h1, h2⟩ := hg_b1 h
  obtain ⟨j, hj, rfl⟩ := nI_of (x := x) (Int32.not_lt.mpr h1)
  exact ⟨j, (nI_ltI hj (by omega)).mp h2, rfl⟩
/-- the class's cells hold the state -/
def cw_C (σ : hg_Mem) (S : sp_S) : Prop :=
  sp_Rep σ 1 (S.1 0).1 (S.1 0).2 ∧ (S.2.1 0 0 = 1 → sp_Rep σ 3 (S.1 1).1 (S.1 1).2) ∧ σ.1 0 3 = S.2.1 0 0 ∧ σ.1 7 1 = S.2.1 0 1 ∧ (∀ k, k < 7 → σ.1 11 k = S.2.1 1 k) ∧ (∀ k, k < 120 → σ.1 8 k = S.2.1 2 k) ∧
  ∀ s, s < 4 → σ.1 (12 + s) 1 = S.2.1 3 s ∧ σ.1 (12 + s) 2 = S.2.1 4 s ∧ ∀ k, k < 40 → σ.2 (16 + s) k = S.2.2 s k
def cw_Fr (σ τ : hg_Mem) : Prop := ∀ i, 50 ≤ i → τ.1 i = σ.1 i ∧ τ.2 i = σ.2 i
theorem cw_Fr.rf (σ : hg_Mem) : cw_Fr σ σ := fun _ _ => ⟨rfl, rfl⟩
theorem cw_Fr.tr {σ τ ρ : hg_Mem} (a : cw_Fr σ τ) (b : cw_Fr τ ρ) : cw_Fr σ ρ := fun i h => ⟨(b i h).1.trans (a i h).1, (b i h).2.trans (a i h).2⟩
/-- a call's end in the class -/
def cw_P (σ : hg_Mem) (w : Int32 × sp_S) (r : Int32) (τ : hg_Mem) : Prop := r = w.1 ∧ cw_C τ w.2 ∧ cw_Fr σ τ
theorem sp_Rep.keep {σ τ : hg_Mem} {t n : Nat} {C : sp_C} (h : sp_Rep σ t C n) (h1 : ∀ k, k < 4 → τ.1 t k = σ.1 t k) (h2 : ∀ x, x < 10 → ∀ k, k < 6 → τ.1 (10 + 10 * t + x) k = σ.1 (10 + 10 * t + x) k) : sp_Rep τ t C n :=
  ⟨h.1, h.2.1, fun k hk => (h1 k hk).trans (h.2.2.1 k hk), fun x hx k hk => (h2 x (by have := h.1; omega) k hk).trans (h.2.2.2 x hx k hk)⟩
theorem cw_C.find {σ : hg_Mem} {S : sp_S} (h : cw_C σ S) {f : Nat} (hf : f < 7) {w : Int32} (hw : w = -1000000001 - nI f) : cw_P σ (sp_bad S f) w (hg_sI σ 11 f (σ.1 11 f + 1)) := by
  obtain ⟨a, b, c, d, e, g, i⟩ := h
  have ne : ∀ j, j ≠ 11 → (hg_sI σ 11 f (σ.1 11 f + 1)).1 j = σ.1 j := fun j hj => by rw [hg_sI_eq, hg_sH_ne _ _ hj]
  refine ⟨hw, ⟨?_, fun hk => ?_, ?_, ?_, fun k hk => ?_, fun k hk => ?_, fun s hs => ?_⟩, fun j hj => ⟨ne j (by omega), rfl⟩⟩
  · exact a.keep (fun k _ => by rw [ne _ (by omega)]) (fun x _ k _ => by rw [ne _ (by omega)])
  · exact (b hk).keep (fun k _ => by rw [ne _ (by omega)]) (fun x _ k _ => by rw [ne _ (by omega)])
  · rw [ne _ (by omega)]; exact c
  · rw [ne _ (by omega)]; exact d
  · rw [hg_sI_eq, hg_sH_at]
    show va_up (σ.1 11) f (σ.1 11 f + 1) k = va_up (S.2.1 1) f (S.2.1 1 f + 1) k
    by_cases q : k = f
    · rw [q, va_upE, va_upE, e f hf]
    · rw [va_upN _ _ q, va_upN _ _ q]; exact e k hk
  · rw [ne _ (by omega)]; exact g k hk
  · rw [ne _ (by omega)]; exact i s hs
/-- nothing of the state changed but what isn't told -/
theorem cw_C.fr {σ τ : hg_Mem} {S : sp_S} (h : cw_C σ S) (h2 : τ.2 = σ.2) (h1 : ∀ i, i ≠ 1 → i ≠ 2 → (i < 20 ∨ 40 ≤ i) → τ.1 i = σ.1 i) (hR : sp_Rep τ 1 (S.1 0).1 (S.1 0).2) : cw_C τ S ∧ cw_Fr σ τ := by
  obtain ⟨a, b, c, d, e, g, i⟩ := h
  refine ⟨⟨hR, fun hk => (b hk).keep (fun k _ => by rw [h1 3 (by omega) (by omega) (by omega)]) (fun x hx k _ => by rw [h1 (10 + 10 * 3 + x) (by omega) (by omega) (by omega)]), ?_, ?_, fun k hk => ?_, fun k hk => ?_, fun s hs => ?_⟩, fun j hj => ⟨h1 j (by omega) (by omega) (by omega), by rw [h2]⟩⟩
  · rw [h1 0 (by omega) (by omega) (by omega)]; exact c
  · rw [h1 7 (by omega) (by omega) (by omega)]; exact d
  · rw [h1 11 (by omega) (by omega) (by omega)]; exact e k hk
  · rw [h1 8 (by omega) (by omega) (by omega)]; exact g k hk
  · rw [h1 (12 + s) (by omega) (by omega) (by omega), h2]; exact i s hs
theorem cw_C.fr2 {σ τ : hg_Mem} {S : sp_S} (h : cw_C σ S) (hF : sp_Fr σ τ 2) : cw_C τ S ∧ cw_Fr σ τ :=
  h.fr hF.1 (fun i h1 h2 h3 => hF.2 i h2 (by omega)) (h.1.keep (fun k _ => by rw [hF.2 1 (by omega) (by omega)]) (fun x hx k _ => by rw [hF.2 _ (by omega) (by omega)]))
/-- the congress has changed -/
theorem cw_C.setC {σ τ : hg_Mem} {S : sp_S} (h : cw_C σ S) (C : sp_C) (n : Nat) (hF : sp_Fr σ τ 1) (hR : sp_Rep τ 1 C n) : cw_C τ (sp_sC S C n) ∧ cw_Fr σ τ := by
  have h9 : cw_C σ (sp_sC S C n) → cw_C τ (sp_sC S C n) ∧ cw_Fr σ τ := fun z => z.fr hF.1 (fun i h1 h2 h3 => hF.2 i h1 (by omega)) hR
  obtain ⟨a, b, c, d, e, g, i⟩ := h
  refine ⟨⟨hR, fun hk => ?_, ?_, ?_, fun k hk => ?_, fun k hk => ?_, fun s hs => ?_⟩, fun j hj => ⟨hF.2 j (by omega) (by omega), by rw [hF.1]⟩⟩
  · exact (b hk).keep (fun k _ => by rw [hF.2 3 (by omega) (by omega)]) (fun x hx k _ => by rw [hF.2 _ (by omega) (by omega)])
  · rw [hF.2 0 (by omega) (by omega)]; exact c
  · rw [hF.2 7 (by omega) (by omega)]; exact d
  · rw [hF.2 11 (by omega) (by omega)]; exact e k hk
  · rw [hF.2 8 (by omega) (by omega)]; exact g k hk
  · rw [hF.2 (12 + s) (by omega) (by omega), hF.1]; exact i s hs
/-- the ops -/
def op_holds (S : sp_S) (w v : Int32) : Int32 × sp_S :=
  if ¬ sp_out w 0 1 = 0 ∨ ¬ sp_out v 0 255 = 0 then sp_bad S 0
  else if w = 0 then ((S.1 0).1.1 1, sp_sC S (va_up (S.1 0).1.1 1 v, (S.1 0).1.2) (S.1 0).2)
  else ((S.1 0).1.1 2, sp_sC S (va_up (S.1 0).1.1 2 v, (S.1 0).1.2) (S.1 0).2)
def op_now (S : sp_S) (w : Int32) : Int32 × sp_S :=
  if w = 0 then ((S.1 0).1.1 0, S) else if w = 1 then (sp_q ((S.1 0).1.1 0), S) else if w = 2 then ((S.1 0).1.1 1, S) else if w = 3 then ((S.1 0).1.1 2, S)
  else if w = 4 then (sp_yes (S.1 0).1.2 (sp_q ((S.1 0).1.1 0)) ((S.1 0).1.1 2) ((S.1 0).1.1 0) (S.1 0).2, S)
  else if w = 5 then (sp_no (S.1 0).1.2 (sp_q ((S.1 0).1.1 0)) ((S.1 0).1.1 2) ((S.1 0).1.1 0) (S.1 0).2, S)
  else if w = 6 then (sp_onset (S.1 0).1.2 (S.1 0).2, S) else if w = 7 then (sp_trueOnes ((S.1 0).1.1 2) ((S.1 0).1.1 1), S) else sp_bad S 0
def sp_zero : Nat → Int32 := fun _ => 0
def op_hat (S : sp_S) (k v : Int32) : Int32 × sp_S :=
  if ¬ sp_out k 0 5 = 0 ∨ ¬ sp_out v 0 255 = 0 then sp_bad S 0
  else if 10 ≤ (S.1 0).2 then sp_bad S 1
  else (nI (S.1 0).2, sp_sC S (va_up (S.1 0).1.1 3 (nI ((S.1 0).2 + 1)), va_up (S.1 0).1.2 (S.1 0).2 (sp_new sp_zero k v)) ((S.1 0).2 + 1))
def op_of (S : sp_S) (x w : Int32) : Int32 × sp_S :=
  if sp_hz x (S.1 0).2 = 0 ∨ ¬ sp_out w 0 8 = 0 then sp_bad S 0
  else if w = 6 then (sp_weighs ((S.1 0).1.2 x.toNatClampNeg) ((S.1 0).1.1 0), S)
  else if w = 7 then (sp_learns ((S.1 0).1.2 x.toNatClampNeg) ((S.1 0).1.1 0), S)
  else if w = 8 then (sp_stirs ((S.1 0).1.2 x.toNatClampNeg), S)
  else (sp_trait ((S.1 0).1.2 x.toNatClampNeg) w, S)
def op_says (S : sp_S) (x q : Int32) : Int32 × sp_S :=
  if sp_hz x (S.1 0).2 = 0 ∨ ¬ sp_out q 0 7 = 0 then sp_bad S 0 else (sp_says ((S.1 0).1.2 x.toNatClampNeg) q ((S.1 0).1.1 2), S)
def sp_sH (S : sp_S) (x : Nat) (f : Nat → Int32) : sp_S := sp_sC S ((S.1 0).1.1, va_up (S.1 0).1.2 x f) (S.1 0).2
def op_set (S : sp_S) (x w v : Int32) : Int32 × sp_S :=
  if sp_hz x (S.1 0).2 = 0 ∨ ¬ sp_out w 1 5 = 0 ∨ ¬ sp_out v 0 (sp_mostOf w) = 0 then sp_bad S 0
  else (sp_trait ((S.1 0).1.2 x.toNatClampNeg) w, sp_sH S x.toNatClampNeg (sp_put ((S.1 0).1.2 x.toNatClampNeg) w v))
def op_turn (S : sp_S) (x k : Int32) : Int32 × sp_S :=
  if sp_hz x (S.1 0).2 = 0 ∨ ¬ sp_out k 0 5 = 0 then sp_bad S 0
  else ((S.1 0).1.2 x.toNatClampNeg 0, sp_sH S x.toNatClampNeg (va_up ((S.1 0).1.2 x.toNatClampNeg) 0 k))
def op_as (S : sp_S) (x k : Int32) : Int32 × sp_S :=
  if sp_hz x (S.1 0).2 = 0 ∨ ¬ sp_out k 0 5 = 0 then sp_bad S 0
  else if sp_isKind ((S.1 0).1.2 x.toNatClampNeg) k = 0 then sp_bad S 2 else ((S.1 0).1.2 x.toNatClampNeg 1, S)
def op_sessions (S : sp_S) (N : Int32) : Int32 × sp_S :=
  if ¬ sp_out N 1 100 = 0 then sp_bad S 0
  else if ¬ (S.1 0).1.1 0 ≤ 99999 - N then sp_bad S 4
  else ((sp_go (S.1 0).1 (S.1 0).2 N.toNatClampNeg).1 2, sp_sC S (sp_go (S.1 0).1 (S.1 0).2 N.toNatClampNeg) (S.1 0).2)
def op_on (S : sp_S) (x N w : Int32) : Int32 × sp_S :=
  if sp_hz x (S.1 0).2 = 0 ∨ ¬ sp_out N 0 200 = 0 ∨ ¬ sp_out w 0 3 = 0 then sp_bad S 0
  else (sp_trait ((sp_go (S.1 0).1 (S.1 0).2 N.toNatClampNeg).2 x.toNatClampNeg) (1 + w), S)
def op_then (S : sp_S) (N w : Int32) : Int32 × sp_S :=
  if ¬ sp_out N 0 200 = 0 ∨ ¬ sp_out w 0 1 = 0 then sp_bad S 0
  else if w = 0 then ((sp_go (S.1 0).1 (S.1 0).2 N.toNatClampNeg).1 2, S)
  else (sp_trueOnes ((sp_go (S.1 0).1 (S.1 0).2 N.toNatClampNeg).1 2) ((sp_go (S.1 0).1 (S.1 0).2 N.toNatClampNeg).1 1), S)
/-- the first from a on (m places are looked at) -/
def sp_first (f : Nat → Bool) : Nat → Nat → Option Nat
  | 0, _ => none
  | m + 1, a => if f a = true then some a else sp_first f m (a + 1)
def sp_opt (S : sp_S) (o : Option Nat) : Int32 × sp_S := match o with
  | some k => (nI k, S)
  | none => sp_bad S 3
def op_comes (S : sp_S) (q v : Int32) : Int32 × sp_S :=
  if ¬ sp_out q 0 7 = 0 ∨ ¬ sp_out v 0 1 = 0 then sp_bad S 0
  else sp_opt S (sp_first (fun k => decide (sp_bit ((sp_go (S.1 0).1 (S.1 0).2 k).1 2) q = v)) 201 0)
def op_wise (S : sp_S) : Int32 × sp_S :=
  sp_opt S (sp_first (fun k => decide (sp_trueOnes ((sp_go (S.1 0).1 (S.1 0).2 k).1 2) ((sp_go (S.1 0).1 (S.1 0).2 k).1 1) = 255)) 201 0)
def op_errs (S : sp_S) (x : Int32) : Int32 × sp_S :=
  if sp_hz x (S.1 0).2 = 0 then sp_bad S 0
  else sp_opt S (sp_first (fun k => decide ((S.1 0).1.2 x.toNatClampNeg 3 < (sp_go (S.1 0).1 (S.1 0).2 k).2 x.toNatClampNeg 3)) 200 1)
