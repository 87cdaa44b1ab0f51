/-! MORE OPS: what is best, tape, images, counts -/
def sp_us (x k : Int32) : Int32 := (x.toUInt32 >>> (k.toUInt32 &&& Int32.toUInt32 31)).toInt32
def sp_bc1 (x : Int32) : Int32 := x - (sp_us x 1 &&& 1431655765)
def sp_bc2 (x : Int32) : Int32 := (x &&& 858993459) + (sp_us x 2 &&& 858993459)
def sp_bc3 (x : Int32) : Int32 := (x + sp_us x 4) &&& 252645135
def sp_bc4 (x : Int32) : Int32 := x + sp_us x 8
def sp_bc5 (x : Int32) : Int32 := x + sp_us x 16
def sp_bc (x : Int32) : Int32 := sp_bc5 (sp_bc4 (sp_bc3 (sp_bc2 (sp_bc1 x)))) &&& 63
theorem hg_gt {a b : Nat} (ha : a ≤ 100000) (hb : b ≤ 100000) (h : nI a < nI b) : a < b := (nI_ltI (by omega) (by omega)).mp h
theorem hg_ngt {a b : Nat} (ha : a ≤ 100000) (hb : b ≤ 100000) (h : ¬ nI a < nI b) : b ≤ a := by
  rcases Nat.lt_or_ge a b with q | q
  · exact absurd (nI_lt q (by omega)) h
  · exact q
theorem sp_first_no {f : Nat → Bool} {m a : Nat} (h : f a = false) : sp_first f (m + 1) a = sp_first f m (a + 1) := by
  rw [sp_first, h]; rfl
theorem sp_first_yes {f : Nat → Bool} {m a : Nat} (h : f a = true) : sp_first f (m + 1) a = some a := by
  rw [sp_first, h]; rfl
def sp_scan (ok : Nat → Bool) (val : Nat → Int32) (b0 m0 : Int32) : Nat → Int32 × Int32
  | 0 => (b0, m0)
  | h + 1 => if ok h = true then (if (sp_scan ok val b0 m0 h).2 < val h then (nI h, val h) else sp_scan ok val b0 m0 h) else sp_scan ok val b0 m0 h
theorem sp_scan_no {ok : Nat → Bool} {val : Nat → Int32} {b0 m0 : Int32} {h : Nat} (c : ok h = false) : sp_scan ok val b0 m0 (h + 1) = sp_scan ok val b0 m0 h := by
  rw [sp_scan, c]; rfl
theorem sp_scan_lt {ok : Nat → Bool} {val : Nat → Int32} {b0 m0 : Int32} {h : Nat} (c : ok h = true) (d : (sp_scan ok val b0 m0 h).2 < val h) : sp_scan ok val b0 m0 (h + 1) = (nI h, val h) := by
  rw [sp_scan, c, if_pos rfl, if_pos d]
theorem sp_scan_ge {ok : Nat → Bool} {val : Nat → Int32} {b0 m0 : Int32} {h : Nat} (c : ok h = true) (d : ¬ (sp_scan ok val b0 m0 h).2 < val h) : sp_scan ok val b0 m0 (h + 1) = sp_scan ok val b0 m0 h := by
  rw [sp_scan, c, if_pos rfl, if_neg d]
def sp_scanL (val : Nat → Int32) (b0 m0 : Int32) : Nat → Int32 × Int32
  | 0 => (b0, m0)
  | h + 1 => if val h < (sp_scanL val b0 m0 h).2 then (nI h, val h) else sp_scanL val b0 m0 h
def sp_hatF (C : sp_C) (x k : Nat) (v : Int32) : sp_C := (C.1, va_up C.2 x (va_up (C.2 x) k v))
def sp_wiseN (C : sp_C) (n N : Nat) : Int32 := sp_bc (sp_trueOnes ((sp_go C n N).1 2) ((sp_go C n N).1 1))
def sp_liftV (C : sp_C) (n N : Nat) (h : Nat) : Int32 := sp_wiseN (sp_hatF C h 5 0) n N
def sp_liftO (C : sp_C) (h : Nat) : Bool := decide (¬ C.2 h 5 = 0)
def sp_kindV (C : sp_C) (n N x : Nat) (k : Nat) : Int32 := (sp_go (sp_hatF C x 0 (nI k)) n N).2 x 2
def sp_viewV (C : sp_C) (n N x : Nat) (k : Nat) : Int32 := sp_wiseN (sp_hatF C x 1 (nI k)) n N
def sp_revV (C : sp_C) (n N : Nat) (q : Nat) : Int32 := sp_sum (sp_go (va_up C.1 1 (C.1 1 ^^^ ((1 : Int32) <<< (nI q &&& 31))), C.2) n N).2 3 n
def sp_tt : Nat → Bool := fun _ => true
def sp_orN (S : sp_S) (b : Int32) : Int32 × sp_S := if b < 0 then sp_bad S 3 else (b, S)
def op_lift (S : sp_S) (N : Int32) : Int32 × sp_S :=
  if ¬ sp_out N 1 60 = 0 then sp_bad S 0
  else sp_orN S (sp_scan (sp_liftO (S.1 0).1) (sp_liftV (S.1 0).1 (S.1 0).2 N.toNatClampNeg) (-1) (-1) (S.1 0).2).1
def op_kind (S : sp_S) (x N : Int32) : Int32 × sp_S :=
  if sp_hz x (S.1 0).2 = 0 ∨ ¬ sp_out N 1 60 = 0 then sp_bad S 0
  else ((sp_scan sp_tt (sp_kindV (S.1 0).1 (S.1 0).2 N.toNatClampNeg x.toNatClampNeg) 0 (-1) 6).1, S)
def op_view (S : sp_S) (x N : Int32) : Int32 × sp_S :=
  if sp_hz x (S.1 0).2 = 0 ∨ ¬ sp_out N 1 32 = 0 then sp_bad S 0
  else ((sp_scan sp_tt (sp_viewV (S.1 0).1 (S.1 0).2 N.toNatClampNeg x.toNatClampNeg) 0 (-1) 256).1, S)
def op_faith (S : sp_S) (x N v : Int32) : Int32 × sp_S :=
  if sp_hz x (S.1 0).2 = 0 ∨ ¬ sp_out N 1 60 = 0 ∨ ¬ sp_out v 0 9999 = 0 then sp_bad S 0
  else sp_opt S (sp_first (fun f => decide (¬ (sp_go (sp_hatF (S.1 0).1 x.toNatClampNeg 4 (nI f)) (S.1 0).2 N.toNatClampNeg).2 x.toNatClampNeg 2 < v)) 100 0)
def sp_verd (C : sp_C) (n : Nat) : Int32 := sp_verdict (sp_yes C.2 (sp_q (C.1 0)) (C.1 2) (C.1 0) n) (sp_no C.2 (sp_q (C.1 0)) (C.1 2) (C.1 0) n) (C.1 2) (sp_q (C.1 0))
def op_swing (S : sp_S) : Int32 × sp_S :=
  sp_opt S (sp_first (fun h => decide (¬ (S.1 0).1.2 h 5 = 0 ∧ ¬ sp_verd (sp_hatF (S.1 0).1 h 5 0) (S.1 0).2 = sp_verd (S.1 0).1 (S.1 0).2)) (S.1 0).2 0)
def op_revise (S : sp_S) (N : Int32) : Int32 × sp_S :=
  if ¬ sp_out N 1 60 = 0 then sp_bad S 0
  else ((sp_scanL (sp_revV (S.1 0).1 (S.1 0).2 N.toNatClampNeg) 0 99991 8).1, S)
def sp_bestI (cr : Nat → Int32) : Nat → Nat
  | 0 => 0
  | h + 1 => if h = 0 then 0 else if cr (sp_bestI cr h) < cr h then h else sp_bestI cr h
theorem sp_bestI_lt (cr : Nat → Int32) : ∀ n, 0 < n → sp_bestI cr n < n := by
  intro n
  induction n with
  | zero => intro h; omega
  | succ n ih =>
    intro _
    rw [sp_bestI]
    split
    · omega
    · split
      · omega
      · have := ih (by omega); omega
def sp_cred (C : sp_C) (h : Nat) : Int32 := C.2 h 2 - C.2 h 3
def op_best (S : sp_S) (N : Int32) : Int32 × sp_S :=
  if ¬ sp_out N 0 200 = 0 then sp_bad S 0
  else if (S.1 0).2 = 0 then sp_bad S 3
  else (nI (sp_bestI (sp_cred (sp_go (S.1 0).1 (S.1 0).2 N.toNatClampNeg)) (S.1 0).2), S)
def sp_byte (b : Int32) (i : Nat) : Int32 := sp_us b (8 * nI i) &&& 255
def sp_push (S : sp_S) (v : Int32) : sp_S := sp_sR (sp_sR S 2 (va_up (S.2.1 2) (S.2.1 0 1).toNatClampNeg v)) 0 (va_up (S.2.1 0) 1 (S.2.1 0 1 + 1))
def sp_feed (b : Int32) : Nat → sp_S → sp_S
  | 0, S => S
  | i + 1, S => sp_feed b i (sp_push S (sp_byte b i))
def op_feed (S : sp_S) (b N : Int32) : Int32 × sp_S :=
  if ¬ sp_out N 1 4 = 0 then sp_bad S 0
  else if ¬ S.2.1 0 1 ≤ 120 - N then sp_bad S 1
  else (S.2.1 0 1 + N, sp_feed b N.toNatClampNeg S)
def op_wipe (S : sp_S) : Int32 × sp_S := (S.2.1 0 1, sp_sR S 0 (va_up (S.2.1 0) 1 0))
def op_image (S : sp_S) : Int32 × sp_S := (1, (va_up S.1 1 (S.1 0), va_up S.2.1 0 (va_up (S.2.1 0) 0 1), S.2.2))
def op_undo (S : sp_S) : Int32 × sp_S := if S.2.1 0 0 = 0 then sp_bad S 3 else (nI (S.1 1).2, sp_sC S (S.1 1).1 (S.1 1).2)
def op_tear (S : sp_S) : Int32 × sp_S := (if S.2.1 0 0 = 0 then 0 else 1, sp_sR S 0 (va_up (S.2.1 0) 0 0))
def op_count (S : sp_S) (w : Int32) : Int32 × sp_S :=
  if w = 0 then (nI (S.1 0).2, S) else if w = 1 then (S.2.1 0 1, S) else if w = 2 then (sp_sum (S.1 0).1.2 2 (S.1 0).2, S) else if w = 3 then (sp_sum (S.1 0).1.2 3 (S.1 0).2, S) else sp_bad S 0
def sp_fsum (f : Nat → Int32) : Nat → Int32
  | 0 => 0
  | k + 1 => sp_fsum f k + f k
theorem sp_fsum_ag {f g : Nat → Int32} : ∀ n, (∀ k, k < n → f k = g k) → sp_fsum f n = sp_fsum g n := by
  intro n
  induction n with
  | zero => intro _; rfl
  | succ n ih => intro h; rw [sp_fsum, sp_fsum, ih (fun k hk => h k (by omega)), h n (by omega)]
def op_status (S : sp_S) (w : Int32) : Int32 × sp_S :=
  if ¬ sp_out w (-1) 6 = 0 then sp_bad S 0 else if w < 0 then (sp_fsum (S.2.1 1) 7, S) else (S.2.1 1 w.toNatClampNeg, S)
/-- what is to hold of every state that a run comes to -/
def vs_H (h : Nat → Int32) : Prop := (∃ k, k ≤ 5 ∧ h 0 = nI k) ∧ (∃ k, k ≤ 255 ∧ h 1 = nI k) ∧ (∃ k, k ≤ 9999 ∧ h 2 = nI k) ∧ (∃ k, k ≤ 9999 ∧ h 3 = nI k) ∧ (∃ k, k ≤ 99 ∧ h 4 = nI k) ∧ ∃ k, k ≤ 1 ∧ h 5 = nI k
def vs_C (B : Nat) (C : sp_C) (n : Nat) : Prop := n ≤ 10 ∧ C.1 3 = nI n ∧ (∃ k, k ≤ B ∧ C.1 0 = nI k) ∧ (∃ k, k ≤ 255 ∧ C.1 1 = nI k) ∧ (∃ k, k ≤ 255 ∧ C.1 2 = nI k) ∧ ∀ h, h < n → vs_H (C.2 h)
def vs_S (S : sp_S) : Prop := vs_C 99999 (S.1 0).1 (S.1 0).2 ∧ (S.2.1 0 0 = 1 → vs_C 99999 (S.1 1).1 (S.1 1).2) ∧ (S.2.1 0 0 = 0 ∨ S.2.1 0 0 = 1) ∧ (∃ k, k ≤ 120 ∧ S.2.1 0 1 = nI k) ∧
  ∀ s, s < 4 → (S.2.1 3 s = 0 ∨ S.2.1 3 s = 8 ∨ S.2.1 3 s = 16 ∨ S.2.1 3 s = 64) ∧ ∃ k, k ≤ 40 ∧ S.2.1 4 s = nI k
/-- a row of the class's state that isn't a congress has changed -/
theorem cw_C.row {σ : hg_Mem} {S : sp_S} (h : cw_C σ S) (k : Nat) (v : Int32) (hk : k = 0 ∨ k = 1) : cw_C (if k = 0 then hg_sI σ 0 3 v else hg_sI σ 7 1 v) (sp_sR S 0 (va_up (S.2.1 0) k v)) ∨ k = 0 := by
  rcases hk with rfl | rfl
  · exact Or.inr rfl
  · refine Or.inl ?_
    obtain ⟨a, b, c, d, e, g, i⟩ := h
    rw [if_neg (by decide)]
    have ne : ∀ j, j ≠ 7 → (hg_sI σ 7 1 v).1 j = σ.1 j := fun j hj => by rw [hg_sI_eq, hg_sH_ne _ _ hj]
    refine ⟨a.keep (fun k _ => by rw [ne _ (by omega)]) (fun x _ k _ => by rw [ne _ (by omega)]), fun hk => (b ?_).keep (fun k _ => by rw [ne _ (by omega)]) (fun x _ k _ => by rw [ne _ (by omega)]), ?_, ?_, fun k hk => ?_, fun k hk => ?_, fun s hs => ?_⟩
    · exact hk
    · rw [ne _ (by omega)]; exact c
    · rw [hg_sI_eq, hg_sH_at, va_upE]; rfl
    · rw [ne _ (by omega)]; exact e k hk
    · rw [ne _ (by omega)]; exact g k hk
    · rw [ne _ (by omega)]; exact i s hs
theorem cw_C.len {σ : hg_Mem} {S : sp_S} (h : cw_C σ S) (v : Int32) : cw_C (hg_sI σ 7 1 v) (sp_sR S 0 (va_up (S.2.1 0) 1 v)) ∧ cw_Fr σ (hg_sI σ 7 1 v) := by
  refine ⟨?_, fun i hi => ⟨by rw [hg_sI_eq, hg_sH_ne _ _ (by omega)], rfl⟩⟩
  rcases h.row 1 v (Or.inr rfl) with q | q
  · rw [if_neg (by decide)] at q; exact q
  · exact absurd q (by decide)
theorem cw_C.push {σ : hg_Mem} {S : sp_S} (h : cw_C σ S) {k : Nat} (hk : k < 120) (hs : S.2.1 0 1 = nI k) (v : Int32) : cw_C (hg_sI (hg_sI σ 8 k v) 7 1 (nI (k + 1))) (sp_push S v) ∧ cw_Fr σ (hg_sI (hg_sI σ 8 k v) 7 1 (nI (k + 1))) := by
  obtain ⟨a, b, c, d, e, g, i⟩ := h
  have ne : ∀ j, j ≠ 7 → j ≠ 8 → (hg_sI (hg_sI σ 8 k v) 7 1 (nI (k + 1))).1 j = σ.1 j := fun j h1 h2 => by rw [hg_sI_eq, hg_sH_ne _ _ h1, hg_sI_eq, hg_sH_ne _ _ h2]
  refine ⟨⟨a.keep (fun k _ => by rw [ne _ (by omega) (by omega)]) (fun x _ k _ => by rw [ne _ (by omega) (by omega)]), fun hk => (b ?_).keep (fun k _ => by rw [ne _ (by omega) (by omega)]) (fun x _ k _ => by rw [ne _ (by omega) (by omega)]), ?_, ?_, fun j hj => ?_, fun j hj => ?_, fun s hs => ?_⟩, fun j hj => ⟨ne j (by omega) (by omega), rfl⟩⟩
  · exact hk
  · rw [ne _ (by omega) (by omega)]; exact c
  · rw [hg_sI_eq, hg_sH_at, va_upE]
    show _ = va_up (S.2.1 0) 1 (S.2.1 0 1 + 1) 1
    rw [va_upE, hs, nI_1]
  · rw [ne _ (by omega) (by omega)]; exact e j hj
  · rw [hg_sI_eq, hg_sH_ne _ _ (show (8 : Nat) ≠ 7 by decide), hg_sI_eq, hg_sH_at]
    show va_up (σ.1 8) k v j = va_up (S.2.1 2) (S.2.1 0 1).toNatClampNeg v j
    rw [hs, nI_clamp (by omega)]
    by_cases q : j = k
    · rw [q, va_upE, va_upE]
    · rw [va_upN _ _ q, va_upN _ _ q]; exact g j hj
  · rw [ne _ (by omega) (by omega)]; exact i s hs
theorem cw_C.kept {σ : hg_Mem} {S : sp_S} (h : cw_C σ S) : cw_C (hg_sI σ 0 3 0) (sp_sR S 0 (va_up (S.2.1 0) 0 0)) ∧ cw_Fr σ (hg_sI σ 0 3 0) := by
  obtain ⟨a, b, c, d, e, g, i⟩ := h
  have ne : ∀ j, j ≠ 0 → (hg_sI σ 0 3 0).1 j = σ.1 j := fun j hj => by rw [hg_sI_eq, hg_sH_ne _ _ hj]
  refine ⟨⟨a.keep (fun k _ => by rw [ne _ (by omega)]) (fun x _ k _ => by rw [ne _ (by omega)]), fun hk => ?_, ?_, ?_, fun k hk => ?_, fun k hk => ?_, fun s hs => ?_⟩, fun j hj => ⟨ne j (by omega), rfl⟩⟩
  · exact absurd hk (by show ¬ va_up (S.2.1 0) 0 0 0 = 1; rw [va_upE]; decide)
  · rw [hg_sI_eq, hg_sH_at, va_upE]; rfl
  · rw [ne _ (by omega)]; exact d
  · rw [ne _ (by omega)]; exact e k hk
  · rw [ne _ (by omega)]; exact g k hk
  · rw [ne _ (by omega)]; exact i s hs
theorem cw_C.image {σ τ : hg_Mem} {S : sp_S} (h : cw_C σ S) (hF : sp_Fr σ τ 3) (hR : sp_Rep τ 3 (S.1 0).1 (S.1 0).2) : cw_C (hg_sI τ 0 3 1) (op_image S).2 ∧ cw_Fr σ (hg_sI τ 0 3 1) := by
  obtain ⟨a, b, c, d, e, g, i⟩ := h
  have ne : ∀ j, j ≠ 0 → (hg_sI τ 0 3 1).1 j = τ.1 j := fun j hj => by rw [hg_sI_eq, hg_sH_ne _ _ hj]
  have ns : ∀ j, j ≠ 0 → j ≠ 3 → (j < 40 ∨ 50 ≤ j) → (hg_sI τ 0 3 1).1 j = σ.1 j := fun j h1 h2 h3 => by rw [ne j h1]; exact hF.2 j h2 (by omega)
  refine ⟨⟨a.keep (fun k _ => by rw [ns _ (by omega) (by omega) (by omega)]) (fun x _ k _ => by rw [ns _ (by omega) (by omega) (by omega)]), fun _ => ?_, ?_, ?_, fun k hk => ?_, fun k hk => ?_, fun s hs => ?_⟩, fun j hj => ⟨ns j (by omega) (by omega) (by omega), by rw [hg_sI_eq, hg_sH_2, hF.1]⟩⟩
  · exact hR.keep (fun k _ => by rw [ne _ (by omega)]) (fun x _ k _ => by rw [ne _ (by omega)])
  · rw [hg_sI_eq, hg_sH_at, va_upE]; rfl
  · rw [ns _ (by omega) (by omega) (by omega)]; exact d
  · rw [ns _ (by omega) (by omega) (by omega)]; exact e k hk
  · rw [ns _ (by omega) (by omega) (by omega)]; exact g k hk
  · rw [ns _ (by omega) (by omega) (by omega), hg_sI_eq, hg_sH_2, hF.1]; exact i s hs
