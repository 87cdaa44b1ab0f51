/-! SHEETS -/
def sp_may (b : Int32) : Int32 := if b = 0 ∨ b = 8 ∨ b = 16 ∨ b = 64 then 1 else 0
def sp_cut (b : Int32) (v : Int64) : Int64 := if b = 8 then v.toInt32.toInt8.toInt32.toInt64 else if b = 16 then v.toInt32.toInt16.toInt32.toInt64 else v
def sp_run (len f n : Int32) : Int32 := if 0 ≤ f ∧ 0 ≤ n ∧ n ≤ len ∧ f ≤ len - n then 1 else 0
def op_sheet (S : sp_S) (s b n : Int32) : Int32 × sp_S :=
  if ¬ sp_out s 0 3 = 0 ∨ sp_may b = 0 then sp_bad S 0
  else if n < 0 then sp_bad S 6
  else if 40 < n then sp_bad S 0
  else (if b = 0 then 0 else n, sp_sL (sp_sR (sp_sR S 3 (va_up (S.2.1 3) s.toNatClampNeg b)) 4 (va_up (S.2.1 4) s.toNatClampNeg (if b = 0 then 0 else n))) s.toNatClampNeg (fun _ => 0))
def sp_badL (S : sp_S) (f : Nat) : Int64 × sp_S := ((sp_bad S f).1.toInt64, (sp_bad S f).2)
def op_write (S : sp_S) (s i : Int32) (v : Int64) : Int64 × sp_S :=
  if ¬ sp_out s 0 3 = 0 then sp_badL S 0
  else if S.2.1 3 s.toNatClampNeg = 0 then sp_badL S 5
  else if ¬ sp_out i 0 (S.2.1 4 s.toNatClampNeg - 1) = 0 then sp_badL S 0
  else (S.2.2 s.toNatClampNeg i.toNatClampNeg, sp_sL S s.toNatClampNeg (va_up (S.2.2 s.toNatClampNeg) i.toNatClampNeg (sp_cut (S.2.1 3 s.toNatClampNeg) v)))
def op_copy (S : sp_S) (s f t g n : Int32) : Int32 × sp_S :=
  if ¬ sp_out s 0 3 = 0 ∨ ¬ sp_out t 0 3 = 0 then sp_bad S 0
  else if S.2.1 3 s.toNatClampNeg = 0 ∨ S.2.1 3 t.toNatClampNeg = 0 then sp_bad S 5
  else if ¬ S.2.1 3 s.toNatClampNeg = S.2.1 3 t.toNatClampNeg then sp_bad S 2
  else if sp_run (S.2.1 4 s.toNatClampNeg) f n = 0 ∨ sp_run (S.2.1 4 t.toNatClampNeg) g n = 0 then sp_bad S 0
  else (n, sp_sL S t.toNatClampNeg (va_cpy (S.2.2 s.toNatClampNeg) (S.2.2 t.toNatClampNeg) f.toNatClampNeg g.toNatClampNeg n.toNatClampNeg))
def sp_lays (c : Nat → Int64) (C : sp_C) : Nat → Int32 × sp_C
  | 0 => (0, C)
  | k + 1 => if 0 ≤ c k ∧ c k ≤ 255 then ((sp_lays c C k).1 + 1, sp_hatF (sp_lays c C k).2 k 1 (c k).toInt32) else sp_lays c C k
def op_lays (S : sp_S) (s : Int32) : Int32 × sp_S :=
  if ¬ sp_out s 0 3 = 0 then sp_bad S 0
  else if S.2.1 3 s.toNatClampNeg = 0 then sp_bad S 5
  else ((sp_lays (S.2.2 s.toNatClampNeg) (S.1 0).1 (min (S.2.1 4 s.toNatClampNeg).toNatClampNeg (S.1 0).2)).1, sp_sC S (sp_lays (S.2.2 s.toNatClampNeg) (S.1 0).1 (min (S.2.1 4 s.toNatClampNeg).toNatClampNeg (S.1 0).2)).2 (S.1 0).2)
def sp_word (C : sp_C) (n x k : Nat) : Int32 := sp_says ((sp_go C n k).2 x) (sp_q ((sp_go C n k).1 0)) ((sp_go C n k).1 2)
def sp_book (C : sp_C) (n x : Nat) (b : Int32) (c : Nat → Int64) (m : Nat) : Nat → Int64 := fun k => if k < m then sp_cut b (sp_word C n x k).toInt64 else c k
def op_book (S : sp_S) (s x : Int32) : Int32 × sp_S :=
  if ¬ sp_out s 0 3 = 0 then sp_bad S 0
  else if S.2.1 3 s.toNatClampNeg = 0 then sp_bad S 5
  else if sp_hz x (S.1 0).2 = 0 then sp_bad S 0
  else (S.2.1 4 s.toNatClampNeg, sp_sL S s.toNatClampNeg (sp_book (S.1 0).1 (S.1 0).2 x.toNatClampNeg (S.2.1 3 s.toNatClampNeg) (S.2.2 s.toNatClampNeg) (S.2.1 4 s.toNatClampNeg).toNatClampNeg))
def sp_just (c : Nat → Int64) (C : sp_C) (n x : Nat) : Nat → Nat → Bool
  | 0, _ => true
  | m + 1, a => if (sp_word C n x a).toInt64 = c a then sp_just c C n x m (a + 1) else false
def sp_cnt (f : Nat → Bool) : Nat → Int32
  | 0 => 0
  | k + 1 => if f k = true then sp_cnt f k + 1 else sp_cnt f k
def sp_pair (c : Nat → Int64) (C : sp_C) (n x m : Nat) (i : Nat) : Bool := sp_just c (sp_hatF (sp_hatF C x 0 (nI (i / 256))) x 1 (nI (i % 256))) n x m 0
def op_read (S : sp_S) (s x : Int32) : Int32 × sp_S :=
  if ¬ sp_out s 0 3 = 0 then sp_bad S 0
  else if S.2.1 3 s.toNatClampNeg = 0 then sp_bad S 5
  else if sp_hz x (S.1 0).2 = 0 then sp_bad S 0
  else (sp_cnt (sp_pair (S.2.2 s.toNatClampNeg) (S.1 0).1 (S.1 0).2 x.toNatClampNeg (S.2.1 4 s.toNatClampNeg).toNatClampNeg) 1536, S)
def cw_PL (σ : hg_Mem) (w : Int64 × sp_S) (r : Int64) (τ : hg_Mem) : Prop := r = w.1 ∧ cw_C τ w.2 ∧ cw_Fr σ τ
theorem cw_C.findL {σ : hg_Mem} {S : sp_S} (h : cw_C σ S) {f : Nat} (hf : f < 7) {w : Int32} (hw : w = -1000000001 - nI f) : cw_PL σ (sp_badL S f) w.toInt64 (hg_sI σ 11 f (σ.1 11 f + 1)) := by
  obtain ⟨a, b⟩ := h.find hf hw
  exact ⟨by rw [a]; rfl, b⟩
/-- a sheet's numbers have changed -/
def hg_sM (σ : hg_Mem) (i : Nat) (g : Nat → Int64) : hg_Mem := (σ.1, va_up σ.2 i g)
theorem hg_sL_eq (σ : hg_Mem) (i k : Nat) (v : Int64) : hg_sL σ i k v = hg_sM σ i (va_up (σ.2 i) k v) := rfl
theorem hg_sM_at (σ : hg_Mem) (i : Nat) (g : Nat → Int64) : (hg_sM σ i g).2 i = g := by simp [hg_sM, va_up]
theorem hg_sM_ne (σ : hg_Mem) {i j : Nat} (g : Nat → Int64) (h : j ≠ i) : (hg_sM σ i g).2 j = σ.2 j := by simp [hg_sM, va_up, h]
theorem cw_C.cells {σ τ : hg_Mem} {S : sp_S} (h : cw_C σ S) {s : Nat} (hs : s < 4) (g : Nat → Int64) (h1 : τ.1 = σ.1) (h2 : ∀ j, j ≠ 16 + s → τ.2 j = σ.2 j) (h3 : ∀ k, k < 40 → τ.2 (16 + s) k = g k) : cw_C τ (sp_sL S s g) ∧ cw_Fr σ τ := by
  obtain ⟨a, b, c, d, e, f, i⟩ := h
  refine ⟨⟨a.keep (fun k _ => by rw [h1]) (fun x _ k _ => by rw [h1]), fun hk => (b hk).keep (fun k _ => by rw [h1]) (fun x _ k _ => by rw [h1]), by rw [h1]; exact c, by rw [h1]; exact d, fun k hk => by rw [h1]; exact e k hk, fun k hk => by rw [h1]; exact f k hk, fun t ht => ⟨by rw [h1]; exact (i t ht).1, by rw [h1]; exact (i t ht).2.1, fun k hk => ?_⟩⟩, fun j hj => ⟨by rw [h1], h2 j (by omega)⟩⟩
  show τ.2 (16 + t) k = va_up S.2.2 s g t k
  by_cases q : t = s
  · rw [q, va_upE]; exact h3 k hk
  · rw [va_upN _ _ q, h2 _ (by omega)]; exact (i t ht).2.2 k hk
theorem cw_C.sheet {σ τ : hg_Mem} {S : sp_S} (h : cw_C σ S) {s : Nat} (hs : s < 4) (b n : Int32) (h1 : τ.1 = va_up σ.1 (12 + s) (va_up (va_up (σ.1 (12 + s)) 1 b) 2 n)) (h2 : ∀ j, j ≠ 16 + s → τ.2 j = σ.2 j) (h3 : ∀ k, k < 40 → τ.2 (16 + s) k = 0) : cw_C τ (sp_sL (sp_sR (sp_sR S 3 (va_up (S.2.1 3) s b)) 4 (va_up (S.2.1 4) s n)) s (fun _ => 0)) ∧ cw_Fr σ τ := by
  have ne : ∀ j, j ≠ 12 + s → τ.1 j = σ.1 j := fun j hj => by rw [h1, va_upN _ _ hj]
  obtain ⟨a, b', c, d, e, f, i⟩ := h
  refine ⟨⟨a.keep (fun k _ => by rw [ne _ (by omega)]) (fun x _ k _ => by rw [ne _ (by omega)]), fun hk => (b' hk).keep (fun k _ => by rw [ne _ (by omega)]) (fun x _ k _ => by rw [ne _ (by omega)]), ?_, ?_, fun k hk => ?_, fun k hk => ?_, fun t ht => ⟨?_, ?_, fun k hk => ?_⟩⟩, fun j hj => ⟨ne j (by omega), h2 j (by omega)⟩⟩
  · rw [ne _ (by omega)]; exact c
  · rw [ne _ (by omega)]; exact d
  · rw [ne _ (by omega)]; exact e k hk
  · rw [ne _ (by omega)]; exact f k hk
  · show _ = va_up (va_up S.2.1 3 (va_up (S.2.1 3) s b)) 4 (va_up (S.2.1 4) s n) 3 t
    rw [va_upN _ _ (by decide), va_upE]
    by_cases q : t = s
    · rw [q, va_upE, h1, va_upE, va_upN _ _ (by decide), va_upE]
    · rw [va_upN _ _ q, ne _ (by omega)]; exact (i t ht).1
  · show _ = va_up (va_up S.2.1 3 (va_up (S.2.1 3) s b)) 4 (va_up (S.2.1 4) s n) 4 t
    rw [va_upE]
    by_cases q : t = s
    · rw [q, va_upE, h1, va_upE, va_upE]
    · rw [va_upN _ _ q, ne _ (by omega)]; exact (i t ht).2.1
  · show τ.2 (16 + t) k = va_up S.2.2 s (fun _ => 0) t k
    by_cases q : t = s
    · rw [q, va_upE]; exact h3 k hk
    · rw [va_upN _ _ q, h2 _ (by omega)]; exact (i t ht).2.2 k hk
section HGC
variable {E : hg_Wd} {p : Program} {l : Launch} {e : Env} {R : Room} {s : State} {m : MethodId} {args : Array Value} {below : List Frame} {meth : Method} {c : Code} {cc : ByteArray} {nL : Nat} {own : String} {ret : Option FieldType} {Q : State → Prop} {σ : hg_Mem} {pc pc' : Nat} {st : List Value} {lv : List (Option Value)}
theorem hg_cpy (cx : hg_Cx E p s m args meth c cc nL own ret) {idx a b x y n : Nat} (ha1 : 16 ≤ a) (ha2 : a < 20) (hb1 : 16 ≤ b) (hb2 : b < 20) (hx : x + n ≤ 40) (hy : y + n ≤ 40) (hw : Cond.methodLink own idx arraycopyName ∈ hg_U ∧ Cond.native arraycopyName ∈ hg_U ∧ Cond.static arraycopyName ∈ hg_U ∧ Cond.initialized "java/lang/System" ∈ hg_U) (hfr : 1 ≤ R.frames) (hlo : (st.map fun v => v.category).sum + (nativeFrameWords "java/lang/System" "arraycopy" 5 + 11) ≤ R.locals) (hd : decode cc pc = .ok (.invokestatic idx, 3)) (hp : pc + 3 = pc')
    (kk : hg_G E p l e R s m args below meth c nL Q (hg_sM σ b (va_cpy (σ.2 a) (σ.2 b) x y n)) pc' lv st) : hg_G E p l e R s m args below meth c nL Q σ pc lv (.int (nI n) :: .int (nI y) :: .ref (hg_ad E b) :: .int (nI x) :: .ref (hg_ad E a) :: st) := by
  subst hp; intro H locs ls hP hS hL
  refine va_copyl cx.1 cx.2.1 (by rw [cx.2.2.1, hL.1]) cx.2.2.2.1 (cx.2.2.2.2.1 _ hw.1) (cx.2.2.2.2.1 _ hw.2.1) (cx.2.2.2.2.1 _ hw.2.2.1) (cx.2.2.2.2.1 _ hw.2.2.2) cx.2.2.2.2.2.1.1 hP (hg_wl_D cx.2.2.2.2.2.1.2.1 σ) hS a b 1 1 ((hg_wl_at E σ (by omega)).trans (by rw [hg_ceNum E _ _ ha1 ha2])) ((hg_wl_at E σ (by omega)).trans (by rw [hg_ceNum E _ _ hb1 hb2])) rfl rfl rfl (nI_pos (by omega)) (nI_pos (by omega)) (nI_pos (by omega)) (by rw [nI_clamp (by omega), nI_clamp (by omega)]; exact hx) (by rw [nI_clamp (by omega), nI_clamp (by omega)]; exact hy) (fun _ _ => rfl) hfr hlo hd (fun H1 locs1 hP1 hD1 hS1 => kk H1 locs1 ls ?_ hS1 hL)
  rw [nI_clamp (by omega), nI_clamp (by omega), nI_clamp (by omega)] at hP1
  rw [hg_wl_set E σ (hg_sM σ b (va_cpy (σ.2 a) (σ.2 b) x y n)) b (by rw [hg_ceNum E _ _ hb1 hb2, hg_sM_at]) (fun j hj => rfl) (fun j hj => hg_sM_ne σ _ hj)] at hP1
  exact hP1
theorem hg_alenN (cx : hg_Cx E p s m args meth c cc nL own ret) {i : Nat} (h1 : 16 ≤ i) (h2 : i < 20) (hd : decode cc pc = .ok (.arraylength, 1)) (hp : pc + 1 = pc') (kk : hg_G E p l e R s m args below meth c nL Q σ pc' lv (.int (nI 40) :: st)) : hg_G E p l e R s m args below meth c nL Q σ pc lv (.ref (hg_ad E i) :: st) :=
  hg_alen (t0 := 1) (x := (40, .inr (.inl (σ.2 i)))) (ty := .long) cx (by omega) (hg_ceNum E _ _ h1 h2) rfl rfl hd hp kk
end HGC
theorem ly_X5_220 : Cond.methodLink RX5 220 arraycopyName ∈ hg_U ∧ Cond.native arraycopyName ∈ hg_U ∧ Cond.static arraycopyName ∈ hg_U ∧ Cond.initialized "java/lang/System" ∈ hg_U := ⟨(hg_Uin (List.mem_of_getElem? (i := 658) (by decide +kernel)) (by decide +kernel)), (hg_Uin (List.mem_of_getElem? (i := 660) (by decide +kernel)) (by decide +kernel)), (hg_Uin (List.mem_of_getElem? (i := 659) (by decide +kernel)) (by decide +kernel)), (hg_Uin (List.mem_of_getElem? (i := 71) (by decide +kernel)) (by decide +kernel))⟩
