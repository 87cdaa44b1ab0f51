/-! MORE ROWS: a whole row of numbers set, seats, sheets, arrays by Nat places, Math.min and max; what a session is -/
def hg_sH (σ : hg_Mem) (i : Nat) (f : Nat → Int32) : hg_Mem := (va_up σ.1 i f, σ.2)
theorem hg_sI_eq (σ : hg_Mem) (i k : Nat) (v : Int32) : hg_sI σ i k v = hg_sH σ i (va_up (σ.1 i) k v) := rfl
theorem hg_sH_at (σ : hg_Mem) (i : Nat) (f : Nat → Int32) : (hg_sH σ i f).1 i = f := by simp [hg_sH, va_up]
theorem hg_sH_ne (σ : hg_Mem) {i j : Nat} (f : Nat → Int32) (h : j ≠ i) : (hg_sH σ i f).1 j = σ.1 j := by simp [hg_sH, va_up, h]
theorem hg_sH_2 (σ : hg_Mem) (i : Nat) (f : Nat → Int32) : (hg_sH σ i f).2 = σ.2 := rfl
theorem hg_sH_sH (σ : hg_Mem) (i : Nat) (f g : Nat → Int32) : hg_sH (hg_sH σ i f) i g = hg_sH σ i g := by
  unfold hg_sH
  refine congrArg (fun x => (x, σ.2)) (funext fun j => ?_)
  by_cases hj : j = i <;> simp [va_up, hj]
theorem hg_sH_self (σ : hg_Mem) (i : Nat) : hg_sH σ i (σ.1 i) = σ := by
  unfold hg_sH
  refine Prod.ext (funext fun j => ?_) rfl
  by_cases hj : j = i <;> simp [va_up, hj]
theorem va_upE {α : Type} (f : Nat → α) (k : Nat) (v : α) : va_up f k v k = v := by simp [va_up]
theorem va_upN {α : Type} (f : Nat → α) {k j : Nat} (v : α) (h : j ≠ k) : va_up f k v j = f j := by simp [va_up, h]
section HGM
variable {E : hg_Wd} {p : Program} {l : Launch} {e : Env} {R : Room} {s : State} {m : MethodId} {args : Array Value} {below : List Frame} {meth : Method} {c : Code} {cc : ByteArray} {nL : Nat} {own : String} {ret : Option FieldType} {Q : State → Prop} {σ : hg_Mem} {pc pc' : Nat} {st : List Value} {lv : List (Option Value)}
theorem hg_seat (cx : hg_Cx E p s m args meth c cc nL own ret) {t j : Nat} (h1 : 1 ≤ t) (h2 : t < 4) (hj : j < 10) (hd : decode cc pc = .ok (.aaload, 1)) (hp : pc + 1 = pc') (kk : hg_G E p l e R s m args below meth c nL Q σ pc' lv (.ref (hg_ad E (10 + 10 * t + j)) :: st)) : hg_G E p l e R s m args below meth c nL Q σ pc lv (.int (nI j) :: .ref (hg_ad E (t + 3)) :: st) :=
  hg_aald (t0 := 2) cx (by omega) (hg_ceSeat E _ _ h1 h2) rfl (vp_in_nI hj (by decide)) (by rw [nI_clamp (by omega)]) hd hp kk
theorem hg_shat (cx : hg_Cx E p s m args meth c cc nL own ret) {j : Nat} (hj : j < 4) (hd : decode cc pc = .ok (.aaload, 1)) (hp : pc + 1 = pc') (kk : hg_G E p l e R s m args below meth c nL Q σ pc' lv (.ref (hg_ad E (12 + j)) :: st)) : hg_G E p l e R s m args below meth c nL Q σ pc lv (.int (nI j) :: .ref (hg_ad E 10) :: st) :=
  hg_aald (t0 := 3) cx (by decide) (hg_ceS10 E _ _) rfl (vp_in_nI hj (by decide)) (by rw [nI_clamp (by omega)]) hd hp kk
theorem hg_iald2 (cx : hg_Cx E p s m args meth c cc nL own ret) {i n j : Nat} (hi : i < 60) (he : ∀ f g, hg_ce E i f g = .inl (hg_cA E 0, n, .inl f)) (hj : j < n) (hn : n < 1000) (hd : decode cc pc = .ok (.iaload, 1)) (hp : pc + 1 = pc') (kk : hg_G E p l e R s m args below meth c nL Q σ pc' lv (.int (σ.1 i j) :: st)) : hg_G E p l e R s m args below meth c nL Q σ pc lv (.int (nI j) :: .ref (hg_ad E i) :: st) :=
  hg_iald cx hi (he _ _) (vp_in_nI hj (by omega)) hd hp (by rw [nI_clamp (by omega)]; exact kk)
theorem hg_iast2 (cx : hg_Cx E p s m args meth c cc nL own ret) {i n j : Nat} {y : Int32} (hi : i < 60) (he : ∀ f g, hg_ce E i f g = .inl (hg_cA E 0, n, .inl f)) (hj : j < n) (hn : n < 1000) (hd : decode cc pc = .ok (.iastore, 1)) (hp : pc + 1 = pc') (kk : hg_G E p l e R s m args below meth c nL Q (hg_sI σ i j y) pc' lv st) : hg_G E p l e R s m args below meth c nL Q σ pc lv (.int y :: .int (nI j) :: .ref (hg_ad E i) :: st) :=
  hg_iast cx hi (he _ _) (vp_in_nI hj (by omega)) (he _ _) hd hp (by rw [nI_clamp (by omega)]; exact kk)
theorem hg_lald2 (cx : hg_Cx E p s m args meth c cc nL own ret) {i n j : Nat} (hi : i < 60) (he : ∀ f g, hg_ce E i f g = .inl (hg_cA E 1, n, .inr (.inl g))) (hj : j < n) (hn : n < 1000) (hd : decode cc pc = .ok (.laload, 1)) (hp : pc + 1 = pc') (kk : hg_G E p l e R s m args below meth c nL Q σ pc' lv (.long (σ.2 i j) :: st)) : hg_G E p l e R s m args below meth c nL Q σ pc lv (.int (nI j) :: .ref (hg_ad E i) :: st) :=
  hg_lald cx hi (he _ _) (vp_in_nI hj (by omega)) hd hp (by rw [nI_clamp (by omega)]; exact kk)
theorem hg_last2 (cx : hg_Cx E p s m args meth c cc nL own ret) {i n j : Nat} {y : Int64} (hi : i < 60) (he : ∀ f g, hg_ce E i f g = .inl (hg_cA E 1, n, .inr (.inl g))) (hj : j < n) (hn : n < 1000) (hd : decode cc pc = .ok (.lastore, 1)) (hp : pc + 1 = pc') (kk : hg_G E p l e R s m args below meth c nL Q (hg_sL σ i j y) pc' lv st) : hg_G E p l e R s m args below meth c nL Q σ pc lv (.long y :: .int (nI j) :: .ref (hg_ad E i) :: st) :=
  hg_last cx hi (he _ _) (vp_in_nI hj (by omega)) (he _ _) hd hp (by rw [nI_clamp (by omega)]; exact kk)
theorem hg_mmin (cx : hg_Cx E p s m args meth c cc nL own ret) {idx : Nat} {x y : Int32} (hlk : Cond.methodLink own idx Lib.Math.min.name ∈ hg_U) (hw : Cond.static Lib.Math.min.name ∈ hg_U ∧ Cond.initialized "java/lang/Math" ∈ hg_U ∧ Cond.code Lib.Math.min.name Lib.Math.min.code 2 (some .int) ∈ hg_U) (hfr : 1 ≤ R.frames) (hlo : (st.map fun v => v.category).sum + 13 ≤ R.locals) (hd : decode cc pc = .ok (.invokestatic idx, 3)) (hp : pc + 3 = pc') (kk : hg_G E p l e R s m args below meth c nL Q σ pc' lv (.int (if y < x then y else x) :: st)) : hg_G E p l e R s m args below meth c nL Q σ pc lv (.int y :: .int x :: st) := by
  subst hp; intro H locs ls hP hS hL; exact va_mmin cx.1 cx.2.1 (by rw [cx.2.2.1, hL.1]) cx.2.2.2.1 (cx.2.2.2.2.1 _ hlk) (cx.2.2.2.2.1 _ hw.1) (cx.2.2.2.2.1 _ hw.2.1) (cx.2.2.2.2.1 _ hw.2.2) hfr hlo (Nat.zero_le _) (Nat.zero_le _) hd (kk H locs ls hP hS hL)
theorem hg_mmax (cx : hg_Cx E p s m args meth c cc nL own ret) {idx : Nat} {x y : Int32} (hlk : Cond.methodLink own idx Lib.Math.max.name ∈ hg_U) (hw : Cond.static Lib.Math.max.name ∈ hg_U ∧ Cond.initialized "java/lang/Math" ∈ hg_U ∧ Cond.code Lib.Math.max.name Lib.Math.max.code 2 (some .int) ∈ hg_U) (hfr : 1 ≤ R.frames) (hlo : (st.map fun v => v.category).sum + 13 ≤ R.locals) (hd : decode cc pc = .ok (.invokestatic idx, 3)) (hp : pc + 3 = pc') (kk : hg_G E p l e R s m args below meth c nL Q σ pc' lv (.int (if x < y then y else x) :: st)) : hg_G E p l e R s m args below meth c nL Q σ pc lv (.int y :: .int x :: st) := by
  subst hp; intro H locs ls hP hS hL; exact va_mmax cx.1 cx.2.1 (by rw [cx.2.2.1, hL.1]) cx.2.2.2.1 (cx.2.2.2.2.1 _ hlk) (cx.2.2.2.2.1 _ hw.1) (cx.2.2.2.2.1 _ hw.2.1) (cx.2.2.2.2.1 _ hw.2.2) hfr hlo (Nat.zero_le _) (Nat.zero_le _) hd (kk H locs ls hP hS hL)
end HGM
theorem hg_wmin : Cond.static Lib.Math.min.name ∈ hg_U ∧ Cond.initialized "java/lang/Math" ∈ hg_U ∧ Cond.code Lib.Math.min.name Lib.Math.min.code 2 (some .int) ∈ hg_U := ⟨(hg_Uin (List.mem_of_getElem? (i := 386) (by decide +kernel)) (by decide +kernel)), (hg_Uin (List.mem_of_getElem? (i := 64) (by decide +kernel)) (by decide +kernel)), (hg_Uin (List.mem_of_getElem? (i := 387) (by decide +kernel)) (by decide +kernel))⟩
theorem hg_wmax : Cond.static Lib.Math.max.name ∈ hg_U ∧ Cond.initialized "java/lang/Math" ∈ hg_U ∧ Cond.code Lib.Math.max.name Lib.Math.max.code 2 (some .int) ∈ hg_U := ⟨(hg_Uin (List.mem_of_getElem? (i := 395) (by decide +kernel)) (by decide +kernel)), (hg_Uin (List.mem_of_getElem? (i := 64) (by decide +kernel)) (by decide +kernel)), (hg_Uin (List.mem_of_getElem? (i := 396) (by decide +kernel)) (by decide +kernel))⟩
theorem lm_X1_41 : Cond.methodLink RX1 41 Lib.Math.min.name ∈ hg_U := (hg_Uin (List.mem_of_getElem? (i := 385) (by decide +kernel)) (by decide +kernel))
theorem lm_X1_54 : Cond.methodLink RX1 54 Lib.Math.max.name ∈ hg_U := (hg_Uin (List.mem_of_getElem? (i := 394) (by decide +kernel)) (by decide +kernel))
theorem lm_X2_23 : Cond.methodLink RX2 23 Lib.Math.min.name ∈ hg_U := (hg_Uin (List.mem_of_getElem? (i := 636) (by decide +kernel)) (by decide +kernel))
/-- a hat that is new -/
def sp_new (h : Nat → Int32) (kind view : Int32) : Nat → Int32 := va_up (va_up (va_up (va_up (va_up (va_up h 0 kind) 1 view) 2 0) 3 0) 4 50) 5 1
/-- six numbers of another -/
def sp_cpy (f g : Nat → Int32) : Nat → Int32 := va_up (va_up (va_up (va_up (va_up (va_up f 0 (g 0)) 1 (g 1)) 2 (g 2)) 3 (g 3)) 4 (g 4)) 5 (g 5)
def sp_min (x y : Int32) : Int32 := if y < x then y else x
def sp_max (x y : Int32) : Int32 := if x < y then y else x
/-- having been right -/
def sp_right (h : Nat → Int32) : Nat → Int32 := va_up (va_up h 2 (sp_min (h 2 + 1) 9999)) 4 (sp_min (h 4 + sp_stirs h) 99)
/-- having been wrong -/
def sp_wrong (h : Nat → Int32) (ses q truth : Int32) : Nat → Int32 :=
  va_up (va_up (if sp_learns h ses = 0 then h else va_up h 1 ((h 1 &&& (((1 : Int32) <<< (q &&& 31)) ^^^ (-1))) ||| (truth &&& ((1 : Int32) <<< (q &&& 31))))) 3 (sp_min (h 3 + 1) 9999)) 4 (sp_max (h 4 - sp_stirs h) 0)
theorem sp_stirs_up (h : Nat → Int32) {k : Nat} (v : Int32) (hk : k ≠ 0) : sp_stirs (va_up h k v) = sp_stirs h := by
  have : va_up h k v 0 = h 0 := va_upN h v (fun e => hk e.symm)
  simp only [sp_stirs, this]
def sp_put (h : Nat → Int32) (what v : Int32) : Nat → Int32 := if what = 1 then va_up h 1 v else if what = 2 then va_up h 2 v else if what = 3 then va_up h 3 v else if what = 4 then va_up h 4 v else va_up h 5 v

