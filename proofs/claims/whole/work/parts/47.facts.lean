/-! WHAT THE STATEMENT GIVES OF THE START -/
def nw_L : List Cond := flatC (Jvm.Cond.and given_1 narrow_1)
def nw_tm (i : Nat) : Term := .string "HatCongress$Clerk" (hg_stx.getD i (0, "")).1
def nw_va (i : Nat) : Term := .field (nw_tm i) "java/lang/String" "value" "[B"
def nw_pb : List Nat := [124, 134, 142, 154, 166, 179, 191, 205, 221, 236, 254, 273, 291, 309]
def nw_pp : List (List Nat) := [[0, 141, 152, 163, 175, 186, 199, 214, 228, 245, 263, 280, 297, 317], [141, 0, 153, 164, 176, 187, 200, 215, 229, 246, 264, 281, 298, 318], [152, 153, 0, 165, 177, 188, 201, 216, 230, 247, 265, 282, 299, 319], [163, 164, 165, 0, 178, 189, 202, 217, 231, 248, 266, 283, 300, 320], [175, 176, 177, 178, 0, 190, 203, 218, 232, 249, 267, 284, 301, 321], [186, 187, 188, 189, 190, 0, 204, 219, 233, 250, 268, 285, 302, 322], [199, 200, 201, 202, 203, 204, 0, 220, 234, 251, 269, 286, 303, 323], [214, 215, 216, 217, 218, 219, 220, 0, 235, 252, 270, 287, 304, 324], [228, 229, 230, 231, 232, 233, 234, 235, 0, 253, 271, 288, 305, 325], [245, 246, 247, 248, 249, 250, 251, 252, 253, 0, 272, 289, 306, 326], [263, 264, 265, 266, 267, 268, 269, 270, 271, 272, 0, 290, 307, 327], [280, 281, 282, 283, 284, 285, 286, 287, 288, 289, 290, 0, 308, 328], [297, 298, 299, 300, 301, 302, 303, 304, 305, 306, 307, 308, 0, 329], [317, 318, 319, 320, 321, 322, 323, 324, 325, 326, 327, 328, 329, 0]]
def nw_sr : List Nat := [523, 524, 525, 526, 527, 528, 587, 596, 597, 598, 603, 608, 609, 610]
theorem nw_el : ∀ j, j < 98 → nw_L[12 + j]? = some (.eq (.elem (.static "HatCongressModel" "NAMES" "[I") (.int (Int32.ofNat j))) (.int (hg_names.getD j 0))) := by decide +kernel
theorem nw_s0 : ∀ i, i < 14 → nw_L[nw_pb.getD i 0]? = some (.exactly (nw_tm i) "java/lang/String") := by decide +kernel
theorem nw_s1 : ∀ i, i < 14 → nw_L[nw_pb.getD i 0 + 1]? = some (.eq (.field (nw_tm i) "java/lang/String" "coder" "B") (.int 0)) := by decide +kernel
theorem nw_s2 : ∀ i, i < 14 → nw_L[nw_pb.getD i 0 + 2]? = some (.arrayOf (nw_va i) .byte) := by decide +kernel
theorem nw_s3 : ∀ i, i < 14 → nw_L[nw_pb.getD i 0 + 3]? = some (.eq (.length (nw_va i)) (.int (Int32.ofNat (hg_slen.getD i 0)))) := by decide +kernel
theorem nw_s4 : ∀ i, i < 14 → ∀ j, j < hg_slen.getD i 0 → nw_L[nw_pb.getD i 0 + 4 + j]? = some (.eq (.elem (nw_va i) (.int (Int32.ofNat j))) (.int ((hg_sbyt.getD i []).getD j 0))) := by decide +kernel
theorem nw_ne : ∀ i, i < 14 → ∀ j, j < 14 → i ≠ j → nw_L[(nw_pp.getD i []).getD j 0]? = some (.not (.eq (nw_tm i) (nw_tm j))) ∨ nw_L[(nw_pp.getD i []).getD j 0]? = some (.not (.eq (nw_tm j) (nw_tm i))) := by decide +kernel
theorem nw_st : ∀ i, i < 14 → lw_tbl[nw_sr.getD i 0]? = some (.stringRef "HatCongress$Clerk" (hg_stx.getD i (0, "")).1 (hg_stx.getD i (0, "")).2) := by decide +kernel
theorem nw_of {args : Array Value} {s : State} (h : (Jvm.Cond.and given_1 narrow_1).before args s = true) {k : Nat} {w : Cond} (hw : nw_L[k]? = some w) : w.before args s = true := flat_of_before _ h w (List.mem_of_getElem? hw)
theorem nw_stx {i k : Nat} {tx : String} (h : hg_stx[i]? = some (k, tx)) : i < 14 ∧ hg_stx.getD i (0, "") = (k, tx) := by
  refine ⟨(List.getElem?_eq_some_iff.mp h).1, ?_⟩
  rw [List.getD_eq_getElem?_getD, h]; rfl
def nw_sa (t0 : Nat) (aK aV : Nat → Nat) : Nat → Nat := fun n => if n = 0 then t0 else if n < 101 then aK (n - 1) else aV (n - 101)
theorem nw_KS {b : Nat} {s : State} (hts : ∀ w ∈ lw_tbl, w.before #[Value.ref b] s = true) (hgv : (Jvm.Cond.and given_1 narrow_1).before #[Value.ref b] s = true) : ∃ sa : Nat → Nat,
    va_Z "HatCongressModel" "NAMES" "[I" (.ref (sa 0)) (ni_A s.heap.size) s s.heap ∧ va_T .int (sa 0) 98 (fun j => .int (hg_names.getD j 0)) (ni_A s.heap.size) s s.heap ∧ va_Z "java/lang/String" "COMPACT_STRINGS" "Z" (.int 1) (ni_A s.heap.size) s s.heap ∧
    va_Zq "jdk/internal/util/Preconditions" "SIOOBE_FORMATTER" "Ljava/util/function/BiFunction;" (ni_A s.heap.size) s s.heap ∧
    vk_S 14 hg_slen hg_sbyt (fun i => sa (1 + i)) (fun i => sa (101 + i)) (ni_A s.heap.size) s s.heap ∧ ∀ (i k : Nat) (tx : String), hg_stx[i]? = some (k, tx) → vk_R "HatCongress$Clerk" k tx (sa (1 + i)) s := by
  have hA : ∀ a : Nat, a < s.heap.size → ¬ ni_A s.heap.size a := fun a h => Nat.not_le.mpr h
  obtain ⟨t0, e0, T0⟩ := va_Tof (tm := .static "HatCongressModel" "NAMES" "[I") (ty := .int) (N := 98) (f := fun j => .int (hg_names.getD j 0)) (A := ni_A s.heap.size) (by decide) (nw_of hgv (k := 10) (by decide +kernel)) (va_eqt (nw_of hgv (k := 11) (by decide +kernel))) (fun j hj => va_eqt (nw_of hgv (nw_el j hj))) hA
  obtain ⟨aK, aV, hK, hE⟩ := vk_Sof (N := 14) (tm := nw_tm) (len := hg_slen) (byt := hg_sbyt) (A := ni_A s.heap.size) (args := #[Value.ref b]) (s := s) (by decide +kernel) (fun i hi => nw_of hgv (nw_s0 i hi)) (fun i hi => nw_of hgv (nw_s1 i hi)) (fun i hi => nw_of hgv (nw_s2 i hi)) (fun i hi => nw_of hgv (nw_s3 i hi)) (fun i hi j hj => nw_of hgv (nw_s4 i hi j hj)) (fun i j hi hj hij => (nw_ne i hi j hj hij).imp (fun z => nw_of hgv z) (fun z => nw_of hgv z)) hA
  have eK : ∀ i, i < 14 → nw_sa t0 aK aV (1 + i) = aK i := fun i hi => by unfold nw_sa; rw [if_neg (by omega), if_pos (by omega), Nat.add_sub_cancel_left]
  have eV : ∀ i, nw_sa t0 aK aV (101 + i) = aV i := fun i => by unfold nw_sa; rw [if_neg (by omega), if_neg (by omega), Nat.add_sub_cancel_left]
  refine ⟨nw_sa t0 aK aV, va_Zref (hts _ (List.mem_of_getElem? (i := 995) (by decide +kernel))) (hts _ (List.mem_of_getElem? (i := 63) (by decide +kernel))) e0 hA, T0, va_Zof (hts _ (List.mem_of_getElem? (i := 542) (by decide +kernel))) (hts _ (List.mem_of_getElem? (i := 66) (by decide +kernel))) (va_eqt (nw_of hgv (k := 4) (by decide +kernel))) hA,
    va_Zqof (hts _ (List.mem_of_getElem? (i := 558) (by decide +kernel))) (hts _ (List.mem_of_getElem? (i := 68) (by decide +kernel))) (nw_of hgv (k := 5) (by decide +kernel)) hA, ⟨fun i hi => ?_, fun i j hi hj e => ?_⟩, fun i k tx h => ?_⟩
  · dsimp only
    rw [eK i hi, eV i]; exact hK.1 i hi
  · dsimp only at e
    rw [eK i hi, eK j hj] at e; exact hK.2 i j hi hj e
  · obtain ⟨hi, e⟩ := nw_stx h
    have h1 := hts _ (List.mem_of_getElem? (nw_st i hi))
    have h2 := hE i hi
    unfold nw_tm at h2
    rw [e] at h1 h2
    rw [eK i hi]
    exact vk_R.of h1 h2
/-! THE SIXTY CELLS, as they come -/
def ni_σ0 : hg_Mem := (fun i => if i = 1 ∨ i = 2 ∨ i = 3 ∨ i = 51 then upd (fun _ => 0) 1 170 else fun _ => 0, fun _ _ => 0)
def ni_S0 : sp_S := (fun _ => ((fun k => if k = 1 then 170 else 0, fun _ _ => 0), 0), fun _ _ => 0, fun _ _ => 0)
theorem ni_arrR {cA : ClassId} {n : Nat} {f g : Nat → Option Nat} (h : ∀ j, j < n → f j = g j) : vp_cell cA (n, .inr (.inr (.inr (.inr f)))) = vp_cell cA (n, .inr (.inr (.inr (.inr g)))) := by
  have e : (fun j : Fin n => va_rf (f j.val)) = (fun j : Fin n => va_rf (g j.val)) := funext fun j => by rw [h j.val j.isLt]
  show ({ cls := cA, slots := Array.ofFn (n := n) (fun j : Fin n => va_rf (f j.val)), vm := .none } : Cell) = ({ cls := cA, slots := Array.ofFn (n := n) (fun j : Fin n => va_rf (g j.val)), vm := .none } : Cell)
  rw [e]
def ni_world (cA : Nat → ClassId) (x t1 t2 t3 tp bt ck sh fo s0 s1 s2 s3 n0' n1 n2 n3 : Nat) (a1 a2 a3 : Nat → Nat) (y r0 r1 r2 r4 r5 r6 r13 r14 r15 : Nat) : va_W := (r15, .inl (cA 1, 160, .inr (.inl (fun _ => 0)))) :: (r14, .inl (cA 0, 4, .inl (fun _ => 0))) :: (r13, .inl (cA 0, 4, .inl (fun _ => 0))) :: (r6, .inl (cA 0, 120, .inl (fun _ => 0))) :: (r5, .inl (cA 0, 10, .inl (fun _ => 0))) :: (r4, .inl (cA 0, 7, .inl (fun _ => 0))) :: (r2, .inl (cA 0, 64, .inl (fun _ => 0))) :: (r1, .inl (cA 0, 64, .inl (fun _ => 0))) :: (r0, .inl (cA 0, 64, .inl (upd (fun _ => 0) 1 170))) :: (y, .inr (6, [.ref r0, .ref r1, .ref r2, .int 0, .ref r4, .ref r5, .ref r6, .int 0, .int 0, .int 0, .int 0, .int 0, .int 0, .ref r13, .ref r14, .ref r15])) :: (n3, .inl (cA 1, 40, .inr (.inl (fun _ => 0)))) :: (s3, .inr (2, [.ref n3, .int 0, .int 0])) :: (n2, .inl (cA 1, 40, .inr (.inl (fun _ => 0)))) :: (s2, .inr (2, [.ref n2, .int 0, .int 0])) :: (n1, .inl (cA 1, 40, .inr (.inl (fun _ => 0)))) :: (s1, .inr (2, [.ref n1, .int 0, .int 0])) :: (n0', .inl (cA 1, 40, .inr (.inl (fun _ => 0)))) :: (s0, .inr (2, [.ref n0', .int 0, .int 0])) :: (fo, .inl (cA 0, 7, .inl (fun _ => 0))) :: (sh, .inl (cA 3, 4, .inr (.inr (.inr (.inr (va_up (va_up (va_up (va_up (fun _ => none) 0 (some s0)) 1 (some s1)) 2 (some s2)) 3 (some s3))))))) :: (bt, .inl (cA 0, 120, .inl (fun _ => 0))) :: (tp, .inr (4, [.ref bt, .int 0])) :: (ck, .inr (0, [.ref tp, .int 0, .int 0, .int 0, .int 0])) :: (ni_tab cA t3 a3 ++ (ni_tab cA t2 a2 ++ (ni_tab cA t1 a1 ++ (x, .inr (5, [.ref t1, .ref t2, .ref t3, .int 0, .ref ck, .ref sh, .ref fo])) :: [])))
def ni_adr (x t1 t2 t3 tp bt ck sh fo s0 s1 s2 s3 n0' n1 n2 n3 : Nat) (a1 a2 a3 : Nat → Nat) (y r0 r1 r2 r4 r5 r6 r13 r14 r15 : Nat) : Nat → Nat := fun i => ([x, t1, t2, t3, a1 10, a2 10, a3 10, tp, bt, ck, sh, fo, s0, s1, s2, s3, n0', n1, n2, n3, a1 0, a1 1, a1 2, a1 3, a1 4, a1 5, a1 6, a1 7, a1 8, a1 9, a2 0, a2 1, a2 2, a2 3, a2 4, a2 5, a2 6, a2 7, a2 8, a2 9, a3 0, a3 1, a3 2, a3 3, a3 4, a3 5, a3 6, a3 7, a3 8, a3 9, y, r0, r1, r2, r4, r5, r6, r13, r14, r15] : List Nat).getD i 0
def ni_pi (i : Nat) : Nat := ([59, 58, 46, 34, 57, 45, 33, 21, 20, 22, 19, 18, 17, 15, 13, 11, 16, 14, 12, 10, 56, 55, 54, 53, 52, 51, 50, 49, 48, 47, 44, 43, 42, 41, 40, 39, 38, 37, 36, 35, 32, 31, 30, 29, 28, 27, 26, 25, 24, 23, 9, 8, 7, 6, 5, 4, 3, 2, 1, 0] : List Nat).getD i 0
theorem ni_pi_inj : ∀ i, i < 60 → ∀ j, j < 60 → ni_pi i = ni_pi j → i = j := by decide +kernel
set_option maxRecDepth 100000 in
theorem ni_key (cA : Nat → ClassId) (x t1 t2 t3 tp bt ck sh fo s0 s1 s2 s3 n0' n1 n2 n3 : Nat) (a1 a2 a3 : Nat → Nat) (y r0 r1 r2 r4 r5 r6 r13 r14 r15 : Nat) : ∀ i, i < 60 → ∃ z, (ni_world cA x t1 t2 t3 tp bt ck sh fo s0 s1 s2 s3 n0' n1 n2 n3 a1 a2 a3 y r0 r1 r2 r4 r5 r6 r13 r14 r15)[ni_pi i]? = some (ni_adr x t1 t2 t3 tp bt ck sh fo s0 s1 s2 s3 n0' n1 n2 n3 a1 a2 a3 y r0 r1 r2 r4 r5 r6 r13 r14 r15 i, z) := by
  intro i hi
  match i, hi with
  | 0, _ => exact ⟨_, rfl⟩
  | 1, _ => exact ⟨_, rfl⟩
  | 2, _ => exact ⟨_, rfl⟩
  | 3, _ => exact ⟨_, rfl⟩
  | 4, _ => exact ⟨_, rfl⟩
  | 5, _ => exact ⟨_, rfl⟩
  | 6, _ => exact ⟨_, rfl⟩
  | 7, _ => exact ⟨_, rfl⟩
  | 8, _ => exact ⟨_, rfl⟩
  | 9, _ => exact ⟨_, rfl⟩
  | 10, _ => exact ⟨_, rfl⟩
  | 11, _ => exact ⟨_, rfl⟩
  | 12, _ => exact ⟨_, rfl⟩
  | 13, _ => exact ⟨_, rfl⟩
  | 14, _ => exact ⟨_, rfl⟩
  | 15, _ => exact ⟨_, rfl⟩
  | 16, _ => exact ⟨_, rfl⟩
  | 17, _ => exact ⟨_, rfl⟩
  | 18, _ => exact ⟨_, rfl⟩
  | 19, _ => exact ⟨_, rfl⟩
  | 20, _ => exact ⟨_, rfl⟩
  | 21, _ => exact ⟨_, rfl⟩
  | 22, _ => exact ⟨_, rfl⟩
  | 23, _ => exact ⟨_, rfl⟩
  | 24, _ => exact ⟨_, rfl⟩
  | 25, _ => exact ⟨_, rfl⟩
  | 26, _ => exact ⟨_, rfl⟩
  | 27, _ => exact ⟨_, rfl⟩
  | 28, _ => exact ⟨_, rfl⟩
  | 29, _ => exact ⟨_, rfl⟩
  | 30, _ => exact ⟨_, rfl⟩
  | 31, _ => exact ⟨_, rfl⟩
  | 32, _ => exact ⟨_, rfl⟩
  | 33, _ => exact ⟨_, rfl⟩
  | 34, _ => exact ⟨_, rfl⟩
  | 35, _ => exact ⟨_, rfl⟩
  | 36, _ => exact ⟨_, rfl⟩
  | 37, _ => exact ⟨_, rfl⟩
  | 38, _ => exact ⟨_, rfl⟩
  | 39, _ => exact ⟨_, rfl⟩
  | 40, _ => exact ⟨_, rfl⟩
  | 41, _ => exact ⟨_, rfl⟩
  | 42, _ => exact ⟨_, rfl⟩
  | 43, _ => exact ⟨_, rfl⟩
  | 44, _ => exact ⟨_, rfl⟩
  | 45, _ => exact ⟨_, rfl⟩
  | 46, _ => exact ⟨_, rfl⟩
  | 47, _ => exact ⟨_, rfl⟩
  | 48, _ => exact ⟨_, rfl⟩
  | 49, _ => exact ⟨_, rfl⟩
  | 50, _ => exact ⟨_, rfl⟩
  | 51, _ => exact ⟨_, rfl⟩
  | 52, _ => exact ⟨_, rfl⟩
  | 53, _ => exact ⟨_, rfl⟩
  | 54, _ => exact ⟨_, rfl⟩
  | 55, _ => exact ⟨_, rfl⟩
  | 56, _ => exact ⟨_, rfl⟩
  | 57, _ => exact ⟨_, rfl⟩
  | 58, _ => exact ⟨_, rfl⟩
  | 59, _ => exact ⟨_, rfl⟩
  | k + 60, hi => omega
set_option maxRecDepth 100000 in
set_option maxHeartbeats 4000000 in
theorem ni_finP (D : va_G) (cA : Nat → ClassId) (sa : Nat → Nat) (x t1 t2 t3 tp bt ck sh fo s0 s1 s2 s3 n0' n1 n2 n3 : Nat) (a1 a2 a3 : Nat → Nat) (y r0 r1 r2 r4 r5 r6 r13 r14 r15 : Nat) {H : Heap} (hP : va_P D vwCl (ni_world cA x t1 t2 t3 tp bt ck sh fo s0 s1 s2 s3 n0' n1 n2 n3 a1 a2 a3 y r0 r1 r2 r4 r5 r6 r13 r14 r15) H) : va_P D vwCl (hg_wl ((D, ni_adr x t1 t2 t3 tp bt ck sh fo s0 s1 s2 s3 n0' n1 n2 n3 a1 a2 a3 y r0 r1 r2 r4 r5 r6 r13 r14 r15, cA, sa) : hg_Wd) ni_σ0) H := by
  intro k q hq
  have hk : k < 60 := by
    have := (List.getElem?_eq_some_iff.mp hq).1
    simpa [hg_wl] using this
  rw [hg_wl_at _ _ hk] at hq
  obtain rfl := Option.some.inj hq
  clear hq
  match k, hk with
  | 0, _ => exact hP 59 _ rfl
  | 1, _ => exact hP 58 _ rfl
  | 2, _ => exact hP 46 _ rfl
  | 3, _ => exact hP 34 _ rfl
  | 4, _ => exact (show H[_]? = some (vp_cell _ _) from hP 57 _ rfl).trans (congrArg some (ni_arrR (fun j hj => by rcases (show j = 0 ∨ j = 1 ∨ j = 2 ∨ j = 3 ∨ j = 4 ∨ j = 5 ∨ j = 6 ∨ j = 7 ∨ j = 8 ∨ j = 9 by omega) with rfl | rfl | rfl | rfl | rfl | rfl | rfl | rfl | rfl | rfl <;> rfl)))
  | 5, _ => exact (show H[_]? = some (vp_cell _ _) from hP 45 _ rfl).trans (congrArg some (ni_arrR (fun j hj => by rcases (show j = 0 ∨ j = 1 ∨ j = 2 ∨ j = 3 ∨ j = 4 ∨ j = 5 ∨ j = 6 ∨ j = 7 ∨ j = 8 ∨ j = 9 by omega) with rfl | rfl | rfl | rfl | rfl | rfl | rfl | rfl | rfl | rfl <;> rfl)))
  | 6, _ => exact (show H[_]? = some (vp_cell _ _) from hP 33 _ rfl).trans (congrArg some (ni_arrR (fun j hj => by rcases (show j = 0 ∨ j = 1 ∨ j = 2 ∨ j = 3 ∨ j = 4 ∨ j = 5 ∨ j = 6 ∨ j = 7 ∨ j = 8 ∨ j = 9 by omega) with rfl | rfl | rfl | rfl | rfl | rfl | rfl | rfl | rfl | rfl <;> rfl)))
  | 7, _ => exact hP 21 _ rfl
  | 8, _ => exact hP 20 _ rfl
  | 9, _ => exact hP 22 _ rfl
  | 10, _ => exact (show H[_]? = some (vp_cell _ _) from hP 19 _ rfl).trans (congrArg some (ni_arrR (fun j hj => by rcases (show j = 0 ∨ j = 1 ∨ j = 2 ∨ j = 3 by omega) with rfl | rfl | rfl | rfl <;> rfl)))
  | 11, _ => exact hP 18 _ rfl
  | 12, _ => exact hP 17 _ rfl
  | 13, _ => exact hP 15 _ rfl
  | 14, _ => exact hP 13 _ rfl
  | 15, _ => exact hP 11 _ rfl
  | 16, _ => exact hP 16 _ rfl
  | 17, _ => exact hP 14 _ rfl
  | 18, _ => exact hP 12 _ rfl
  | 19, _ => exact hP 10 _ rfl
  | 20, _ => exact hP 56 _ rfl
  | 21, _ => exact hP 55 _ rfl
  | 22, _ => exact hP 54 _ rfl
  | 23, _ => exact hP 53 _ rfl
  | 24, _ => exact hP 52 _ rfl
  | 25, _ => exact hP 51 _ rfl
  | 26, _ => exact hP 50 _ rfl
  | 27, _ => exact hP 49 _ rfl
  | 28, _ => exact hP 48 _ rfl
  | 29, _ => exact hP 47 _ rfl
  | 30, _ => exact hP 44 _ rfl
  | 31, _ => exact hP 43 _ rfl
  | 32, _ => exact hP 42 _ rfl
  | 33, _ => exact hP 41 _ rfl
  | 34, _ => exact hP 40 _ rfl
  | 35, _ => exact hP 39 _ rfl
  | 36, _ => exact hP 38 _ rfl
  | 37, _ => exact hP 37 _ rfl
  | 38, _ => exact hP 36 _ rfl
  | 39, _ => exact hP 35 _ rfl
  | 40, _ => exact hP 32 _ rfl
  | 41, _ => exact hP 31 _ rfl
  | 42, _ => exact hP 30 _ rfl
  | 43, _ => exact hP 29 _ rfl
  | 44, _ => exact hP 28 _ rfl
  | 45, _ => exact hP 27 _ rfl
  | 46, _ => exact hP 26 _ rfl
  | 47, _ => exact hP 25 _ rfl
  | 48, _ => exact hP 24 _ rfl
  | 49, _ => exact hP 23 _ rfl
  | 50, _ => exact hP 9 _ rfl
  | 51, _ => exact hP 8 _ rfl
  | 52, _ => exact hP 7 _ rfl
  | 53, _ => exact hP 6 _ rfl
  | 54, _ => exact hP 5 _ rfl
  | 55, _ => exact hP 4 _ rfl
  | 56, _ => exact hP 3 _ rfl
  | 57, _ => exact hP 2 _ rfl
  | 58, _ => exact hP 1 _ rfl
  | 59, _ => exact hP 0 _ rfl
  | k + 60, hk => omega
theorem ni_finI (D : va_G) (cA : Nat → ClassId) (sa : Nat → Nat) {n0 : Nat} (x t1 t2 t3 tp bt ck sh fo s0 s1 s2 s3 n0' n1 n2 n3 : Nat) (a1 a2 a3 : Nat → Nat) (y r0 r1 r2 r4 r5 r6 r13 r14 r15 : Nat) (hD : va_D (ni_A n0) (ni_world cA x t1 t2 t3 tp bt ck sh fo s0 s1 s2 s3 n0' n1 n2 n3 a1 a2 a3 y r0 r1 r2 r4 r5 r6 r13 r14 r15)) : hg_inj ((D, ni_adr x t1 t2 t3 tp bt ck sh fo s0 s1 s2 s3 n0' n1 n2 n3 a1 a2 a3 y r0 r1 r2 r4 r5 r6 r13 r14 r15, cA, sa) : hg_Wd) ∧ ∀ q, hg_AW ((D, ni_adr x t1 t2 t3 tp bt ck sh fo s0 s1 s2 s3 n0' n1 n2 n3 a1 a2 a3 y r0 r1 r2 r4 r5 r6 r13 r14 r15, cA, sa) : hg_Wd) q → n0 ≤ q := by
  constructor
  · intro i j hi hj e
    obtain ⟨z1, h1⟩ := ni_key cA x t1 t2 t3 tp bt ck sh fo s0 s1 s2 s3 n0' n1 n2 n3 a1 a2 a3 y r0 r1 r2 r4 r5 r6 r13 r14 r15 i hi
    obtain ⟨z2, h2⟩ := ni_key cA x t1 t2 t3 tp bt ck sh fo s0 s1 s2 s3 n0' n1 n2 n3 a1 a2 a3 y r0 r1 r2 r4 r5 r6 r13 r14 r15 j hj
    exact ni_pi_inj i hi j hj (hD.1 _ _ _ _ h1 h2 e)
  · rintro q ⟨i, hi, rfl⟩
    obtain ⟨z1, h1⟩ := ni_key cA x t1 t2 t3 tp bt ck sh fo s0 s1 s2 s3 n0' n1 n2 n3 a1 a2 a3 y r0 r1 r2 r4 r5 r6 r13 r14 r15 i hi
    exact hD.2 _ _ h1
theorem ni_cC0 : cw_C ni_σ0 ni_S0 := by
  refine ⟨⟨by decide, rfl, fun k hk => ?_, fun h hh => absurd hh (Nat.not_lt_zero h)⟩, fun z => absurd z (show ¬ (0 : Int32) = 1 by decide), rfl, rfl, fun _ _ => rfl, fun _ _ => rfl, fun t ht => ?_⟩
  · rcases (show k = 0 ∨ k = 1 ∨ k = 2 ∨ k = 3 by omega) with rfl | rfl | rfl | rfl <;> rfl
  · have e : ni_σ0.1 (12 + t) = fun _ => 0 := by
      show (if 12 + t = 1 ∨ 12 + t = 2 ∨ 12 + t = 3 ∨ 12 + t = 51 then _ else _) = _
      rw [if_neg (by omega)]
    rw [e]
    exact ⟨rfl, rfl, fun _ _ => rfl⟩
theorem ni_cM0 : cw_M ni_σ0 ni_S0 := by
  refine ⟨⟨by decide, rfl, fun k hk => ?_, fun h hh => absurd hh (Nat.not_lt_zero h)⟩, fun z => absurd z (show ¬ (0 : Int32) = 1 by decide), rfl, rfl, fun _ _ => rfl, fun _ _ => rfl, fun t ht => ⟨rfl, rfl, fun _ _ => rfl⟩⟩
  rcases (show k = 0 ∨ k = 1 ∨ k = 2 ∨ k = 3 by omega) with rfl | rfl | rfl | rfl <;> rfl
theorem ni_vS0 : vs_S ni_S0 := ⟨⟨by decide, rfl, ⟨0, by decide, rfl⟩, ⟨170, by decide, rfl⟩, ⟨0, by decide, rfl⟩, fun h hh => absurd hh (Nat.not_lt_zero h)⟩, fun z => absurd z (show ¬ (0 : Int32) = 1 by decide), Or.inl rfl, ⟨0, by decide, rfl⟩, fun s _ => ⟨Or.inl rfl, ⟨0, by decide, rfl⟩⟩⟩
