/-! WHAT THE DOCUMENT'S WORDS ARE, as functions: a hat is its six numbers (KIND, VIEW, RIGHT, WRONG, FAITH, ON) by place; both the class and the reference are tied to these -/
def sp_bit (v q : Int32) : Int32 := (v >>> (q &&& 31)) &&& 1
def sp_bowler (h : Nat → Int32) (q : Int32) : Int32 := if h 2 < h 3 then 1 - sp_bit (h 1) q else sp_bit (h 1) q
def sp_cap (h : Nat → Int32) (q held : Int32) : Int32 := if h 4 < 30 then sp_bit held q else sp_bit (h 1) q
/-- SAYS -/
def sp_says (h : Nat → Int32) (q held : Int32) : Int32 :=
  if h 0 = 1 then sp_bowler h q
  else if h 0 = 2 then sp_cap h q held
  else if h 0 = 3 then (if h 3 = 0 ∧ h 2 < 3 then -1 else sp_bit (h 1) q)
  else if h 0 = 4 then (if h 4 = 0 then -1 else sp_bowler h q)
  else if h 0 = 5 then (if q = 7 then 1 else sp_cap h q held)
  else sp_bit (h 1) q
/-- WEIGHS -/
def sp_weighs (h : Nat → Int32) (ses : Int32) : Int32 :=
  if h 0 = 1 then 1 + h 4 / 50
  else if h 0 = 3 then 3
  else if h 0 = 4 then 2 * (1 + h 4 / 50)
  else if h 0 = 5 then (if ses - ses / 3 * 3 = 0 then 2 else 1)
  else 1
/-- LEARNS -/
def sp_learns (h : Nat → Int32) (ses : Int32) : Int32 :=
  if h 0 = 1 then 1
  else if h 0 = 3 then 0
  else if h 0 = 4 then (if ses - ses / 2 * 2 = 0 then 1 else 0)
  else if 50 ≤ h 4 then 1 else 0
/-- STIRS -/
def sp_stirs (h : Nat → Int32) : Int32 :=
  if h 0 = 2 then 10
  else if h 0 = 3 then 1
  else if h 0 = 1 ∨ h 0 = 4 ∨ h 0 = 5 then 3
  else 5
/-- one as one of a kind -/
def sp_isKind (h : Nat → Int32) (k : Int32) : Int32 := if k = h 0 ∨ k = 0 ∨ (k = 1 ∧ h 0 = 4) ∨ (k = 2 ∧ h 0 = 5) then 1 else 0
def sp_mostOf (what : Int32) : Int32 := if what = 1 then 255 else if what = 4 then 99 else if what = 5 then 1 else 9999
def sp_trait (h : Nat → Int32) (what : Int32) : Int32 := if what = 1 then h 1 else if what = 2 then h 2 else if what = 3 then h 3 else if what = 4 then h 4 else if what = 5 then h 5 else h 0
def sp_out (v a b : Int32) : Int32 := if v < a ∨ b < v then 1 else 0
theorem hg_z01 (P : Prop) [Decidable P] : narrow .boolean (.int (if P then (1 : Int32) else 0)) = .int (if P then 1 else 0) := by split <;> rfl
theorem hg_f01 (P : Prop) [Decidable P] : narrow .boolean (.int (if P then (1 : Int32) else 0)) = .int (if P then 1 else 0) ∧ fits .boolean (.int (if P then (1 : Int32) else 0)) = true := by split <;> exact ⟨rfl, rfl⟩
