/-! numbers of samples and places -/
def sm (x : Int32) : Prop := ∃ n : Nat, n ≤ 255 ∧ x = nI n
theorem za (a b : Nat) : nI (a + b) = nI a + nI b := (nI_add a b).symm
theorem zm (a b : Nat) : nI (a * b) = nI a * nI b := (pk_mul a b).symm
/-- folds over the places of a plane of rows of 32 -/
def rowF (op : Int32 → Int32 → Int32) (f : Nat → Int32) (y : Nat) : Nat → Int32 → Int32
  | 0, acc => acc
  | x + 1, acc => op (rowF op f y x acc) (f (y * 32 + x))
def allF (op : Int32 → Int32 → Int32) (f : Nat → Int32) (w : Nat) : Nat → Int32 → Int32
  | 0, acc => acc
  | y + 1, acc => rowF op f y w (allF op f w y acc)
theorem z_sh {n : Nat} (h : n < 2 ^ 31) : nI n >>> ((2 : Int32) &&& 31) = nI (n / 4) := pk_shrN h _ 2 (by decide)
theorem z_sh1 {n : Nat} (h : n < 2 ^ 31) : nI n >>> ((1 : Int32) &&& 31) = nI (n / 2) := pk_shrN h _ 1 (by decide)
theorem z_lt {a b : Nat} (h : a < b) (hb : b < 2 ^ 31) : nI a < nI b := nI_lt h hb
theorem zmR {M : zM} {rm : Room} {c : Nat} (hR : zroom M = rm) (h : 1 ≤ rm.frames ∧ c ≤ rm.locals) : 1 ≤ M.2.2.2.1.frames ∧ c ≤ M.2.2.2.1.locals := by
  rw [show M.2.2.2.1 = rm from hR]; exact h
theorem zmC {M : zM} {rm : Room} {a b : Nat} (hR : zroom M = rm) (hC : zcells M = a) (hS : zslots M = b) (h : a ≤ rm.cells ∧ b ≤ rm.slots) : M.2.2.2.2.2.2.2.2.2.2.2.2.1 ≤ M.2.2.2.1.cells ∧ M.2.2.2.2.2.2.2.2.2.2.2.2.2 ≤ M.2.2.2.1.slots := by
  rw [show M.2.2.2.1 = rm from hR, show M.2.2.2.2.2.2.2.2.2.2.2.2.1 = a from hC, show M.2.2.2.2.2.2.2.2.2.2.2.2.2 = b from hS]; exact h
