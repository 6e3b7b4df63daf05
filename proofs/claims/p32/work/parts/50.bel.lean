-- pure: which nodes are below which
def belA (V : View) (n : Nat) : Nat → Nat → Bool
  | 0, t => decide (t = n)
  | k + 1, t => if n < t then belA V n k (vP V t) else decide (t = n)
def belF (V : View) (n t : Nat) : Bool := belA V n t t
theorem belA_s {V : View} {n f k : Nat} (hf : 0 < f) (h : n < k) : belA V n f k = belA V n (f - 1) (vP V k) := by
  cases f with
  | zero => omega
  | succ f => rw [belA, if_pos h]; rfl
theorem belA_e {V : View} {n f k : Nat} (h : ¬ n < k) : belA V n f k = decide (k = n) := by
  cases f with
  | zero => rfl
  | succ f => rw [belA, if_neg h]
theorem nI_mulN (a b : Nat) : nI a * nI b = nI (a * b) := (Int32.ofNat_mul a b).symm
