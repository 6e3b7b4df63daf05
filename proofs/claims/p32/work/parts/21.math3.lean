/-! the network text -/
theorem mset_id {M : Mem} {k i : Nat} {x : Int32} (h : M k i = x) : mset M k i x = M := by
  funext q
  by_cases e : q = k
  · subst e
    rw [mset_at]
    funext j
    by_cases e2 : j = i
    · subst e2; rw [upd_at, h]
    · rw [upd_ne e2]
  · rw [mset_ne e]
/-- a network without nodes but 0 -/
def isV0 (V : View) : Prop := ∀ w, w < 8 → vD V w 0 = if w = 0 then -1 else 0
