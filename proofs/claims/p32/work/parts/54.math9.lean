-- pure: the reference gathers what comes back in one walk, the class in two
def hvF (D : Nat → Int32) (k : Nat) (h : Nat → Int32) (j : Nat) : Int32 := if 0 < j ∧ j ≤ k then h j + D j else h j
theorem hv_step {p : Nat → Nat} {D h : Nat → Int32} {k : Nat} (hk : 0 < k) (hp : p k < k) : addUp p k (hvF D k h) = addUp p (k - 1) (hvF D (k - 1) (upd (upd h k (h k + D k)) (p k) (h (p k) + (h k + D k)))) := by
  rw [addUp_s p hk]
  congr 1
  funext j
  have ek : hvF D k h k = h k + D k := by unfold hvF; exact if_pos ⟨hk, Nat.le_refl _⟩
  by_cases e1 : j = p k
  · subst e1
    rw [upd_at, ek]
    unfold hvF
    rw [upd_at]
    by_cases z : 0 < p k
    · rw [if_pos ⟨z, by omega⟩, if_pos ⟨z, by omega⟩, Int32.add_assoc, Int32.add_comm (D (p k)), ← Int32.add_assoc]
    · rw [if_neg (fun y => z y.1), if_neg (fun y => z y.1)]
  · rw [upd_ne e1]
    by_cases e2 : j = k
    · subst e2
      rw [ek]
      unfold hvF
      rw [if_neg (fun y => by omega), upd_ne e1, upd_at]
    · unfold hvF
      rw [upd_ne e1, upd_ne e2]
      by_cases z : 0 < j ∧ j ≤ k
      · rw [if_pos z, if_pos ⟨z.1, by omega⟩]
      · rw [if_neg z, if_neg (fun y => z ⟨y.1, by omega⟩)]
theorem hv_end {D h : Nat → Int32} : hvF D 0 h = h := by
  funext j
  unfold hvF
  exact if_neg (fun y => by omega)
theorem mrow_set2 {M : Mem} {a b i : Nat} {f h : Nat → Int32} {x : Int32} (e : a ≠ b) : mset (mrow (mrow M a f) b h) a i x = mrow (mrow M a (upd f i x)) b h := by
  funext q
  by_cases h1 : q = b
  · subst h1
    rw [mset_ne (fun z => e z.symm), mrow_at, mrow_at]
  · by_cases h2 : q = a
    · subst h2
      rw [mset_at, mrow_ne h1, mrow_at, mrow_ne h1, mrow_at]
    · rw [mset_ne h2, mrow_ne h1, mrow_ne h2, mrow_ne h1, mrow_ne h2]
