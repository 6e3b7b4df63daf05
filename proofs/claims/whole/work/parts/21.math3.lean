/-! the network text -/
theorem mset_id {M : Mem} {k i : Nat} {x : Int32} (h : M k i = x) : mset M k i x = M := by
  funext q
  by_cases e : q = k
  · subst e
    rw [mset_at]
    funext j
    by_cases e2 : j = i
    · subst e2; rw [upd_at, h]
    · rw [upd_ne e2]
  · rw [mset_ne e]
def isDig (x : Int32) : Bool := decide (48 ≤ x ∧ x ≤ 57)
def numR (T : Nat → Int32) (len : Nat) : Nat → Nat → Int32 → Int32 × Nat
  | 0, a, v => (v, a)
  | d + 1, a, v => if a < len ∧ isDig (T a) = true then numR T len d (a + 1) (10 * v + T a - 48) else (v, a)
theorem numR_stop {T : Nat → Int32} {len : Nat} : ∀ {d a : Nat} {v : Int32}, ¬ (a < len ∧ isDig (T a) = true) → numR T len d a v = (v, a)
  | 0, _, _, _ => rfl
  | d + 1, a, v, h => by rw [numR, if_neg h]
theorem numR_step {T : Nat → Int32} {len d a : Nat} {v : Int32} (hd : 0 < d) (h1 : a < len) (h2 : isDig (T a) = true) : numR T len d a v = numR T len (d - 1) (a + 1) (10 * v + T a - 48) := by
  obtain ⟨k, rfl⟩ : ∃ k, d = k + 1 := ⟨d - 1, by omega⟩
  rw [numR, if_pos ⟨h1, h2⟩]
  rfl
theorem numR_le {T : Nat → Int32} {len : Nat} : ∀ {d a : Nat} {v : Int32}, a ≤ len → a ≤ (numR T len d a v).2 ∧ (numR T len d a v).2 ≤ len
  | 0, a, v, h => ⟨Nat.le_refl a, h⟩
  | d + 1, a, v, h => by
    by_cases e : a < len ∧ isDig (T a) = true
    · rw [numR, if_pos e]
      have := numR_le (T := T) (len := len) (d := d) (a := a + 1) (v := 10 * v + T a - 48) (by omega)
      omega
    · rw [numR, if_neg e]
      exact ⟨Nat.le_refl a, h⟩
/-- a number with a byte behind it: (well formed?, its value, where it goes on, or where it is wrong) -/
def rdN (T : Nat → Int32) (len a D : Nat) (low high en : Int32) : Bool × Int32 × Nat :=
  if (numR T len D a 0).2 = a ∨ ((numR T len D a 0).2 < len ∧ isDig (T (numR T len D a 0).2) = true) then (false, (numR T len D a 0).1, (numR T len D a 0).2)
  else if (numR T len D a 0).1 < low ∨ high < (numR T len D a 0).1 then (false, (numR T len D a 0).1, a)
  else if len ≤ (numR T len D a 0).2 ∨ ¬ T (numR T len D a 0).2 = en then (false, (numR T len D a 0).1, (numR T len D a 0).2)
  else (true, (numR T len D a 0).1, (numR T len D a 0).2 + 1)
theorem rdN_eq {T : Nat → Int32} {len a D b : Nat} {low high en v : Int32} (h : numR T len D a 0 = (v, b)) : rdN T len a D low high en =
    if b = a ∨ (b < len ∧ isDig (T b) = true) then (false, v, b) else if v < low ∨ high < v then (false, v, a) else if len ≤ b ∨ ¬ T b = en then (false, v, b) else (true, v, b + 1) := by
  unfold rdN
  rw [h]
theorem rdN_le {T : Nat → Int32} {len a D : Nat} {low high en : Int32} (h : a ≤ len) : (rdN T len a D low high en).2.2 ≤ len := by
  have h1 := numR_le (T := T) (len := len) (d := D) (a := a) (v := 0) h
  unfold rdN
  split
  · exact h1.2
  · split
    · exact h
    · split
      · exact h1.2
      · rename_i h3
        show _ + 1 ≤ len
        have : ¬ len ≤ (numR T len D a 0).2 := fun z => h3 (Or.inl z)
        omega
/-- the numbers of a node of the text: (well formed?, where, the five numbers) -/
def rdNode (T : Nat → Int32) (len a n : Nat) : Bool × Nat × Int32 × Int32 × Int32 × Int32 × Int32 :=
  let r1 := rdN T len a 2 0 (nI (n - 1)) 44
  if r1.1 = false then (false, r1.2.2, 0, 0, 0, 0, 0) else
  let r2 := rdN T len r1.2.2 3 1 500 44
  if r2.1 = false then (false, r2.2.2, 0, 0, 0, 0, 0) else
  let r3 := rdN T len r2.2.2 2 0 50 44
  if r3.1 = false then (false, r3.2.2, 0, 0, 0, 0, 0) else
  let r4 := rdN T len r3.2.2 3 0 500 44
  if r4.1 = false then (false, r4.2.2, 0, 0, 0, 0, 0) else
  let r5 := rdN T len r4.2.2 4 0 1200 59
  if r5.1 = false then (false, r5.2.2, 0, 0, 0, 0, 0) else (true, r5.2.2, r1.2.1, r2.2.1, r3.2.1, r4.2.1, r5.2.1)
theorem rdNode_1 {T : Nat → Int32} {len a n : Nat} (h : (rdN T len a 2 0 (nI (n - 1)) 44).1 = false) : rdNode T len a n = (false, (rdN T len a 2 0 (nI (n - 1)) 44).2.2, 0, 0, 0, 0, 0) := if_pos h
theorem rdNode_2 {T : Nat → Int32} {len a n : Nat} (h : ¬ (rdN T len a 2 0 (nI (n - 1)) 44).1 = false) (h2 : (rdN T len (rdN T len a 2 0 (nI (n - 1)) 44).2.2 3 1 500 44).1 = false) : rdNode T len a n = (false, (rdN T len (rdN T len a 2 0 (nI (n - 1)) 44).2.2 3 1 500 44).2.2, 0, 0, 0, 0, 0) := (if_neg h).trans (if_pos h2)
theorem rdN_fl {T T' : Nat → Int32} {len a D : Nat} {low high en : Int32} (h : ∀ j, j < len → T j = T' j) (ha : a ≤ len) : rdN T len a D low high en = rdN T' len a D low high en := by
  have key : ∀ (d a : Nat) (v : Int32), numR T len d a v = numR T' len d a v := by
    intro d
    induction d with
    | zero => intro a v; rfl
    | succ d ih =>
      intro a v
      by_cases e : a < len
      · rw [numR, numR, h a e, ih]
      · rw [numR_stop (fun z => e z.1), numR_stop (fun z => e z.1)]
  unfold rdN
  rw [key]
  generalize hr : numR T' len D a 0 = r
  have h1 := numR_le (T := T') (len := len) (d := D) (a := a) (v := 0) ha
  rw [hr] at h1
  by_cases e : r.2 < len
  · rw [h _ e]
  · have e2 : len ≤ r.2 := by omega
    simp [e, e2]
/-- a network without nodes but 0 -/
def isV0 (V : View) : Prop := ∀ w, w < 8 → vD V w 0 = if w = 0 then -1 else 0
def vPar (V : View) (x : Bool × Nat × Int32 × Int32 × Int32 × Int32 × Int32) : View := vAdd V x.2.2.1 x.2.2.2.1 x.2.2.2.2.1 x.2.2.2.2.2.1 x.2.2.2.2.2.2
/-- reading the whole text: (well formed?, the network, where it is wrong) -/
def psF (T : Nat → Int32) (len : Nat) : Nat → View → Nat → Bool × View × Nat
  | 0, V, a => (false, V, a)
  | f + 1, V, a => if len ≤ a then (true, V, a) else if vN V = 16 then (false, V, a) else if (rdNode T len a (vN V)).1 = true then psF T len f (vPar V (rdNode T len a (vN V))) (rdNode T len a (vN V)).2.1 else (false, V, (rdNode T len a (vN V)).2.1)
