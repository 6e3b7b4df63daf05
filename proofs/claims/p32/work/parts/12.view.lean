/-! plain facts -/
theorem nI_inc (n : Nat) : nI n + Int32.ofInt 1 = nI (n + 1) := nI_1 n
theorem nI_dec (n : Nat) : nI (n + 1) + Int32.ofInt (-1) = nI n := by
  rw [← nI_1]
  generalize nI n = a
  have h : Int32.ofInt (-1) = -1 := by decide
  rw [h, Int32.add_assoc]
  simp
theorem nI_dec1 {n : Nat} (h : 0 < n) : nI n + Int32.ofInt (-1) = nI (n - 1) := by
  obtain ⟨k, rfl⟩ : ∃ k, n = k + 1 := ⟨n - 1, by omega⟩
  exact nI_dec k
theorem i32_lt {a b : Int32} : a < b ↔ a.toInt < b.toInt := Int32.lt_iff_toInt_lt
theorem i32_le {a b : Int32} : a ≤ b ↔ a.toInt ≤ b.toInt := Int32.le_iff_toInt_le
theorem i32_eq {a b : Int32} : a = b ↔ a.toInt = b.toInt := ⟨fun h => by rw [h], fun h => Int32.toInt_inj.mp h⟩
theorem i32_nlt {a b : Int32} : ¬ a < b ↔ b ≤ a := by rw [i32_lt, i32_le]; omega
theorem i32_nle {a b : Int32} : ¬ a ≤ b ↔ b < a := by rw [i32_lt, i32_le]; omega
/-- two rows that say the same below n -/
def mrow (M : Mem) (k : Nat) (f : Nat → Int32) : Mem := fun q => if q = k then f else M q
theorem mset_eq (M : Mem) (k i : Nat) (x : Int32) : mset M k i x = mrow M k (upd (M k) i x) := rfl
theorem mrow_at (M : Mem) (k : Nat) (f : Nat → Int32) : mrow M k f k = f := by simp [mrow]
theorem mrow_ne {M : Mem} {k q : Nat} (h : q ≠ k) (f : Nat → Int32) : mrow M k f q = M q := by simp [mrow, h]
theorem mrow_mrow (M : Mem) (k : Nat) (f f' : Nat → Int32) : mrow (mrow M k f) k f' = mrow M k f' := by
  funext q
  by_cases h : q = k <;> simp [mrow, h]
theorem mrow_self (M : Mem) (k : Nat) : mrow M k (M k) = M := by
  funext q
  by_cases h : q = k <;> simp [mrow, h]
theorem mset_row (M : Mem) (k i : Nat) (f : Nat → Int32) (x : Int32) : mset (mrow M k f) k i x = mrow M k (upd f i x) := by
  rw [mset_eq, mrow_at, mrow_mrow]
theorem upd_at (f : Nat → Int32) (i : Nat) (x : Int32) : upd f i x i = x := by simp [upd]
theorem upd_ne {f : Nat → Int32} {i j : Nat} (h : j ≠ i) (x : Int32) : upd f i x j = f j := by simp [upd, h]
/-- memory that differs only at places a to b -/
def offR (M M' : Mem) (a b : Nat) : Prop := ∀ q, q < a ∨ b < q → M' q = M q
theorem offR.rf (M : Mem) (a b : Nat) : offR M M a b := fun _ _ => rfl
theorem offR.row {M : Mem} {a b k : Nat} (f : Nat → Int32) (h1 : a ≤ k) (h2 : k ≤ b) : offR M (mrow M k f) a b := fun q hq => mrow_ne (by omega) f
theorem offR.tr {M M' M'' : Mem} {a b a' b' c d : Nat} (h : offR M M' a b) (h' : offR M' M'' a' b') (h1 : c ≤ a) (h2 : c ≤ a') (h3 : b ≤ d) (h4 : b' ≤ d) : offR M M'' c d := fun q hq => (h' q (by omega)).trans (h q (by omega))
/-- sums over the places 1, 2 .. below k -/
def sumP (f : Nat → Int32) : Nat → Int32
  | 0 => 0
  | k + 1 => sumP f k + (if k = 0 then 0 else f k)
theorem sumP_1 (f : Nat → Int32) : sumP f 1 = 0 := by simp [sumP]
theorem sumP_s (f : Nat → Int32) {k : Nat} (h : 0 < k) : sumP f (k + 1) = sumP f k + f k := by
  have : k ≠ 0 := by omega
  simp [sumP, this]
theorem sumP_cong {f f' : Nat → Int32} : ∀ {k : Nat}, (∀ j, 0 < j → j < k → f j = f' j) → sumP f k = sumP f' k
  | 0, _ => rfl
  | k + 1, h => by
    have r := sumP_cong (k := k) (fun j h1 h2 => h j h1 (by omega))
    rw [sumP, sumP, r]
    by_cases hk : k = 0
    · simp [hk]
    · simp [hk, h k (by omega) (by omega)]
/-- sums over all places below k -/
def sumA (f : Nat → Int32) : Nat → Int32
  | 0 => 0
  | k + 1 => sumA f k + f k
theorem sumA_cong {f f' : Nat → Int32} : ∀ {k : Nat}, (∀ j, j < k → f j = f' j) → sumA f k = sumA f' k
  | 0, _ => rfl
  | k + 1, h => by
    rw [sumA, sumA, sumA_cong (k := k) (fun j h2 => h j (by omega)), h k (by omega)]
def b2i (b : Bool) : Int32 := if b then 1 else 0
/-! what a state says: ((nodes, boilers), parents, scalars, columns of the nodes, columns of the boilers) -/
abbrev View : Type := (Nat × Nat) × (Nat → Nat) × (Nat → Int32) × (Nat → Nat → Int32) × (Nat → Nat → Int32)
def vN (V : View) : Nat := V.1.1
def vB (V : View) : Nat := V.1.2
def vP (V : View) : Nat → Nat := V.2.1
def vS (V : View) : Nat → Int32 := V.2.2.1
def vD (V : View) : Nat → Nat → Int32 := V.2.2.2.1
def vO (V : View) : Nat → Nat → Int32 := V.2.2.2.2
def inR (x : Int32) (a b : Int) : Prop := a ≤ x.toInt ∧ x.toInt ≤ b
/-- the tree: parents have lower numbers -/
def wfT (V : View) : Prop := 1 ≤ vN V ∧ vN V ≤ 16 ∧ vB V ≤ 4 ∧ (vD V 0 0 = -1 ∧ vD V 3 0 = 0 ∧ vD V 5 0 = 0 ∧ vD V 6 0 = 0) ∧ ∀ j, 0 < j → j < vN V → vD V 0 j = nI (vP V j) ∧ vP V j < j
/-- what a network's cells at B say; the boilers' at B; a state's at S -/
def cNet (M : Mem) (B : Nat) (V : View) : Prop := M B 8 = nI (vN V) ∧ ∀ w, w < 8 → ∀ j, j < vN V → M (B + 1 + w) j = vD V w j
def cBoi (M : Mem) (B : Nat) (V : View) : Prop := M B 3 = nI (vB V) ∧ ∀ w, w < 3 → ∀ j, j < vB V → M (B + 1 + w) j = vO V w j
theorem cNet.at {M : Mem} {B : Nat} {V : View} (h : cNet M B V) (w : Nat) (hw : w < 8) {j : Nat} (hj : j < vN V) : M (B + 1 + w) j = vD V w j := h.2 w hw j hj
theorem cBoi.at {M : Mem} {B : Nat} {V : View} (h : cBoi M B V) (w : Nat) (hw : w < 3) {j : Nat} (hj : j < vB V) : M (B + 1 + w) j = vO V w j := h.2 w hw j hj
theorem cNet.off {M M' : Mem} {B a b : Nat} {V : View} (h : cNet M B V) (ho : offR M M' a b) (hB : B + 8 < a ∨ b < B) : cNet M' B V := by
  refine ⟨by rw [ho B (by omega)]; exact h.1, fun w hw j hj => by rw [ho _ (by omega)]; exact h.2 w hw j hj⟩
theorem cBoi.off {M M' : Mem} {B a b : Nat} {V : View} (h : cBoi M B V) (ho : offR M M' a b) (hB : B + 3 < a ∨ b < B) : cBoi M' B V := by
  refine ⟨by rw [ho B (by omega)]; exact h.1, fun w hw j hj => by rw [ho _ (by omega)]; exact h.2 w hw j hj⟩
/-- objects at places that are variables -/
def isNet (B : Nat) : Prop := lay B = (1, [3, B + 3, B + 4, B + 5, B + 6, B + 7, B + 8, B + 9, B + 10, 0]) ∧ lay (B + 1) = (0, [16]) ∧ lay (B + 2) = (0, [16]) ∧ lay (B + 3) = (0, [16]) ∧ lay (B + 4) = (0, [16]) ∧ lay (B + 5) = (0, [16]) ∧ lay (B + 6) = (0, [16]) ∧ lay (B + 7) = (0, [16]) ∧ lay (B + 8) = (0, [16])
def isBoi (B : Nat) : Prop := lay B = (1, [0, B + 3, B + 4, B + 5, 0]) ∧ lay (B + 1) = (0, [4]) ∧ lay (B + 2) = (0, [4]) ∧ lay (B + 3) = (0, [4])
def isSta (S : Nat) : Prop := lay S = (1, [6, S + 3, S + 12, 0, 0, 0, 0, 0, 0, 0]) ∧ isNet (S + 1) ∧ isBoi (S + 10)
def isHour (B : Nat) : Prop := lay B = (1, [2, B + 3, B + 4, B + 5, B + 6, 0, 0, 0]) ∧ lay (B + 1) = (0, [16]) ∧ lay (B + 2) = (0, [16]) ∧ lay (B + 3) = (0, [16]) ∧ lay (B + 4) = (0, [4])
def isRegs (B : Nat) : Prop := lay B = (1, [5, B + 3, B + 4, B + 5, B + 6, B + 7, 0]) ∧ lay (B + 1) = (0, [16]) ∧ lay (B + 2) = (0, [16]) ∧ lay (B + 3) = (0, [16]) ∧ lay (B + 4) = (0, [16]) ∧ lay (B + 5) = (0, [16])
theorem isNet_2 : isNet 2 := ⟨rfl, rfl, rfl, rfl, rfl, rfl, rfl, rfl, rfl⟩
theorem isNet_97 : isNet 97 := ⟨rfl, rfl, rfl, rfl, rfl, rfl, rfl, rfl, rfl⟩
theorem isBoi_11 : isBoi 11 := ⟨rfl, rfl, rfl, rfl⟩
theorem isSta_1 : isSta 1 := ⟨rfl, ⟨rfl, rfl, rfl, rfl, rfl, rfl, rfl, rfl, rfl⟩, ⟨rfl, rfl, rfl, rfl⟩⟩
theorem isSta_17 : isSta 17 := ⟨rfl, ⟨rfl, rfl, rfl, rfl, rfl, rfl, rfl, rfl, rfl⟩, ⟨rfl, rfl, rfl, rfl⟩⟩
theorem isSta_31 : isSta 31 := ⟨rfl, ⟨rfl, rfl, rfl, rfl, rfl, rfl, rfl, rfl, rfl⟩, ⟨rfl, rfl, rfl, rfl⟩⟩
theorem isSta_45 : isSta 45 := ⟨rfl, ⟨rfl, rfl, rfl, rfl, rfl, rfl, rfl, rfl, rfl⟩, ⟨rfl, rfl, rfl, rfl⟩⟩
theorem isSta_59 : isSta 59 := ⟨rfl, ⟨rfl, rfl, rfl, rfl, rfl, rfl, rfl, rfl, rfl⟩, ⟨rfl, rfl, rfl, rfl⟩⟩
theorem isSta_of {i : Nat} (h : i < 4) : isSta (17 + 14 * i) := by
  have : i = 0 ∨ i = 1 ∨ i = 2 ∨ i = 3 := by omega
  rcases this with rfl | rfl | rfl | rfl
  · exact isSta_17
  · exact isSta_31
  · exact isSta_45
  · exact isSta_59
theorem isHour_75 : isHour 75 := ⟨rfl, rfl, rfl, rfl, rfl⟩
theorem isHour_86 : isHour 86 := ⟨rfl, rfl, rfl, rfl, rfl⟩
theorem isRegs_80 : isRegs 80 := ⟨rfl, rfl, rfl, rfl, rfl, rfl⟩
theorem isRegs_91 : isRegs 91 := ⟨rfl, rfl, rfl, rfl, rfl, rfl⟩
