/-! regions -/
theorem b2i_0 {b : Bool} : b2i b = 0 ↔ b = false := by cases b <;> decide
theorem b2i_1 {b : Bool} : ¬ b2i b = 0 ↔ b = true := by cases b <;> decide
theorem b2i_b (b : Bool) : narrow .boolean (.int (b2i b)) = .int (b2i b) := by cases b <;> rfl
def hRow (V : View) (mt : Nat → Int32) : Nat → Nat → Nat
  | 0 => fun _ => 0
  | k + 1 => fun j => if j = k + 1 then (if mt (k + 1) = 0 then hRow V mt k (vP V (k + 1)) else k + 1) else hRow V mt k j
def hdF (V : View) (mt : Nat → Int32) (j : Nat) : Nat := hRow V mt j j
theorem hRow_le (V : View) (mt : Nat → Int32) : ∀ (k j : Nat), j ≤ k → hRow V mt k j = hdF V mt j
  | 0, j, h => by
    have : j = 0 := by omega
    subst this; rfl
  | k + 1, j, h => by
    by_cases e : j = k + 1
    · subst e; rfl
    · have : hRow V mt (k + 1) j = hRow V mt k j := by simp [hRow, e]
      rw [this]
      exact hRow_le V mt k j (by omega)
theorem hdF_0 (V : View) (mt : Nat → Int32) : hdF V mt 0 = 0 := rfl
theorem hdF_s (V : View) (mt : Nat → Int32) {j : Nat} (h : 0 < j) (hp : vP V j < j) : hdF V mt j = if mt j = 0 then hdF V mt (vP V j) else j := by
  obtain ⟨k, rfl⟩ : ∃ k, j = k + 1 := ⟨j - 1, by omega⟩
  have : hdF V mt (k + 1) = if mt (k + 1) = 0 then hRow V mt k (vP V (k + 1)) else k + 1 := by simp [hdF, hRow]
  rw [this, hRow_le V mt k _ (by omega)]
theorem hdF_le {V : View} (hT : wfT V) (mt : Nat → Int32) : ∀ (n j : Nat), j ≤ n → j < vN V → hdF V mt j ≤ j
  | 0, j, h, _ => by
    have : j = 0 := by omega
    subst this; exact Nat.le_refl 0
  | n + 1, j, h, hj => by
    rcases Nat.eq_zero_or_pos j with e | e
    · subst e; exact Nat.le_refl 0
    · have hp := (hT.2.2.2.2 j e hj).2
      rw [hdF_s V mt e hp]
      split
      · have := hdF_le hT mt n (vP V j) (by omega) (by omega)
        omega
      · exact Nat.le_refl j
theorem hdF_cong {V : View} (hT : wfT V) {mt mt' : Nat → Int32} (h : ∀ j, j < vN V → mt j = mt' j) : ∀ (n j : Nat), j ≤ n → j < vN V → hdF V mt j = hdF V mt' j
  | 0, j, h, _ => by
    have : j = 0 := by omega
    subst this; rfl
  | n + 1, j, h1, hj => by
    rcases Nat.eq_zero_or_pos j with e | e
    · subst e; rfl
    · have hp := (hT.2.2.2.2 j e hj).2
      rw [hdF_s V mt e hp, hdF_s V mt' e hp, h j hj, hdF_cong hT h n (vP V j) (by omega) (by omega)]
def szR (V : View) (mt : Nat → Int32) (k t : Nat) : Int32 := sumP (fun i => b2i (decide (hdF V mt i = t))) k
def lkR (V : View) (mt : Nat → Int32) (k t : Nat) : Int32 := sumP (fun i => if hdF V mt i = t then vD V 5 i else 0) k
def szF (V : View) (mt : Nat → Int32) (t : Nat) : Int32 := szR V mt (vN V) t
def lkF (V : View) (mt : Nat → Int32) (t : Nat) : Int32 := lkR V mt (vN V) t
def ibUp (p : Nat → Nat) (mt : Nat → Int32) : Nat → (Nat → Int32) → Nat → Int32
  | 0, f => f
  | k + 1, f => ibUp p mt k (if mt (k + 1) = 0 then upd f (p (k + 1)) (f (p (k + 1)) + f (k + 1)) else f)
theorem ibUp_s (p : Nat → Nat) (mt : Nat → Int32) {k : Nat} (h : 0 < k) (f : Nat → Int32) : ibUp p mt k f = ibUp p mt (k - 1) (if mt k = 0 then upd f (p k) (f (p k) + f k) else f) := by
  obtain ⟨j, rfl⟩ : ∃ j, k = j + 1 := ⟨k - 1, by omega⟩
  rfl
theorem ibUp_cong {p : Nat → Nat} {n : Nat} {mt mt' : Nat → Int32} : ∀ (k : Nat) (f f' : Nat → Int32), k < n → (∀ j, 0 < j → j ≤ k → p j < j) → (∀ j, j < n → mt j = mt' j) → (∀ j, j < n → f j = f' j) → ∀ j, j < n → ibUp p mt k f j = ibUp p mt' k f' j
  | 0, _, _, _, _, _, h => h
  | k + 1, f, f', hk, hp, hm, h => by
    refine ibUp_cong k _ _ (by omega) (fun j h1 h2 => hp j h1 (by omega)) hm (fun j hj => ?_)
    have h1 := hp (k + 1) (by omega) (Nat.le_refl _)
    rw [hm (k + 1) hk]
    split
    · by_cases e : j = p (k + 1)
      · subst e
        rw [upd_at, upd_at, h _ hj, h _ hk]
      · rw [upd_ne e, upd_ne e, h j hj]
    · exact h j hj
def ibF (V : View) (mt : Nat → Int32) : Nat → Int32 := ibUp (vP V) mt (vN V - 1) (fun j => if j = 0 then 0 else 1)
/-- the regions' cells at Z, but the meters' row -/
def mR (M : Mem) (Z : Nat) (c : Int32) (f2 f3 f4 f5 : Nat → Int32) : Mem := fun q => if q = Z then upd (M Z) 5 c else if q = Z + 2 then f2 else if q = Z + 3 then f3 else if q = Z + 4 then f4 else if q = Z + 5 then f5 else M q
theorem mR_id {M : Mem} {Z : Nat} {c : Int32} (h : M Z 5 = c) : M = mR M Z c (M (Z + 2)) (M (Z + 3)) (M (Z + 4)) (M (Z + 5)) := by
  funext q
  simp only [mR]
  split
  · rename_i e
    subst e
    funext j
    by_cases e : j = 5
    · subst e; rw [upd_at]; exact h
    · rw [upd_ne e]
  · split
    · rename_i e; rw [e]
    · split
      · rename_i e; rw [e]
      · split
        · rename_i e; rw [e]
        · split
          · rename_i e; rw [e]
          · rfl
theorem mR_set {M : Mem} {Z : Nat} {c : Int32} : mset M Z 5 c = mR M Z c (M (Z + 2)) (M (Z + 3)) (M (Z + 4)) (M (Z + 5)) := by
  have h := mR_id (M := mset M Z 5 c) (Z := Z) (c := c) (by rw [mset_at, upd_at])
  rw [h]
  funext q
  simp only [mR]
  split
  · rw [mset_at]
    funext j
    by_cases e : j = 5
    · subst e; rw [upd_at, upd_at]
    · rw [upd_ne e, upd_ne e]
  · rename_i e
    rw [mset_ne (by omega), mset_ne (by omega), mset_ne (by omega), mset_ne (by omega), mset_ne e]
theorem mR_2 {M : Mem} {Z : Nat} {c : Int32} {f2 f3 f4 f5 : Nat → Int32} : mR M Z c f2 f3 f4 f5 (Z + 2) = f2 := by simp [mR]
theorem mR_3 {M : Mem} {Z : Nat} {c : Int32} {f2 f3 f4 f5 : Nat → Int32} : mR M Z c f2 f3 f4 f5 (Z + 3) = f3 := by simp [mR]
theorem mR_4 {M : Mem} {Z : Nat} {c : Int32} {f2 f3 f4 f5 : Nat → Int32} : mR M Z c f2 f3 f4 f5 (Z + 4) = f4 := by simp [mR]
theorem mR_5 {M : Mem} {Z : Nat} {c : Int32} {f2 f3 f4 f5 : Nat → Int32} : mR M Z c f2 f3 f4 f5 (Z + 5) = f5 := by simp [mR]
theorem mR_c {M : Mem} {Z : Nat} {c : Int32} {f2 f3 f4 f5 : Nat → Int32} : mR M Z c f2 f3 f4 f5 Z 5 = c := by simp [mR, upd]
theorem mR_o {M : Mem} {Z q : Nat} {c : Int32} {f2 f3 f4 f5 : Nat → Int32} (h : q < Z ∨ q = Z + 1 ∨ Z + 5 < q) : mR M Z c f2 f3 f4 f5 q = M q := by
  simp only [mR]
  rw [if_neg (by omega), if_neg (by omega), if_neg (by omega), if_neg (by omega), if_neg (by omega)]
theorem mR_s2 {M : Mem} {Z i : Nat} {c x : Int32} {f2 f3 f4 f5 : Nat → Int32} : mset (mR M Z c f2 f3 f4 f5) (Z + 2) i x = mR M Z c (upd f2 i x) f3 f4 f5 := by
  funext q
  by_cases e : q = Z + 2
  · subst e; rw [mset_at, mR_2, mR_2]
  · rw [mset_ne e]; simp [mR, e]
theorem mR_s3 {M : Mem} {Z i : Nat} {c x : Int32} {f2 f3 f4 f5 : Nat → Int32} : mset (mR M Z c f2 f3 f4 f5) (Z + 3) i x = mR M Z c f2 (upd f3 i x) f4 f5 := by
  funext q
  by_cases e : q = Z + 3
  · subst e; rw [mset_at, mR_3, mR_3]
  · rw [mset_ne e]; simp [mR, e]
theorem mR_s4 {M : Mem} {Z i : Nat} {c x : Int32} {f2 f3 f4 f5 : Nat → Int32} : mset (mR M Z c f2 f3 f4 f5) (Z + 4) i x = mR M Z c f2 f3 (upd f4 i x) f5 := by
  funext q
  by_cases e : q = Z + 4
  · subst e; rw [mset_at, mR_4, mR_4]
  · rw [mset_ne e]; simp [mR, e]
theorem mR_s5 {M : Mem} {Z i : Nat} {c x : Int32} {f2 f3 f4 f5 : Nat → Int32} : mset (mR M Z c f2 f3 f4 f5) (Z + 5) i x = mR M Z c f2 f3 f4 (upd f5 i x) := by
  funext q
  by_cases e : q = Z + 5
  · subst e; rw [mset_at, mR_5, mR_5]
  · rw [mset_ne e]; simp [mR, e]
theorem mR_r3 {M : Mem} {Z : Nat} {c : Int32} {f2 f3 f4 f5 f : Nat → Int32} : mrow (mR M Z c f2 f3 f4 f5) (Z + 3) f = mR M Z c f2 f f4 f5 := by
  funext q
  by_cases e : q = Z + 3
  · subst e; rw [mrow_at, mR_3]
  · rw [mrow_ne e]; simp [mR, e]
theorem mR_mR {M : Mem} {Z : Nat} {c c' : Int32} {f2 f3 f4 f5 g2 g3 g4 g5 : Nat → Int32} : mR (mR M Z c f2 f3 f4 f5) Z c' g2 g3 g4 g5 = mR M Z c' g2 g3 g4 g5 := by
  funext q
  simp only [mR]
  split
  · simp only [if_true]
    funext j
    by_cases e : j = 5
    · subst e; rw [upd_at, upd_at]
    · rw [upd_ne e, upd_ne e, upd_ne e]
  · split
    · rfl
    · split
      · rfl
      · split
        · rfl
        · split <;> rfl
/-- the regions' cells at Z, worked out for V with the meters mt -/
def rgOK (M : Mem) (Z : Nat) (V : View) (mt : Nat → Int32) : Prop :=
  M Z 5 = nI (vN V) ∧ (∀ j, j < vN V → M (Z + 1) j = mt j) ∧ ∀ j, j < vN V → M (Z + 2) j = nI (hdF V mt j) ∧ M (Z + 3) j = ibF V mt j ∧ M (Z + 4) j = szF V mt j ∧ M (Z + 5) j = lkF V mt j
theorem rgOK.off {M M' : Mem} {Z a b : Nat} {V : View} {mt : Nat → Int32} (h : rgOK M Z V mt) (ho : offR M M' a b) (hB : Z + 5 < a ∨ b < Z) : rgOK M' Z V mt := by
  obtain ⟨h1, h2, h3⟩ := h
  refine ⟨by rw [ho _ (by omega)]; exact h1, fun j hj => by rw [ho _ (by omega)]; exact h2 j hj, fun j hj => ?_⟩
  rw [ho _ (by omega), ho _ (by omega), ho _ (by omega), ho _ (by omega)]
  exact h3 j hj
theorem rgOK.mt {M : Mem} {Z : Nat} {V : View} {mt mt' : Nat → Int32} (hT : wfT V) (h : rgOK M Z V mt) (hm : ∀ j, j < vN V → mt j = mt' j) : rgOK M Z V mt' := by
  obtain ⟨h1, h2, h3⟩ := h
  have hh : ∀ j, j < vN V → hdF V mt j = hdF V mt' j := fun j hj => hdF_cong hT hm j j (Nat.le_refl j) hj
  refine ⟨h1, fun j hj => (h2 j hj).trans (hm j hj), fun j hj => ?_⟩
  obtain ⟨a, b, c, d⟩ := h3 j hj
  refine ⟨by rw [a, hh j hj], by rw [b]; exact ibUp_cong (vN V - 1) _ _ (by have := hT.1; omega) (fun j h1 h2 => (hT.2.2.2.2 j h1 (by have := hT.1; omega)).2) hm (fun _ _ => rfl) j hj, ?_, ?_⟩
  · rw [c]; exact sumP_cong (fun i h1 h2 => by rw [hh i h2])
  · rw [d]; exact sumP_cong (fun i h1 h2 => by rw [hh i h2])
def balF (mt lk : Nat → Int32) (j : Nat) : Int32 := if j = 0 ∨ ¬ mt j = 0 then lk j else -1
def absI (x : Int32) : Int32 := if 0 ≤ x then x else 0 - x
def nxS (hd : Nat → Nat) (mt ib sz : Nat → Int32) (node : Nat) : Nat → Int32 × Int32
  | 0 => (-1, 0)
  | k + 1 => if k = 0 then (-1, 0) else if hd k = node ∧ mt k = 0 then (if (nxS hd mt ib sz node k).1 = -1 ∨ absI (2 * ib k - sz node) < (nxS hd mt ib sz node k).2 then (nI k, absI (2 * ib k - sz node)) else nxS hd mt ib sz node k) else nxS hd mt ib sz node k
def nextR (n : Nat) (hd : Nat → Nat) (mt ib sz lk : Nat → Int32) (node : Nat) : Int32 := if balF mt lk node ≤ 0 ∨ sz node ≤ 1 then -1 else (nxS hd mt ib sz node n).1
def nextF (V : View) (mt : Nat → Int32) (node : Nat) : Int32 := nextR (vN V) (hdF V mt) mt (ibF V mt) (szF V mt) (lkF V mt) node
def fnS (nx : Nat → Int32) : Nat → Nat → Int32
  | 0, _ => -1
  | f + 1, k => if nx k = -1 then fnS nx f (k + 1) else nx k
theorem fnS_cong {nx nx' : Nat → Int32} : ∀ (f k n : Nat), k + f ≤ n → (∀ j, j < n → nx j = nx' j) → fnS nx f k = fnS nx' f k
  | 0, _, _, _, _ => rfl
  | f + 1, k, n, h, hx => by rw [fnS, fnS, hx k (by omega), fnS_cong f (k + 1) n (by omega) hx]
def fnF (V : View) (mt : Nat → Int32) : Int32 := fnS (nextF V mt) (vN V) 0
theorem nxS_cong {hd hd' : Nat → Nat} {mt mt' ib ib' sz sz' : Nat → Int32} {node : Nat} : ∀ (k : Nat), (∀ j, j < k → hd j = hd' j ∧ mt j = mt' j ∧ ib j = ib' j) → sz node = sz' node → nxS hd mt ib sz node k = nxS hd' mt' ib' sz' node k
  | 0, _, _ => rfl
  | k + 1, h, hs => by
    have r := nxS_cong k (fun j hj => h j (by omega)) hs
    obtain ⟨a, b, c⟩ := h k (by omega)
    rw [nxS, nxS, r, a, b, c, hs]
def susF (V : View) (mt : Nat → Int32) : Int32 := sumA (fun j => b2i (decide (0 < balF mt (lkF V mt) j))) (vN V)
