/-! the tree, flows, temperatures, returns, loads -/
theorem lt_of_nle {a b : Nat} (ha : a < 2 ^ 31) (h : ¬ nI b ≤ nI a) : a < b := by
  rcases Nat.lt_or_ge a b with q | q
  · exact q
  · exact absurd (nI_le q ha) h
theorem le_of_le {a b : Nat} (ha : a < 2 ^ 31) (hb : b < 2 ^ 31) (h : nI a ≤ nI b) : a ≤ b := (nI_leI ha hb).mp h
theorem pk_I {P : Int32 → Mem → Glo → Prop} {v : Int32} {M : Mem} {g : Glo} (h : P v M g) : ∀ (r : Int32) (M' : Mem) (g' : Glo), (r = v ∧ M' = M ∧ g' = g) → P r M' g' := by
  rintro _ _ _ ⟨rfl, rfl, rfl⟩
  exact h
theorem pk_L {P : Int64 → Mem → Glo → Prop} {v : Int64} {M : Mem} {g : Glo} (h : P v M g) : ∀ (r : Int64) (M' : Mem) (g' : Glo), (r = v ∧ M' = M ∧ g' = g) → P r M' g' := by
  rintro _ _ _ ⟨rfl, rfl, rfl⟩
  exact h
theorem pk_V {P : Mem → Glo → Prop} {M : Mem} {g : Glo} (h : P M g) : ∀ (M' : Mem) (g' : Glo), (M' = M ∧ g' = g) → P M' g' := by
  rintro _ _ ⟨rfl, rfl⟩
  exact h
theorem mset_ne {M : Mem} {k q i : Nat} {x : Int32} (h : q ≠ k) : mset M k i x q = M q := by simp [mset, h]
theorem mset_at (M : Mem) (k i : Nat) (x : Int32) : mset M k i x k = upd (M k) i x := by simp [mset]
theorem mset_row_c {M : Mem} {k k' i j : Nat} {f : Nat → Int32} {c x : Int32} (h : k ≠ k') : mset (mset (mrow M k f) k' i c) k j x = mset (mrow M k (upd f j x)) k' i c := by
  funext q
  by_cases h1 : q = k
  · subst h1; simp [mset, mrow, h]
  · by_cases h2 : q = k'
    · subst h2; simp [mset, mrow, h1]
    · simp [mset, mrow, h1, h2]
theorem mset_again (M : Mem) (k i : Nat) (x y : Int32) : mset (mset M k i x) k i y = mset M k i y := by
  funext q j
  by_cases h1 : q = k
  · subst h1
    by_cases h2 : j = i <;> simp [mset, upd, h2]
  · simp [mset, h1]
theorem offR.set {M : Mem} {a b k i : Nat} (x : Int32) (h1 : a ≤ k) (h2 : k ≤ b) : offR M (mset M k i x) a b := fun q hq => mset_ne (by omega)
def minI (x y : Int32) : Int32 := if y < x then y else x
def maxI (x y : Int32) : Int32 := if x < y then y else x
def addUp (p : Nat → Nat) : Nat → (Nat → Int32) → Nat → Int32
  | 0, f => f
  | k + 1, f => addUp p k (upd f (p (k + 1)) (f (p (k + 1)) + f (k + 1)))
theorem addUp_s (p : Nat → Nat) {k : Nat} (h : 0 < k) (f : Nat → Int32) : addUp p k f = addUp p (k - 1) (upd f (p k) (f (p k) + f k)) := by
  obtain ⟨j, rfl⟩ : ∃ j, k = j + 1 := ⟨k - 1, by omega⟩
  rfl
theorem addUp_cong {p : Nat → Nat} {n : Nat} : ∀ (k : Nat) (f f' : Nat → Int32), k < n → (∀ j, 0 < j → j ≤ k → p j < j) → (∀ j, j < n → f j = f' j) → ∀ j, j < n → addUp p k f j = addUp p k f' j
  | 0, _, _, _, _, h => h
  | k + 1, f, f', hk, hp, h => by
    refine addUp_cong k _ _ (by omega) (fun j h1 h2 => hp j h1 (by omega)) (fun j hj => ?_)
    have h1 := hp (k + 1) (by omega) (Nat.le_refl _)
    by_cases e : j = p (k + 1)
    · subst e
      rw [upd_at, upd_at, h _ hj, h _ hk]
    · rw [upd_ne e, upd_ne e, h j hj]
def flowF (V : View) : Nat → Int32 := addUp (vP V) (vN V - 1) (fun j => if j = 0 then 0 else vD V 3 j + vD V 5 j)
def behindF (above ground whole flow : Int32) : Int32 := if flow ≤ 0 then minI above ground else if above ≤ ground then above else above - minI (above - ground) ((above - ground) * whole / (1000 * flow))
def wStep (V : View) (j : Nat) (before : Int32) : Int32 := behindF before (vS V 1) (vD V 2 j * vD V 1 j) (flowF V j)
def wRow (V : View) (sup : Int32) : Nat → Nat → Int32
  | 0 => fun _ => sup
  | k + 1 => upd (wRow V sup k) (k + 1) (wStep V (k + 1) (wRow V sup k (vP V (k + 1))))
def warmF (V : View) (sup : Int32) (j : Nat) : Int32 := wRow V sup j j
theorem wRow_le (V : View) (sup : Int32) : ∀ (k j : Nat), j ≤ k → wRow V sup k j = warmF V sup j
  | 0, j, h => by
    have : j = 0 := by omega
    subst this; rfl
  | k + 1, j, h => by
    by_cases e : j = k + 1
    · subst e; rfl
    · rw [wRow, upd_ne e]
      exact wRow_le V sup k j (by omega)
theorem warmF_0 (V : View) (sup : Int32) : warmF V sup 0 = sup := rfl
theorem warmF_s (V : View) (sup : Int32) {j : Nat} (h : 0 < j) (hp : vP V j < j) : warmF V sup j = wStep V j (warmF V sup (vP V j)) := by
  obtain ⟨k, rfl⟩ : ∃ k, j = k + 1 := ⟨j - 1, by omega⟩
  show wRow V sup (k + 1) (k + 1) = _
  rw [wRow, upd_at, wRow_le V sup k _ (by omega)]
def rF (V : View) (sup : Int32) (j : Nat) : Int32 := minI (vD V 4 j) (warmF V sup j)
def backF (V : View) (sup : Int32) : Nat → Int32 := addUp (vP V) (vN V - 1) (fun j => if j = 0 then 0 else vD V 3 j * rF V sup j)
def needF (V : View) (sup : Int32) : Int32 := maxI 0 (flowF V 0 * sup - backF V sup 0)
/-! boilers -/
def cntA (p : Nat → Bool) : Nat → Nat
  | 0 => 0
  | k + 1 => cntA p k + (if p k then 1 else 0)
theorem cntA_le (p : Nat → Bool) : ∀ k, cntA p k ≤ k
  | 0 => Nat.le_refl 0
  | k + 1 => by
    have := cntA_le p k
    rw [cntA]
    split <;> omega
theorem cntA_lt {p : Nat → Bool} : ∀ {k j : Nat}, j < k → p j = false → cntA p k < k
  | k + 1, j, h, hp => by
    rw [cntA]
    by_cases e : j = k
    · subst e
      have := cntA_le p j
      simp [hp]; omega
    · have := cntA_lt (k := k) (j := j) (by omega) hp
      split <;> omega
theorem cntA_sub {p q : Nat → Bool} : ∀ {k : Nat}, (∀ j, j < k → p j = true → q j = true) → cntA p k ≤ cntA q k
  | 0, _ => Nat.le_refl 0
  | k + 1, h => by
    have r := cntA_sub (k := k) (fun j hj => h j (by omega))
    have hk := h k (by omega)
    rw [cntA, cntA]
    by_cases e : p k = true
    · simp [e, hk e]; omega
    · simp [e]; omega
theorem cntA_ssub {p q : Nat → Bool} : ∀ {k i : Nat}, (∀ j, j < k → p j = true → q j = true) → i < k → p i = false → q i = true → cntA p k < cntA q k
  | k + 1, i, h, hi, h1, h2 => by
    rw [cntA, cntA]
    by_cases e : i = k
    · subst e
      have r := cntA_sub (k := i) (fun j hj => h j (by omega))
      simp [h1, h2]; omega
    · have r := cntA_ssub (k := k) (i := i) (fun j hj => h j (by omega)) (by omega) h1 h2
      have hk := h k (by omega)
      by_cases e : p k = true
      · simp [e, hk e]; omega
      · simp [e]; omega
theorem cntA_cong {p q : Nat → Bool} : ∀ {k : Nat}, (∀ j, j < k → p j = q j) → cntA p k = cntA q k
  | 0, _ => rfl
  | k + 1, h => by rw [cntA, cntA, cntA_cong (k := k) (fun j hj => h j (by omega)), h k (by omega)]
def bef (V : View) (o b : Nat) : Bool := decide (vO V 2 o < vO V 2 b) || (decide (vO V 2 o = vO V 2 b) && decide (o < b))
def placeN (V : View) (b : Nat) : Nat := cntA (fun o => bef V o b) (vB V)
theorem bef_irr (V : View) (b : Nat) : bef V b b = false := by
  have h : ¬ vO V 2 b < vO V 2 b := by rw [i32_lt]; omega
  simp [bef, h]
theorem bef_tr (V : View) {a b c : Nat} (h1 : bef V a b = true) (h2 : bef V b c = true) : bef V a c = true := by
  simp only [bef, Bool.or_eq_true, Bool.and_eq_true, decide_eq_true_eq, i32_lt, i32_eq] at *
  omega
theorem bef_tot (V : View) {a b : Nat} (h : a ≠ b) : bef V a b = true ∨ bef V b a = true := by
  simp only [bef, Bool.or_eq_true, Bool.and_eq_true, decide_eq_true_eq, i32_lt, i32_eq] at *
  omega
theorem placeN_lt (V : View) {b : Nat} (h : b < vB V) : placeN V b < vB V := cntA_lt h (bef_irr V b)
theorem placeN_mono (V : View) {a b : Nat} (ha : a < vB V) (h : bef V a b = true) : placeN V a < placeN V b :=
  cntA_ssub (fun _ _ hj => bef_tr V hj h) ha (bef_irr V a) h
theorem placeN_inj (V : View) {a b : Nat} (ha : a < vB V) (hb : b < vB V) (h : placeN V a = placeN V b) : a = b := by
  rcases Nat.decEq a b with e | e
  · rcases bef_tot V e with q | q
    · have := placeN_mono V ha q; omega
    · have := placeN_mono V hb q; omega
  · exact e
theorem inj_onto : ∀ (n : Nat) (f : Nat → Nat), (∀ i, i < n → f i < n) → (∀ i j, i < n → j < n → f i = f j → i = j) → ∀ y, y < n → ∃ i, i < n ∧ f i = y
  | 0, _, _, _, y, hy => absurd hy (Nat.not_lt_zero y)
  | n + 1, f, hf, hi, y, hy => by
    -- g: f with the value n moved to where f n is
    by_cases hn : f n = n
    · by_cases e : y = n
      · exact ⟨n, by omega, by omega⟩
      · obtain ⟨i, h1, h2⟩ := inj_onto n f (fun i h => by
          have := hf i (by omega)
          have h3 : f i ≠ n := fun h4 => by have := hi i n (by omega) (by omega) (by omega); omega
          omega) (fun i j h1 h2 h3 => hi i j (by omega) (by omega) h3) y (by omega)
        exact ⟨i, by omega, h2⟩
    · have hfn := hf n (by omega)
      have key : ∀ y, y < n → ∃ i, i < n ∧ (if f i = n then f n else f i) = y := inj_onto n (fun i => if f i = n then f n else f i) (fun i h => by
          have := hf i (by omega)
          show (if f i = n then f n else f i) < n
          split <;> omega) (fun i j h1 h2 h3 => by
          have e3 : (if f i = n then f n else f i) = (if f j = n then f n else f j) := h3
          by_cases a : f i = n <;> by_cases b : f j = n
          · exact hi i j (by omega) (by omega) (by omega)
          · rw [if_pos a, if_neg b] at e3
            have := hi n j (by omega) (by omega) e3; omega
          · rw [if_neg a, if_pos b] at e3
            have := hi i n (by omega) (by omega) e3; omega
          · rw [if_neg a, if_neg b] at e3
            exact hi i j (by omega) (by omega) e3)
      by_cases e : y = n
      · obtain ⟨i, h1, h2⟩ := key (f n) (by omega)
        by_cases a : f i = n
        · exact ⟨i, by omega, by omega⟩
        · rw [if_neg a] at h2
          have := hi i n (by omega) (by omega) h2; omega
      · obtain ⟨i, h1, h2⟩ := key y (by omega)
        by_cases a : f i = n
        · rw [if_pos a] at h2
          exact ⟨n, by omega, h2⟩
        · rw [if_neg a] at h2
          exact ⟨i, by omega, h2⟩
theorem placeN_onto (V : View) {k : Nat} (h : k < vB V) : ∃ b, b < vB V ∧ placeN V b = k :=
  inj_onto (vB V) (placeN V) (fun _ hi => placeN_lt V hi) (fun _ _ hi hj e => placeN_inj V hi hj e) k h
/-- the first place at which p holds, or n -/
def fstA (p : Nat → Bool) : Nat → Nat → Nat
  | 0, k => k
  | n + 1, k => if p k then k else fstA p n (k + 1)
def boilAt (V : View) (k : Nat) : Nat := fstA (fun b => decide (placeN V b = k)) (vB V) 0
theorem fstA_spec {p : Nat → Bool} : ∀ (n k : Nat), (∃ b, k ≤ b ∧ b < k + n ∧ p b = true) → k ≤ fstA p n k ∧ fstA p n k < k + n ∧ p (fstA p n k) = true ∧ ∀ j, k ≤ j → j < fstA p n k → p j = false
  | 0, k, ⟨b, h1, h2, _⟩ => by omega
  | n + 1, k, ⟨b, h1, h2, h3⟩ => by
    by_cases e : p k = true
    · simp only [fstA, e, if_true]
      exact ⟨Nat.le_refl k, by omega, trivial, fun j a b => by omega⟩
    · have hb : b ≠ k := fun z => e (z ▸ h3)
      obtain ⟨a1, a2, a3, a4⟩ := fstA_spec n (k + 1) ⟨b, by omega, by omega, h3⟩
      simp only [fstA, e]
      exact ⟨by simp; omega, by simp; omega, by simpa using a3, fun j h5 h6 => by
        by_cases z : j = k
        · subst z; simpa using e
        · exact a4 j (by omega) (by simpa using h6)⟩
theorem boilAt_spec (V : View) {k : Nat} (h : k < vB V) : boilAt V k < vB V ∧ placeN V (boilAt V k) = k ∧ ∀ j, j < boilAt V k → ¬ placeN V j = k := by
  obtain ⟨b, h1, h2⟩ := placeN_onto V h
  obtain ⟨a1, a2, a3, a4⟩ := fstA_spec (p := fun b => decide (placeN V b = k)) (vB V) 0 ⟨b, by omega, by omega, by simp [h2]⟩
  exact ⟨by unfold boilAt; omega, by simpa [boilAt] using a3, fun j hj => by simpa using a4 j (by omega) hj⟩
theorem boilAt_place (V : View) {b : Nat} (h : b < vB V) : boilAt V (placeN V b) = b := by
  obtain ⟨h1, h2, -⟩ := boilAt_spec V (placeN_lt V h)
  exact placeN_inj V h1 h h2
def ldV (V : View) (left : Int32) (b : Nat) : Int32 := if 0 < minI (vO V 0 b) left ∧ minI (vO V 0 b) left < vO V 1 b then vO V 1 b else minI (vO V 0 b) left
def nxL (V : View) (left : Int32) (b : Nat) : Int32 := if 0 < minI (vO V 0 b) left ∧ minI (vO V 0 b) left < vO V 1 b then 0 else left - minI (vO V 0 b) left
def lfF (V : View) (nd : Int32) : Nat → Int32
  | 0 => nd
  | k + 1 => nxL V (lfF V nd k) (boilAt V k)
def csF (V : View) (nd : Int32) : Nat → Int32
  | 0 => 0
  | k + 1 => csF V nd k + ldV V (lfF V nd k) (boilAt V k) * vO V 2 (boilAt V k) / 1000
def unmetF (V : View) (nd : Int32) : Int32 := lfF V nd (vB V)
def costF (V : View) (nd : Int32) : Int32 := csF V nd (vB V)
def loadF (V : View) (nd : Int32) (b : Nat) : Int32 := ldV V (lfF V nd (placeN V b)) b
theorem upd_upd (f : Nat → Int32) (i : Nat) (x y : Int32) : upd (upd f i x) i y = upd f i y := by
  funext j
  by_cases h : j = i <;> simp [upd, h]
theorem nI_nm1 {n : Nat} (h : n < 2 ^ 31) : ¬ nI n = -1 := by
  intro e
  have := nI_toInt h
  rw [e] at this
  have h2 : (-1 : Int32).toInt = -1 := by decide
  omega
/-- an hour's cells at H, worked out for V with the supply sup -/
def hourOK (M : Mem) (H : Nat) (V : View) (sup : Int32) : Prop :=
  (∀ j, j < vN V → M (H + 1) j = flowF V j ∧ M (H + 2) j = warmF V sup j ∧ M (H + 3) j = backF V sup j) ∧ (∀ b, b < vB V → M (H + 4) b = loadF V (needF V sup) b) ∧ M H 4 = needF V sup ∧ M H 5 = unmetF V (needF V sup) ∧ M H 6 = costF V (needF V sup)
theorem hourOK.off {M M' : Mem} {H a b : Nat} {V : View} {sup : Int32} (h : hourOK M H V sup) (ho : offR M M' a b) (hB : H + 4 < a ∨ b < H) : hourOK M' H V sup := by
  obtain ⟨h1, h2, h3, h4, h5⟩ := h
  refine ⟨fun j hj => ?_, fun b hb => by rw [ho _ (by omega)]; exact h2 b hb, by rw [ho _ (by omega)]; exact h3, by rw [ho _ (by omega)]; exact h4, by rw [ho _ (by omega)]; exact h5⟩
  rw [ho _ (by omega), ho _ (by omega), ho _ (by omega)]
  exact h1 j hj
theorem hour_fin {M : Mem} {H : Nat} {V : View} {sup : Int32} {f1 f2 f3 f4 : Nat → Int32} (h1 : ∀ j, j < vN V → f1 j = flowF V j) (h2 : ∀ j, j < vN V → f2 j = warmF V sup j) (h3 : ∀ j, j < vN V → f3 j = backF V sup j) (h4 : ∀ b, b < vB V → f4 b = loadF V (needF V sup) b) :
    hourOK (mset (mset (mrow (mset (mrow (mrow (mrow M (H + 1) f1) (H + 2) f2) (H + 3) f3) H 4 (needF V sup)) (H + 4) f4) H 6 (costF V (needF V sup))) H 5 (unmetF V (needF V sup))) H V sup ∧ offR M (mset (mset (mrow (mset (mrow (mrow (mrow M (H + 1) f1) (H + 2) f2) (H + 3) f3) H 4 (needF V sup)) (H + 4) f4) H 6 (costF V (needF V sup))) H 5 (unmetF V (needF V sup))) H (H + 4) := by
  refine ⟨⟨fun j hj => ⟨?_, ?_, ?_⟩, fun b hb => ?_, ?_, ?_, ?_⟩, fun q hq => ?_⟩
  · rw [← h1 j hj]; simp [mset, mrow]
  · rw [← h2 j hj]; simp [mset, mrow]
  · rw [← h3 j hj]; simp [mset, mrow]
  · rw [← h4 b hb]; simp [mset, mrow]
  · simp [mset, mrow, upd]
  · simp [mset, mrow, upd]
  · simp [mset, mrow, upd]
  · rw [mset_ne (by omega), mset_ne (by omega), mrow_ne (by omega), mset_ne (by omega), mrow_ne (by omega), mrow_ne (by omega), mrow_ne (by omega)]
