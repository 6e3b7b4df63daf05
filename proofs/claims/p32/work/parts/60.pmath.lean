-- pure: what the law's own sums come to
/-- sums up the tree are sums over branches -/
theorem ibUp_all (p : Nat → Nat) : ∀ (k : Nat) (f : Nat → Int32), ibUp p (fun _ => 0) k f = addUp p k f
  | 0, _ => rfl
  | k + 1, f => by
    rw [ibUp, addUp, if_pos rfl]
    exact ibUp_all p k _
theorem re_all {V : View} (hT : wfT V) {n : Nat} (hn : n < vN V) : ∀ i, i < vN V → reA (vP V) (fun _ => 0) (vN V - 1) n i i = b2i (belF V n i) := by
  have hp : ∀ i, 0 < i → i < vN V → vP V i < i := fun i a b => (hT.2.2.2.2 i a b).2
  intro i
  induction i using Nat.strongRecOn with
  | ind i ih =>
    intro hi
    rcases Nat.lt_trichotomy i n with q | q | q
    · rw [reA_lo hp i i hi q, belF_lo (by omega), decide_eq_false (show ¬ i = n by omega)]
      rfl
    · subst q
      rw [belF_lo (Nat.le_refl i), decide_eq_true rfl]
      cases i with
      | zero => rfl
      | succ k =>
        have h := hp (k + 1) (by omega) hi
        rw [reA, decide_eq_true rfl, if_pos ⟨by omega, by omega, rfl⟩, reA_lo hp k _ (by omega) h]
        rfl
    · obtain ⟨k, rfl⟩ : ∃ k, i = k + 1 := ⟨i - 1, by omega⟩
      have h := hp (k + 1) (by omega) hi
      rw [reA, decide_eq_false (show ¬ k + 1 = n by omega), belF_up hT q hi, if_pos ⟨by omega, by omega, rfl⟩, reA_fuel hp _ k (by omega) (by omega), ih _ h (by omega), show b2i false = 0 from rfl, Int32.zero_add]
theorem mul_b2i (x : Int32) (b : Bool) : x * b2i b = if b = true then x else 0 := by
  cases b
  · exact Int32.mul_zero
  · exact Int32.mul_one x
/-- the sum that the law makes over the nodes 1, 2 .. that are in n's branch -/
def brS (V : View) (f : Nat → Int32) (n k : Nat) : Int32 := sumP (fun o => if belF V n o = true then f o else 0) k
theorem up_brS {V : View} (hT : wfT V) {n : Nat} (hn : n < vN V) (f : Nat → Int32) : addUp (vP V) (vN V - 1) (fun j => if j = 0 then 0 else f j) n = brS V f n (vN V) := by
  have hp : ∀ i, 0 < i → i < vN V → vP V i < i := fun i a b => (hT.2.2.2.2 i a b).2
  rw [← ibUp_all, ib_sum hp hn _ _ (by omega)]
  refine sumAP _ (fun i hi => ?_)
  rw [re_all hT hn i hi, mul_b2i]
  by_cases z : i = 0
  · rw [if_pos z, if_pos z]
    split <;> rfl
  · rw [if_neg z, if_neg z]
theorem flow_br {V : View} (hT : wfT V) {n : Nat} (hn : n < vN V) : brS V (fun o => vD V 3 o + vD V 5 o) n (vN V) = flowF V n := (up_brS hT hn _).symm
theorem back_br {V : View} (hT : wfT V) {n : Nat} (hn : n < vN V) (sup : Int32) : brS V (fun o => vD V 3 o * rF V sup o) n (vN V) = backF V sup n := (up_brS hT hn _).symm
/-- the law's words for a temperature behind a pipe -/
def lawT (up g F ls ln : Int32) : Int32 :=
  if F = 0 then (if 0 < up - g then g else up) else if up - g ≤ 0 then up else if up - g < (up - g) * ls * ln / (1000 * F) then g else up - (up - g) * ls * ln / (1000 * F)
theorem sub_pos32 {a b : Int32} (h1 : -2147483648 ≤ a.toInt - b.toInt) (h2 : a.toInt - b.toInt < 2147483648) : 0 < a - b ↔ b < a := by
  rw [i32_lt, i32_lt, i32_sub h1 h2, show (0 : Int32).toInt = 0 by decide]
  omega
theorem lawT_eq {up g F ls ln : Int32} (hu : inR up (-200) 1200) (hg : inR g (-200) 300) (h0 : 0 ≤ F.toInt) : lawT up g F ls ln = behindF up g (ls * ln) F := by
  obtain ⟨u1, u2⟩ := hu
  obtain ⟨g1, g2⟩ := hg
  have e0 : (0 : Int32).toInt = 0 := by decide
  have hs := sub_pos32 (a := up) (b := g) (by omega) (by omega)
  unfold lawT behindF
  by_cases hF : F = 0
  · have hF0 : F ≤ 0 := by rw [hF]; decide
    rw [if_pos hF, if_pos hF0]
    unfold minI
    by_cases q : g < up
    · rw [if_pos (hs.mpr q), if_pos q]
    · rw [if_neg (fun z => q (hs.mp z)), if_neg q]
  · have hF2 : ¬ F ≤ 0 := fun z => hF (i32_eq.mpr (by have := i32_le.mp z; omega))
    rw [if_neg hF, if_neg hF2]
    have hle : up - g ≤ 0 ↔ up ≤ g := by
      rw [← i32_nlt, hs, i32_nlt]
    by_cases q : up ≤ g
    · rw [if_pos (hle.mpr q), if_pos q]
    · rw [if_neg (fun z => q (hle.mp z)), if_neg q, Int32.mul_assoc (up - g) ls ln]
      generalize (up - g) * (ls * ln) / (1000 * F) = y
      unfold minI
      by_cases z : up - g < y
      · rw [if_pos z]
        by_cases w : y < up - g
        · exact absurd (i32_lt.mp w) (by have := i32_lt.mp z; omega)
        · have s1 : (up - g).toInt = up.toInt - g.toInt := i32_sub (by omega) (by omega)
          rw [if_neg w]
          exact i32_eq.mpr (by rw [i32_sub (by rw [s1]; omega) (by rw [s1]; omega), s1]; omega)
      · rw [if_neg z]
        by_cases w : y < up - g
        · rw [if_pos w]
        · have : y = up - g := i32_eq.mpr (by have := i32_le.mp (i32_nlt.mp z); have := i32_le.mp (i32_nlt.mp w); omega)
          rw [if_neg w, this]
theorem lawT_warm {V : View} (hW : wfV V) {j : Nat} (h0 : 0 < j) (hj : j < vN V) : lawT (warmF V (vSup V) (vP V j)) (vS V 1) (flowF V j) (vD V 2 j) (vD V 1 j) = warmF V (vSup V) j := by
  have hp := (hW.1.2.2.2.2 j h0 hj).2
  have hs : inR (vSup V) (-200) 1200 := ⟨by have := hW.2.2.2.1.1.1; unfold vSup; omega, hW.2.2.2.1.1.2⟩
  rw [warmF_s V _ h0 hp, lawT_eq (warm_bd hW hs (vP V j) (vP V j) (Nat.le_refl _) (by omega)) hW.2.2.2.1.2.1 (flow_bd hW hj).1]
  rfl
theorem need_eq (V : View) (sup : Int32) : (if flowF V 0 * sup - backF V sup 0 < 0 then (0 : Int32) else flowF V 0 * sup - backF V sup 0) = needF V sup := by
  unfold needF maxI
  generalize flowF V 0 * sup - backF V sup 0 = x
  by_cases h : x < 0
  · rw [if_pos h, if_neg (fun z => by have := i32_lt.mp h; have := i32_lt.mp z; omega)]
  · rw [if_neg h]
    by_cases z : 0 < x
    · rw [if_pos z]
    · rw [if_neg z]
      exact i32_eq.mpr (by have := i32_le.mp (i32_nlt.mp h); have := i32_le.mp (i32_nlt.mp z); omega)
/-- boilers that come before (c, k) in the order of costs, then of numbers -/
def befC (V : View) (c k b : Nat) : Bool := decide ((vO V 2 b).toInt < c) || (decide ((vO V 2 b).toInt = c) && decide (b < k))
def cntC (V : View) (c k : Nat) : Nat := cntA (befC V c k) (vB V)
theorem cntA_none {p : Nat → Bool} : ∀ k, (∀ j, j < k → p j = false) → cntA p k = 0
  | 0, _ => rfl
  | k + 1, h => by rw [cntA, cntA_none k (fun j hj => h j (by omega)), h k (by omega)]; rfl
theorem cntA_all {p : Nat → Bool} : ∀ k, (∀ j, j < k → p j = true) → cntA p k = k
  | 0, _ => rfl
  | k + 1, h => by rw [cntA, cntA_all k (fun j hj => h j (by omega)), h k (by omega)]; rfl
theorem cntA_ins {p q : Nat → Bool} {a : Nat} (ha : p a = false) (hb : q a = true) : ∀ k, (∀ j, j < k → j ≠ a → p j = q j) → cntA q k = cntA p k + (if a < k then 1 else 0)
  | 0, _ => rfl
  | k + 1, h => by
    rw [cntA, cntA, cntA_ins ha hb k (fun j hj => h j (by omega))]
    by_cases e : k = a
    · subst e
      simp [ha, hb]
    · have h1 := h k (by omega) e
      have h2 : (a < k + 1) = (a < k) := propext ⟨fun z => by omega, fun z => by omega⟩
      simp only [h1, h2]
      omega
theorem cntC_0 {V : View} (hW : wfV V) : cntC V 0 0 = 0 := cntA_none _ (fun j hj => by
  have := (hW.2.2.2.2 j hj).2.2.2.1
  simp [befC]; omega)
theorem cntC_next (V : View) (c : Nat) : cntC V c (vB V) = cntC V (c + 1) 0 := cntA_cong (fun j hj => by
  unfold befC
  by_cases h : (vO V 2 j).toInt < c
  · rw [decide_eq_true h, decide_eq_true (show (vO V 2 j).toInt < ((c + 1 : Nat) : Int) by omega)]; rfl
  · by_cases e : (vO V 2 j).toInt = c
    · rw [decide_eq_false h, decide_eq_true e, decide_eq_true hj, decide_eq_true (show (vO V 2 j).toInt < ((c + 1 : Nat) : Int) by omega)]; rfl
    · rw [decide_eq_false h, decide_eq_false e, decide_eq_false (show ¬ (vO V 2 j).toInt < ((c + 1 : Nat) : Int) by omega), decide_eq_false (show ¬ j < 0 by omega), Bool.and_false]; rfl)
theorem cntC_end {V : View} (hW : wfV V) : cntC V 100 0 = vB V := cntA_all _ (fun j hj => by
  have := (hW.2.2.2.2 j hj).2.2.2.2
  simp [befC]; omega)
theorem cntC_skip {V : View} {c k : Nat} (h : ¬ (vO V 2 k).toInt = c) : cntC V c (k + 1) = cntC V c k := cntA_cong (fun j hj => by
  unfold befC
  by_cases e : j = k
  · subst e
    rw [decide_eq_false h, Bool.false_and, Bool.false_and]
  · congr 2
    exact decide_eq_decide.mpr (by omega))
theorem cntC_take {V : View} {c k : Nat} (hk : k < vB V) (h : (vO V 2 k).toInt = c) : cntC V c (k + 1) = cntC V c k + 1 := by
  unfold cntC
  rw [cntA_ins (p := befC V c k) (q := befC V c (k + 1)) (a := k) (by simp [befC]; omega) (by simp [befC, h]) (vB V) (fun j hj e => by
    unfold befC
    congr 2
    exact decide_eq_decide.mpr (by omega)), if_pos hk]
theorem cntC_place {V : View} {c k : Nat} (h : (vO V 2 k).toInt = c) : placeN V k = cntC V c k := cntA_cong (fun j hj => by
  unfold befC bef
  congr 1
  · exact decide_eq_decide.mpr (by rw [i32_lt, h])
  · congr 1
    exact decide_eq_decide.mpr (by rw [i32_eq, h]))
theorem lf_take {V : View} {nd : Int32} {c k : Nat} (hk : k < vB V) (h : (vO V 2 k).toInt = c) : boilAt V (cntC V c k) = k ∧ loadF V nd k = ldV V (lfF V nd (cntC V c k)) k ∧ lfF V nd (cntC V c (k + 1)) = nxL V (lfF V nd (cntC V c k)) k ∧ csF V nd (cntC V c (k + 1)) = csF V nd (cntC V c k) + ldV V (lfF V nd (cntC V c k)) k * vO V 2 k / 1000 := by
  have hp := cntC_place (V := V) h
  have hb : boilAt V (cntC V c k) = k := by rw [← hp]; exact boilAt_place V hk
  refine ⟨hb, by unfold loadF; rw [hp], ?_, ?_⟩
  · rw [cntC_take hk h, lfF, hb]
  · rw [cntC_take hk h, csF, hb]
/-- the law's words for a boiler's place -/
theorem place4 {V : View} (hW : wfV V) {k : Nat} (hk : k < vB V) : sumA (fun i => b2i (decide (4 * vO V 2 i + nI i < 4 * vO V 2 k + nI k))) (vB V) = nI (placeN V k) := by
  have hb4 := hW.1.2.2.1
  have e4 : (4 : Int32).toInt = 4 := by decide
  have tI : ∀ i, i < vB V → (4 * vO V 2 i + nI i).toInt = 4 * (vO V 2 i).toInt + i := fun i hi => by
    obtain ⟨c1, c2⟩ := (hW.2.2.2.2 i hi).2.2.2
    have e1 : (4 * vO V 2 i).toInt = 4 * (vO V 2 i).toInt := by rw [i32_mul (by rw [e4]; omega) (by rw [e4]; omega), e4]
    have e2 := nI_toInt (n := i) (by omega)
    rw [i32_add (by rw [e1, e2]; omega) (by rw [e1, e2]; omega), e1, e2]
  unfold placeN
  rw [← sumA_cnt]
  refine sumA_cong (fun i hi => ?_)
  congr 1
  rw [show bef V i k = decide (vO V 2 i < vO V 2 k ∨ (vO V 2 i = vO V 2 k ∧ i < k)) by unfold bef; simp]
  refine decide_eq_decide.mpr ?_
  rw [i32_lt, i32_lt, i32_eq, tI i hi, tI k hk]
  omega
/-- what leaves the boiler house goes somewhere: flows times falls of temperature, summed -/
theorem fall_sum {p : Nat → Nat} (T : Nat → Int32) : ∀ (k : Nat) (f : Nat → Int32), (∀ i, 0 < i → i ≤ k → p i < i) → sumP (fun n => addUp p k f n * (T (p n) - T n)) (k + 1) + sumA (fun n => f n * T n) (k + 1) = T 0 * addUp p k f 0
  | 0, f, _ => by
    rw [sumP_1, sumA, sumA, Int32.zero_add, Int32.zero_add]
    exact Int32.mul_comm _ _
  | k + 1, f, hp => by
    have hq := hp (k + 1) (by omega) (Nat.le_refl _)
    have hp2 : ∀ i, 0 < i → i ≤ k → p i < i := fun i a b => hp i a (by omega)
    have h0 : addUp p (k + 1) f = addUp p k (upd f (p (k + 1)) (f (p (k + 1)) + f (k + 1))) := rfl
    have ih := fall_sum T k (upd f (p (k + 1)) (f (p (k + 1)) + f (k + 1))) hp2
    have hh : addUp p k (upd f (p (k + 1)) (f (p (k + 1)) + f (k + 1))) (k + 1) = f (k + 1) := by
      rw [addUp_hi k _ (k + 1) hp2 (by omega), upd_ne (by omega)]
    have h1 : sumA (fun n => upd f (p (k + 1)) (f (p (k + 1)) + f (k + 1)) n * T n) (k + 1) = sumA (fun n => f n * T n) (k + 1) + f (k + 1) * T (p (k + 1)) :=
      sumA_one (a := p (k + 1)) (fun i _ h => by rw [upd_ne h]) (by omega) (by rw [upd_at, Int32.add_mul])
    rw [h0, ← ih, h1, sumP_s _ (by omega), sumA, hh, Int32.mul_sub]
    generalize sumP _ (k + 1) = a
    generalize sumA _ (k + 1) = b
    generalize f (k + 1) * T (p (k + 1)) = x
    generalize f (k + 1) * T (k + 1) = y
    rw [Int32.sub_eq_add_neg, Int32.add_assoc, Int32.add_assoc, Int32.add_comm b y, ← Int32.add_assoc (-y), Int32.add_left_neg, Int32.zero_add, Int32.add_comm x b]
theorem sumP_add (f h : Nat → Int32) : ∀ k, sumP (fun n => f n + h n) k = sumP f k + sumP h k
  | 0 => rfl
  | k + 1 => by
    rw [sumP, sumP, sumP, sumP_add f h k]
    by_cases e : k = 0
    · rw [if_pos e, if_pos e, if_pos e, Int32.add_zero, Int32.add_zero, Int32.add_zero]
    · rw [if_neg e, if_neg e, if_neg e]
      generalize sumP f k = a
      generalize sumP h k = b
      rw [Int32.add_assoc, Int32.add_assoc]
      congr 1
      rw [← Int32.add_assoc, ← Int32.add_assoc, Int32.add_comm b]
theorem bal_sum {V : View} (hW : wfV V) : flowF V 0 * vSup V = sumF V 0 + sumF V 1 + sumF V 2 + backF V (vSup V) 0 := by
  have hT := hW.1
  have hn1 := hT.1
  have hp : ∀ i, 0 < i → i ≤ vN V - 1 → vP V i < i := fun i a b => (hT.2.2.2.2 i a (by omega)).2
  have hN : vN V - 1 + 1 = vN V := by omega
  have h1 := fall_sum (p := vP V) (warmF V (vSup V)) (vN V - 1) (fun j => if j = 0 then 0 else vD V 3 j + vD V 5 j) hp
  rw [hN] at h1
  have h1a : sumP (fun n => addUp (vP V) (vN V - 1) (fun j => if j = 0 then 0 else vD V 3 j + vD V 5 j) n * (warmF V (vSup V) (vP V n) - warmF V (vSup V) n)) (vN V) = sumF V 1 := rfl
  have h1b : sumA (fun n => (if n = 0 then 0 else vD V 3 n + vD V 5 n) * warmF V (vSup V) n) (vN V) = sumP (fun n => vD V 3 n * warmF V (vSup V) n + vD V 5 n * warmF V (vSup V) n) (vN V) :=
    sumAP _ (fun i hi => by
      by_cases z : i = 0
      · rw [if_pos z, if_pos z, Int32.zero_mul]
      · rw [if_neg z, if_neg z, Int32.add_mul])
  have h2 : sumP (fun n => vD V 5 n * warmF V (vSup V) n) (vN V) = sumF V 2 := rfl
  have h3 : backF V (vSup V) 0 = sumP (fun o => vD V 3 o * rF V (vSup V) o) (vN V) := by
    rw [← back_br hT (by omega)]
    refine sumP_cong (fun j h0 hj => if_pos ?_)
    have hb : ∀ j, j < vN V → belF V 0 j = true := by
      intro j
      induction j using Nat.strongRecOn with
      | ind j ih =>
        intro hj
        by_cases z : j = 0
        · subst z; rw [belF_lo (Nat.le_refl _)]; rfl
        · have hq := (hT.2.2.2.2 j (by omega) hj).2
          rw [belF_up hT (by omega) hj]
          exact ih _ hq (by omega)
    exact hb j hj
  have h4 : sumF V 0 + backF V (vSup V) 0 = sumP (fun n => vD V 3 n * warmF V (vSup V) n) (vN V) := by
    rw [h3]
    show sumP (fun j => delF V j) (vN V) + _ = _
    rw [← sumP_add]
    refine sumP_cong (fun j _ _ => ?_)
    unfold delF
    rw [← Int32.mul_add, Int32.sub_add_cancel]
  rw [h1a, h1b, sumP_add, h2, ← h4, warmF_0] at h1
  have h5 : addUp (vP V) (vN V - 1) (fun j => if j = 0 then 0 else vD V 3 j + vD V 5 j) 0 = flowF V 0 := rfl
  rw [h5, Int32.mul_comm] at h1
  rw [← h1]
  generalize sumF V 0 = a
  generalize sumF V 1 = b
  generalize sumF V 2 = d
  generalize backF V (vSup V) 0 = x
  rw [Int32.add_comm a b, Int32.add_assoc b a d, Int32.add_assoc b (a + d) x]
  congr 1
  rw [Int32.add_assoc, Int32.add_assoc, Int32.add_comm x d]
theorem eff_0 {V : View} (hW : wfV V) : flowF V 0 * vS V 0 = 0 ↔ flowF V 0 = 0 := by
  have h1 := flow_bd hW (j := 0) (by have := hW.1.1; omega)
  have h2 := hW.2.2.2.1.1
  obtain ⟨a, b⟩ := h2
  have e0 : (0 : Int32).toInt = 0 := by decide
  have hm : 0 ≤ (flowF V 0).toInt * (vS V 0).toInt := Int.mul_nonneg h1.1 (by omega)
  have hM : (flowF V 0).toInt * (vS V 0).toInt ≤ 9600 * 1200 := Int.mul_le_mul h1.2 b (by omega) (by omega)
  have e := i32_mul (x := flowF V 0) (y := vS V 0) (by omega) (by omega)
  rw [i32_eq, i32_eq, e, e0]
  constructor
  · intro h
    rcases Int.mul_eq_zero.mp h with q | q
    · exact q
    · omega
  · intro h
    rw [h, Int.zero_mul]
