-- pure: how large flows and temperatures grow
theorem i32_add {x y : Int32} (h1 : -2147483648 ≤ x.toInt + y.toInt) (h2 : x.toInt + y.toInt < 2147483648) : (x + y).toInt = x.toInt + y.toInt := by
  rw [Int32.toInt_add]
  exact Int.bmod_eq_of_le (by omega) (by omega)
theorem i32_sub {x y : Int32} (h1 : -2147483648 ≤ x.toInt - y.toInt) (h2 : x.toInt - y.toInt < 2147483648) : (x - y).toInt = x.toInt - y.toInt := by
  rw [Int32.toInt_sub]
  exact Int.bmod_eq_of_le (by omega) (by omega)
theorem i32_mul {x y : Int32} (h1 : -2147483648 ≤ x.toInt * y.toInt) (h2 : x.toInt * y.toInt < 2147483648) : (x * y).toInt = x.toInt * y.toInt := by
  rw [Int32.toInt_mul]
  exact Int.bmod_eq_of_le (by omega) (by omega)
def sumI (f : Nat → Int32) : Nat → Int
  | 0 => 0
  | k + 1 => sumI f k + (f k).toInt
theorem sumI_nn {f : Nat → Int32} : ∀ k, (∀ j, j < k → 0 ≤ (f j).toInt) → 0 ≤ sumI f k
  | 0, _ => Int.le_refl 0
  | k + 1, h => by
    have a := sumI_nn k (fun j hj => h j (by omega))
    have b := h k (by omega)
    rw [sumI]; omega
theorem sumI_ge {f : Nat → Int32} : ∀ k, (∀ j, j < k → 0 ≤ (f j).toInt) → ∀ j, j < k → (f j).toInt ≤ sumI f k
  | 0, _, j, hj => absurd hj (Nat.not_lt_zero _)
  | k + 1, h, j, hj => by
    have b := h k (by omega)
    rw [sumI]
    rcases Nat.lt_or_ge j k with q | q
    · have := sumI_ge k (fun j hj => h j (by omega)) j q; omega
    · have e : j = k := by omega
      subst e
      have := sumI_nn (f := f) j (fun i hi => h i (by omega)); omega
theorem sumI_hi {f : Nat → Int32} {q : Nat} {v : Int32} : ∀ k, k ≤ q → sumI (upd f q v) k = sumI f k
  | 0, _ => rfl
  | k + 1, h => by rw [sumI, sumI, sumI_hi k (by omega), upd_ne (by omega)]
theorem sumI_upd {f : Nat → Int32} {q : Nat} {v : Int32} : ∀ k, q < k → sumI (upd f q v) k = sumI f k - (f q).toInt + v.toInt
  | 0, h => absurd h (Nat.not_lt_zero _)
  | k + 1, h => by
    rw [sumI, sumI]
    rcases Nat.lt_or_ge q k with z | z
    · rw [sumI_upd k z, upd_ne (by omega)]; omega
    · have e : q = k := by omega
      subst e
      rw [sumI_hi q (Nat.le_refl _), upd_at]; omega
theorem sumI_le {f : Nat → Int32} {b : Int} : ∀ k, (∀ j, j < k → (f j).toInt ≤ b) → sumI f k ≤ b * k
  | 0, _ => by simp [sumI]
  | k + 1, h => by
    have a := sumI_le k (fun j hj => h j (by omega))
    have c := h k (by omega)
    rw [sumI, show ((k + 1 : Nat) : Int) = (k : Int) + 1 from rfl, Int.mul_add, Int.mul_one]; omega
theorem addUp_hi {p : Nat → Nat} : ∀ (k : Nat) (f : Nat → Int32) (j : Nat), (∀ i, 0 < i → i ≤ k → p i < i) → k < j → addUp p k f j = f j
  | 0, f, j, _, _ => rfl
  | k + 1, f, j, hp, h => by
    rw [addUp_s p (by omega)]
    show addUp p k _ j = _
    have := hp (k + 1) (by omega) (Nat.le_refl _)
    rw [addUp_hi k _ j (fun i h1 h2 => hp i h1 (by omega)) (by omega), upd_ne (by omega)]
theorem addUp_bd {p : Nat → Nat} {B : Int} (hB : B < 1073741824) : ∀ (k : Nat) (f : Nat → Int32), (∀ i, 0 < i → i ≤ k → p i < i) → (∀ j, j ≤ k → 0 ≤ (f j).toInt) → sumI f (k + 1) ≤ B → ∀ j, j ≤ k → 0 ≤ (addUp p k f j).toInt ∧ (addUp p k f j).toInt ≤ B
  | 0, f, _, h0, hs, j, hj => by
    have e : j = 0 := by omega
    subst e
    show 0 ≤ (f 0).toInt ∧ (f 0).toInt ≤ B
    have h1 := h0 0 (Nat.le_refl _)
    rw [sumI, sumI] at hs
    exact ⟨h1, by omega⟩
  | k + 1, f, hp, h0, hs, j, hj => by
    have hq := hp (k + 1) (by omega) (Nat.le_refl _)
    have g1 := h0 (k + 1) (Nat.le_refl _)
    have g2 := h0 (p (k + 1)) (by omega)
    have g3 := sumI_ge (f := f) (k + 1) (fun j hj => h0 j (by omega)) (p (k + 1)) hq
    rw [sumI] at hs
    have g4 := sumI_nn (f := f) (k + 1) (fun j hj => h0 j (by omega))
    have e1 : (f (p (k + 1)) + f (k + 1)).toInt = (f (p (k + 1))).toInt + (f (k + 1)).toInt := i32_add (by omega) (by omega)
    rw [addUp_s p (by omega)]
    show 0 ≤ (addUp p k _ j).toInt ∧ (addUp p k _ j).toInt ≤ B
    rcases Nat.lt_or_ge j (k + 1) with z | z
    · refine addUp_bd hB k _ (fun i h1 h2 => hp i h1 (by omega)) (fun j hj => ?_) ?_ j (by omega)
      · by_cases e : j = p (k + 1)
        · subst e; rw [upd_at, e1]; omega
        · rw [upd_ne e]; exact h0 j (by omega)
      · rw [sumI_upd (k + 1) hq, e1]; omega
    · have e : j = k + 1 := by omega
      subst e
      rw [addUp_hi k _ (k + 1) (fun i h1 h2 => hp i h1 (by omega)) (by omega), upd_ne (by omega)]
      omega
theorem flow_bd {V : View} (hW : wfV V) {j : Nat} (hj : j < vN V) : 0 ≤ (flowF V j).toInt ∧ (flowF V j).toInt ≤ 9600 := by
  obtain ⟨hn1, hn16, hb4, ⟨hd0, hd3, hd5, hd6⟩, hpar⟩ := hW.1
  have own : ∀ i, i < vN V → 0 ≤ ((fun j => if j = 0 then 0 else vD V 3 j + vD V 5 j : Nat → Int32) i).toInt ∧ ((fun j => if j = 0 then 0 else vD V 3 j + vD V 5 j : Nat → Int32) i).toInt ≤ 600 := by
    intro i hi
    show 0 ≤ (if i = 0 then 0 else vD V 3 i + vD V 5 i : Int32).toInt ∧ (if i = 0 then 0 else vD V 3 i + vD V 5 i : Int32).toInt ≤ 600
    by_cases e : i = 0
    · rw [if_pos e]; exact ⟨by decide, by decide⟩
    · rw [if_neg e]
      obtain ⟨c1, c2, c3, c4, c5, c6⟩ := hW.2.2.1 i (by omega) hi
      have := c3.1; have := c3.2; have := c5.1; have := c5.2
      rw [i32_add (by omega) (by omega)]
      omega
  refine addUp_bd (by decide) (vN V - 1) _ (fun i h1 h2 => (hpar i h1 (by omega)).2) (fun i hi => (own i (by omega)).1) ?_ j (by omega)
  have := sumI_le (b := 600) (vN V - 1 + 1) (fun i hi => (own i (by omega)).2)
  omega
theorem wfZ_of {V : View} (hW : wfV V) : wfZ V := by
  intro j h0 hj hf hz
  have h1 := flow_bd hW hj
  have h2 := i32_lt.mp (i32_nle.mp hf)
  have e : (1000 : Int32).toInt = 1000 := by decide
  have e0 : (0 : Int32).toInt = 0 := by decide
  rw [e0] at h2
  have h3 := congrArg Int32.toInt hz
  rw [i32_mul (by rw [e]; omega) (by rw [e]; omega), e, e0] at h3
  omega
theorem minI_t {x y : Int32} : (minI x y).toInt = min x.toInt y.toInt := by
  unfold minI
  by_cases h : y < x
  · rw [if_pos h]; have := i32_lt.mp h; omega
  · rw [if_neg h]; have := i32_le.mp (i32_nlt.mp h); omega
/-- what is left of a temperature, in whole numbers -/
def bhI (a g w F : Int) : Int := if F ≤ 0 then min a g else if a ≤ g then a else a - min (a - g) ((a - g) * w / (1000 * F))
theorem bhI_bd {a g w F : Int} (hw : 0 ≤ w) : min a g ≤ bhI a g w F ∧ bhI a g w F ≤ a := by
  unfold bhI
  split
  · omega
  · split
    · omega
    · have : 0 ≤ (a - g) * w / (1000 * F) := Int.ediv_nonneg (Int.mul_nonneg (by omega) hw) (by omega)
      omega
theorem bhI_mono {a a' g w F : Int} (hw : 0 ≤ w) (h : a ≤ a') : bhI a g w F ≤ bhI a' g w F := by
  unfold bhI
  by_cases hF : F ≤ 0
  · rw [if_pos hF, if_pos hF]; omega
  · rw [if_neg hF, if_neg hF]
    by_cases h1 : a ≤ g
    · rw [if_pos h1]
      by_cases h2 : a' ≤ g
      · rw [if_pos h2]; exact h
      · rw [if_neg h2]; omega
    · rw [if_neg h1, if_neg (by omega)]
      have hN : 0 < 1000 * F := by omega
      generalize 1000 * F = N at hN
      have hd : 0 ≤ a - g := by omega
      have hdd : 0 ≤ a' - a := by omega
      have e : a' - g = (a - g) + (a' - a) := by omega
      rw [e]
      generalize hx : a - g = d at hd
      generalize hy : a' - a = t at hdd
      have e2 : a' = a + t := by omega
      rw [e2]
      rcases Int.lt_or_le N w with q | q
      · have b1 : d ≤ d * w / N := (Int.le_ediv_iff_mul_le hN).mpr (Int.mul_le_mul_of_nonneg_left (Int.le_of_lt q) hd)
        have b2 : d + t ≤ (d + t) * w / N := (Int.le_ediv_iff_mul_le hN).mpr (Int.mul_le_mul_of_nonneg_left (Int.le_of_lt q) (by omega))
        omega
      · have b1 : (d + t) * w / N ≤ d * w / N + t := by
          have c1 : (d + t) * w ≤ d * w + t * N := by
            rw [Int.add_mul]
            have := Int.mul_le_mul_of_nonneg_left q hdd
            omega
          have c2 := Int.ediv_le_ediv hN c1
          rw [Int.add_mul_ediv_right _ _ (by omega)] at c2
          exact c2
        omega
theorem beh_t {a g w f : Int32} (ha : inR a (-200) 1200) (hg : inR g (-200) 1200) (hw : inR w 0 25000) (hf : f.toInt ≤ 9600) : (behindF a g w f).toInt = bhI a.toInt g.toInt w.toInt f.toInt := by
  have e0 : (0 : Int32).toInt = 0 := by decide
  have ek : (1000 : Int32).toInt = 1000 := by decide
  obtain ⟨a1, a2⟩ := ha
  obtain ⟨g1, g2⟩ := hg
  obtain ⟨w1, w2⟩ := hw
  unfold behindF bhI
  by_cases h : f ≤ 0
  · rw [if_pos h, if_pos (by have := i32_le.mp h; omega), minI_t]
  · have hf0 := i32_lt.mp (i32_nle.mp h)
    rw [e0] at hf0
    rw [if_neg h, if_neg (show ¬ f.toInt ≤ 0 by omega)]
    by_cases h1 : a ≤ g
    · rw [if_pos h1, if_pos (i32_le.mp h1)]
    · have h2 := i32_lt.mp (i32_nle.mp h1)
      rw [if_neg h1, if_neg (show ¬ a.toInt ≤ g.toInt by omega)]
      have s1 : (a - g).toInt = a.toInt - g.toInt := i32_sub (by omega) (by omega)
      have hp : 0 ≤ (a.toInt - g.toInt) * w.toInt := Int.mul_nonneg (by omega) w1
      have hq : (a.toInt - g.toInt) * w.toInt ≤ 1400 * 25000 := Int.mul_le_mul (by omega) w2 w1 (by omega)
      have s2 : ((a - g) * w).toInt = (a.toInt - g.toInt) * w.toInt := by rw [← s1]; exact i32_mul (by rw [s1]; omega) (by rw [s1]; omega)
      have s3 : (1000 * f).toInt = 1000 * f.toInt := by rw [i32_mul (by rw [ek]; omega) (by rw [ek]; omega), ek]
      have s4 : ((a - g) * w / (1000 * f)).toInt = (a.toInt - g.toInt) * w.toInt / (1000 * f.toInt) := by
        rw [Int32.toInt_div_of_ne_right _ _ (fun z => by have := congrArg Int32.toInt z; rw [s3, show (-1 : Int32).toInt = -1 by decide] at this; omega), s2, s3]
        exact Int.tdiv_eq_ediv_of_nonneg hp
      have hr : 0 ≤ (a.toInt - g.toInt) * w.toInt / (1000 * f.toInt) := Int.ediv_nonneg hp (by omega)
      have s5 : (minI (a - g) ((a - g) * w / (1000 * f))).toInt = min (a.toInt - g.toInt) ((a.toInt - g.toInt) * w.toInt / (1000 * f.toInt)) := by rw [minI_t, s1, s4]
      rw [i32_sub (by rw [s5]; omega) (by rw [s5]; omega), s5]
theorem whole_bd {V : View} (hW : wfV V) {j : Nat} (h0 : 0 < j) (hj : j < vN V) : inR (vD V 2 j * vD V 1 j) 0 25000 := by
  obtain ⟨c1, c2, c3, c4, c5, c6⟩ := hW.2.2.1 j h0 hj
  have a1 := c1.1; have a2 := c1.2; have b1 := c2.1; have b2 := c2.2
  have hp : 0 ≤ (vD V 2 j).toInt * (vD V 1 j).toInt := Int.mul_nonneg b1 (by omega)
  have hq : (vD V 2 j).toInt * (vD V 1 j).toInt ≤ 50 * 500 := Int.mul_le_mul b2 a2 (by omega) (by omega)
  have e := i32_mul (x := vD V 2 j) (y := vD V 1 j) (by omega) (by omega)
  exact ⟨by rw [e]; exact hp, by rw [e]; omega⟩
theorem warm_bd {V : View} (hW : wfV V) {sup : Int32} (hs : inR sup (-200) 1200) : ∀ (n j : Nat), j ≤ n → j < vN V → inR (warmF V sup j) (-200) 1200
  | 0, j, h, hj => by
    have e : j = 0 := by omega
    subst e; rw [warmF_0]; exact hs
  | n + 1, j, h, hj => by
    by_cases e : j = 0
    · subst e; rw [warmF_0]; exact hs
    · have hp := (hW.1.2.2.2.2 j (by omega) hj).2
      rw [warmF_s V sup (by omega) hp]
      have ih := warm_bd hW hs n (vP V j) (by omega) (by omega)
      have hg : inR (vS V 1) (-200) 1200 := ⟨hW.2.2.2.1.2.1.1, by have := hW.2.2.2.1.2.1.2; omega⟩
      have hw := whole_bd hW (by omega) hj
      unfold wStep
      have ht := beh_t ih hg hw (flow_bd hW hj).2
      have hb := bhI_bd (a := (warmF V sup (vP V j)).toInt) (g := (vS V 1).toInt) (w := (vD V 2 j * vD V 1 j).toInt) (F := (flowF V j).toInt) hw.1
      have := ih.1; have := ih.2; have := hg.1; have := hg.2
      exact ⟨by rw [ht]; omega, by rw [ht]; omega⟩
theorem warm_mono {V : View} (hW : wfV V) {s t : Int32} (hs : inR s (-200) 1200) (ht : inR t (-200) 1200) (hst : s ≤ t) : ∀ (n j : Nat), j ≤ n → j < vN V → warmF V s j ≤ warmF V t j
  | 0, j, h, hj => by
    have e : j = 0 := by omega
    subst e; rw [warmF_0, warmF_0]; exact hst
  | n + 1, j, h, hj => by
    by_cases e : j = 0
    · subst e; rw [warmF_0, warmF_0]; exact hst
    · have hp := (hW.1.2.2.2.2 j (by omega) hj).2
      rw [warmF_s V s (by omega) hp, warmF_s V t (by omega) hp]
      have ih := warm_mono hW hs ht hst n (vP V j) (by omega) (by omega)
      have hg : inR (vS V 1) (-200) 1200 := ⟨hW.2.2.2.1.2.1.1, by have := hW.2.2.2.1.2.1.2; omega⟩
      have hw := whole_bd hW (by omega) hj
      unfold wStep
      rw [i32_le, beh_t (warm_bd hW hs n (vP V j) (by omega) (by omega)) hg hw (flow_bd hW hj).2, beh_t (warm_bd hW ht n (vP V j) (by omega) (by omega)) hg hw (flow_bd hW hj).2]
      exact bhI_mono hw.1 (i32_le.mp ih)
