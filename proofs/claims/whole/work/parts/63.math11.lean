-- pure: what a warmer supply does to the need, the loads and the costs
theorem lowP_uniq {V : View} {W : Nat → Int32} {r r' : Int32} (h : lowP V W r) (h' : lowP V W r') : r = r' := by
  rcases h with ⟨e, n⟩ | ⟨s, a, b, e, g, m⟩ <;> rcases h' with ⟨e', n'⟩ | ⟨s', a', b', e', g', m'⟩
  · rw [e, e']
  · exact absurd g' (n s' a' b')
  · exact absurd g (n' s a b)
  · rcases Nat.lt_trichotomy s s' with q | q | q
    · exact absurd g (m' s a q)
    · rw [e, e', q]
    · exact absurd g' (m s' a' q)
theorem gr_wis {V : View} (hW : wfV V) {j : Nat} {w : Int32} (h0 : 0 < j) (hj : j < vN V) {s : Nat} (hs : s ≤ 1200) : grP V (wisF j w) (nI s) ↔ w ≤ warmF V (nI s) j := by
  refine ⟨fun h => ?_, fun h i i0 hi => ?_⟩
  · have := h j h0 hj
    unfold wisF at this
    rw [if_pos rfl] at this
    exact this
  · unfold wisF
    by_cases e : i = j
    · rw [if_pos e, e]; exact h
    · rw [if_neg e, i32_le]
      have := (warm_bd hW (inR_nI hs) i i (Nat.le_refl i) hi).1
      rw [show (-1000 : Int32).toInt = -1000 by decide]
      omega
theorem warm1 {V : View} (hW : wfV V) {k : Nat} (h0 : 0 < k) (hk : k < vN V) {s : Nat} (hs : s ≤ 1200) : (vD V 3 k = 0 ∨ rF V (nI s) k + 100 ≤ warmF V (nI s) k) ↔ wchF V k ≤ warmF V (nI s) k := by
  obtain ⟨w1, w2⟩ := warm_bd hW (inR_nI hs) k k (Nat.le_refl k) hk
  obtain ⟨c1, c2, ⟨d1, d2⟩, ⟨t1, t2⟩, c5, c6⟩ := hW.2.2.1 k h0 hk
  have e0 : (0 : Int32).toInt = 0 := by decide
  have eh : (100 : Int32).toInt = 100 := by decide
  have em : (-1000 : Int32).toInt = -1000 := by decide
  have hr : (rF V (nI s) k).toInt = min (vD V 4 k).toInt (warmF V (nI s) k).toInt := minI_t
  have h1 : (rF V (nI s) k + 100).toInt = (rF V (nI s) k).toInt + 100 := by rw [i32_add (by rw [eh]; omega) (by rw [eh]; omega), eh]
  have h2 : (vD V 4 k + 100).toInt = (vD V 4 k).toInt + 100 := by rw [i32_add (by rw [eh]; omega) (by rw [eh]; omega), eh]
  unfold wchF
  by_cases z : vD V 3 k ≤ 0
  · have z2 := i32_le.mp z
    have z3 : vD V 3 k = 0 := i32_eq.mpr (by omega)
    rw [if_pos z]
    exact ⟨fun _ => i32_le.mpr (by rw [em]; omega), fun _ => Or.inl z3⟩
  · have z2 := i32_lt.mp (i32_nle.mp z)
    rw [if_neg z, i32_le, i32_le, h1, h2, hr]
    refine ⟨fun q => ?_, fun q => Or.inr (by omega)⟩
    rcases q with q | q
    · rw [q, e0] at z2; omega
    · omega
theorem warmP_iff (V : View) : ∀ n, warmP V n = true ↔ ∀ k, 0 < k → k < n → (vD V 3 k = 0 ∨ rF V (vSup V) k + 100 ≤ warmF V (vSup V) k)
  | 0 => ⟨fun _ k _ h => absurd h (Nat.not_lt_zero k), fun _ => rfl⟩
  | n + 1 => by
    rw [warmP, Bool.and_eq_true, warmP_iff V n, Bool.or_eq_true, Bool.or_eq_true, decide_eq_true_eq, decide_eq_true_eq, decide_eq_true_eq]
    refine ⟨fun h k a b => ?_, fun h => ⟨fun k a b => h k a (by omega), ?_⟩⟩
    · by_cases e : k = n
      · subst e
        rcases h.2 with (q | q) | q
        · omega
        · exact Or.inl q
        · exact Or.inr q
      · exact h.1 k a (by omega)
    · by_cases e : n = 0
      · exact Or.inl (Or.inl e)
      · rcases h n (by omega) (by omega) with q | q
        · exact Or.inl (Or.inr q)
        · exact Or.inr q
theorem sc_wm (V : View) (x : Int32) (j : Nat) : warmF (vSc V 0 x) (vSup (vSc V 0 x)) j = warmF V x j := (congrFun ((sameW_sc V 0 x (by decide)).warm x) j).symm
theorem sc_nd (V : View) (x : Int32) : needF (vSc V 0 x) (vSup (vSc V 0 x)) = needF V x := ((sameW_sc V 0 x (by decide)).need x).symm
theorem sc_un (V : View) (x : Int32) : unmetF (vSc V 0 x) (needF (vSc V 0 x) (vSup (vSc V 0 x))) = unmetF V (needF V x) := by
  rw [sc_nd]
  exact (sameB.lf (V := V) (V' := vSc V 0 x) rfl rfl (needF V x) (vB V)).symm
theorem sc_co (V : View) (x : Int32) : costF (vSc V 0 x) (needF (vSc V 0 x) (vSup (vSc V 0 x))) = costF V (needF V x) := by
  rw [sc_nd]
  exact (sameB.cs (V := V) (V' := vSc V 0 x) rfl rfl (needF V x) (vB V)).symm
theorem sc_gr {V : View} (hW : wfV V) {s : Nat} (hs : s ≤ 1200) : warmP (vSc V 0 (nI s)) (vN V) = true ↔ grP V (wchF V) (nI s) := by
  rw [warmP_iff]
  refine ⟨fun h k a b => (warm1 hW a b hs).mp ?_, fun h k a b => ?_⟩
  · have := h k a b
    rw [sc_wm] at this
    have e : rF (vSc V 0 (nI s)) (vSup (vSc V 0 (nI s))) k = rF V (nI s) k := (congrFun ((sameW_sc V 0 (nI s) (by decide)).ret (nI s)) k).symm
    rw [e] at this
    exact this
  · rw [sc_wm, show rF (vSc V 0 (nI s)) (vSup (vSc V 0 (nI s))) k = rF V (nI s) k from (congrFun ((sameW_sc V 0 (nI s) (by decide)).ret (nI s)) k).symm]
    exact (warm1 hW a b hs).mpr (h k a b)
/-- what a customer with its wish granted gives back does not depend on the supply -/
theorem own_back {V : View} (hW : wfV V) {s : Nat} (hs : s ≤ 1200) (hg : grP V (wchF V) (nI s)) {k : Nat} (h0 : 0 < k) (hk : k < vN V) : vD V 3 k * rF V (nI s) k = vD V 3 k * vD V 4 k := by
  obtain ⟨c1, c2, ⟨d1, d2⟩, ⟨t1, t2⟩, c5, c6⟩ := hW.2.2.1 k h0 hk
  have e0 : (0 : Int32).toInt = 0 := by decide
  have eh : (100 : Int32).toInt = 100 := by decide
  by_cases z : vD V 3 k ≤ 0
  · have z2 := i32_le.mp z
    have z3 : vD V 3 k = 0 := i32_eq.mpr (by omega)
    rw [z3, Int32.zero_mul, Int32.zero_mul]
  · have h := hg k h0 hk
    unfold wchF at h
    rw [if_neg z, i32_le, i32_add (by rw [eh]; omega) (by rw [eh]; omega), eh] at h
    have : rF V (nI s) k = vD V 4 k := by
      unfold rF minI
      rw [if_neg (fun y => by have := i32_lt.mp y; omega)]
    rw [this]
def bkC (V : View) : Nat → Int32 := addUp (vP V) (vN V - 1) (fun j => if j = 0 then 0 else vD V 3 j * vD V 4 j)
theorem back_C {V : View} (hW : wfV V) {s : Nat} (hs : s ≤ 1200) (hg : grP V (wchF V) (nI s)) : backF V (nI s) 0 = bkC V 0 := by
  have h1 := hW.1.1
  refine addUp_cong (n := vN V) (vN V - 1) _ _ (by omega) (fun j a b => (hW.1.2.2.2.2 j a (by omega)).2) (fun j hj => ?_) 0 (by omega)
  by_cases e : j = 0
  · rw [if_pos e, if_pos e]
  · rw [if_neg e, if_neg e, own_back hW hs hg (by omega) hj]
theorem bkC_bd {V : View} (hW : wfV V) : 0 ≤ (bkC V 0).toInt ∧ (bkC V 0).toInt ≤ 9600000 := by
  obtain ⟨hn1, hn16, hb4, ⟨hd0, hd3, hd5, hd6⟩, hpar⟩ := hW.1
  have own : ∀ i, i < vN V → 0 ≤ ((fun j => if j = 0 then 0 else vD V 3 j * vD V 4 j : Nat → Int32) i).toInt ∧ ((fun j => if j = 0 then 0 else vD V 3 j * vD V 4 j : Nat → Int32) i).toInt ≤ 600000 := by
    intro i hi
    show 0 ≤ (if i = 0 then 0 else vD V 3 i * vD V 4 i : Int32).toInt ∧ (if i = 0 then 0 else vD V 3 i * vD V 4 i : Int32).toInt ≤ 600000
    by_cases e : i = 0
    · rw [if_pos e]; exact ⟨by decide, by decide⟩
    · rw [if_neg e]
      obtain ⟨c1, c2, ⟨d1, d2⟩, ⟨t1, t2⟩, c5, c6⟩ := hW.2.2.1 i (by omega) hi
      have hp : 0 ≤ (vD V 3 i).toInt * (vD V 4 i).toInt := Int.mul_nonneg d1 t1
      have hq : (vD V 3 i).toInt * (vD V 4 i).toInt ≤ 500 * 1200 := Int.mul_le_mul d2 t2 t1 (by omega)
      rw [i32_mul (by omega) (by omega)]
      omega
  refine addUp_bd (by decide) (vN V - 1) _ (fun i h1 h2 => (hpar i h1 (by omega)).2) (fun i hi => (own i (by omega)).1) ?_ 0 (by omega)
  have := sumI_le (b := 600000) (vN V - 1 + 1) (fun i hi => (own i (by omega)).2)
  omega
theorem maxI_t {x y : Int32} : (maxI x y).toInt = max x.toInt y.toInt := by
  unfold maxI
  by_cases h : x < y
  · rw [if_pos h]; have := i32_lt.mp h; omega
  · rw [if_neg h]; have := i32_le.mp (i32_nlt.mp h); omega
theorem need_t {V : View} (hW : wfV V) {s : Nat} (hs : s ≤ 1200) (hg : grP V (wchF V) (nI s)) : (needF V (nI s)).toInt = max 0 ((flowF V 0).toInt * (s : Int) - (bkC V 0).toInt) := by
  have h1 := hW.1.1
  obtain ⟨f1, f2⟩ := flow_bd hW (j := 0) (by omega)
  obtain ⟨b1, b2⟩ := bkC_bd hW
  have es : (nI s).toInt = (s : Int) := nI_toInt (by omega)
  have hp : 0 ≤ (flowF V 0).toInt * (s : Int) := Int.mul_nonneg f1 (by omega)
  have hq : (flowF V 0).toInt * (s : Int) ≤ 9600 * 1200 := Int.mul_le_mul f2 (by omega) (by omega) (by omega)
  unfold needF
  rw [maxI_t, back_C hW hs hg, i32_sub (by rw [i32_mul (by rw [es]; omega) (by rw [es]; omega), es]; omega) (by rw [i32_mul (by rw [es]; omega) (by rw [es]; omega), es]; omega), i32_mul (by rw [es]; omega) (by rw [es]; omega), es]
  rfl
theorem gr_up {V : View} (hW : wfV V) {a b : Nat} (h : grP V (wchF V) (nI a)) (hab : a ≤ b) (hb : b ≤ 1200) : grP V (wchF V) (nI b) := gr_mono hW h hab hb
theorem need_mono {V : View} (hW : wfV V) {a b : Nat} (h : grP V (wchF V) (nI a)) (hab : a ≤ b) (hb : b ≤ 1200) : 0 ≤ (needF V (nI a)).toInt ∧ (needF V (nI a)).toInt ≤ (needF V (nI b)).toInt := by
  have h1 := hW.1.1
  rw [need_t hW (by omega) h, need_t hW hb (gr_up hW h hab hb)]
  obtain ⟨f1, f2⟩ := flow_bd hW (j := 0) (by omega)
  have : (flowF V 0).toInt * (a : Int) ≤ (flowF V 0).toInt * (b : Int) := Int.mul_le_mul_of_nonneg_left (by omega) f1
  omega
theorem ld_mono {V : View} {b : Nat} (hB : wfB V b) {l l' : Int32} (h0 : 0 ≤ l.toInt) (hl : l.toInt ≤ l'.toInt) : (0 ≤ (ldV V l b).toInt ∧ (ldV V l b).toInt ≤ (ldV V l' b).toInt ∧ (ldV V l' b).toInt ≤ 9999999) ∧ 0 ≤ (nxL V l b).toInt ∧ (nxL V l b).toInt ≤ (nxL V l' b).toInt := by
  obtain ⟨⟨c1, c2⟩, ⟨d1, d2⟩, e1, -⟩ := hB
  have e0 : (0 : Int32).toInt = 0 := by decide
  have m1 : (minI (vO V 0 b) l).toInt = min (vO V 0 b).toInt l.toInt := minI_t
  have m2 : (minI (vO V 0 b) l').toInt = min (vO V 0 b).toInt l'.toInt := minI_t
  have s1 : (l - minI (vO V 0 b) l).toInt = l.toInt - min (vO V 0 b).toInt l.toInt := by have := Int32.toInt_lt l; rw [i32_sub (by omega) (by omega), m1]
  have s2 : (l' - minI (vO V 0 b) l').toInt = l'.toInt - min (vO V 0 b).toInt l'.toInt := by have := Int32.toInt_lt l'; rw [i32_sub (by omega) (by omega), m2]
  unfold ldV nxL
  by_cases p : 0 < minI (vO V 0 b) l ∧ minI (vO V 0 b) l < vO V 1 b
  · have p1 := i32_lt.mp p.1
    have p2 := i32_lt.mp p.2
    rw [if_pos p, if_pos p]
    by_cases q : 0 < minI (vO V 0 b) l' ∧ minI (vO V 0 b) l' < vO V 1 b
    · rw [if_pos q, if_pos q]; omega
    · rw [if_neg q, if_neg q, s2, m2, e0]
      have q2 : ¬ (0 < (minI (vO V 0 b) l').toInt ∧ (minI (vO V 0 b) l').toInt < (vO V 1 b).toInt) := fun z => q ⟨i32_lt.mpr (by rw [e0]; exact z.1), i32_lt.mpr z.2⟩
      omega
  · have p2 : ¬ (0 < (minI (vO V 0 b) l).toInt ∧ (minI (vO V 0 b) l).toInt < (vO V 1 b).toInt) := fun z => p ⟨i32_lt.mpr (by rw [e0]; exact z.1), i32_lt.mpr z.2⟩
    rw [if_neg p, if_neg p, s1, m1]
    by_cases q : 0 < minI (vO V 0 b) l' ∧ minI (vO V 0 b) l' < vO V 1 b
    · have q1 := i32_lt.mp q.1
      have q2 := i32_lt.mp q.2
      rw [if_pos q, if_pos q, e0]
      omega
    · have q2 : ¬ (0 < (minI (vO V 0 b) l').toInt ∧ (minI (vO V 0 b) l').toInt < (vO V 1 b).toInt) := fun z => q ⟨i32_lt.mpr (by rw [e0]; exact z.1), i32_lt.mpr z.2⟩
      rw [if_neg q, if_neg q, s2, m2]
      omega
theorem cs_mono {V : View} (hW : wfV V) {n n' : Int32} (h0 : 0 ≤ n.toInt) (hn : n.toInt ≤ n'.toInt) : ∀ k, k ≤ vB V → (0 ≤ (lfF V n k).toInt ∧ (lfF V n k).toInt ≤ (lfF V n' k).toInt) ∧ 0 ≤ (csF V n k).toInt ∧ (csF V n k).toInt ≤ (csF V n' k).toInt ∧ (csF V n' k).toInt ≤ 1000000 * k
  | 0, _ => ⟨⟨h0, hn⟩, (by decide : 0 ≤ (0 : Int32).toInt), Int.le_refl _, (by decide : (0 : Int32).toInt ≤ 1000000 * ((0 : Nat) : Int))⟩
  | k + 1, hk => by
    have hb4 := hW.1.2.2.1
    obtain ⟨⟨i1, i2⟩, i3, i4, i5⟩ := cs_mono hW h0 hn k (by omega)
    have hB := hW.2.2.2.2 (boilAt V k) (boilAt_spec V (by omega)).1
    obtain ⟨⟨a1, a2, a3⟩, a4, a5⟩ := ld_mono hB i1 i2
    obtain ⟨g1, g2⟩ := hB.2.2.2
    have ek : (1000 : Int32).toInt = 1000 := by decide
    have term : ∀ x : Int32, 0 ≤ x.toInt → x.toInt ≤ 9999999 → (x * vO V 2 (boilAt V k) / 1000).toInt = x.toInt * (vO V 2 (boilAt V k)).toInt / 1000 := fun x x0 x1 => by
      have hp : 0 ≤ x.toInt * (vO V 2 (boilAt V k)).toInt := Int.mul_nonneg x0 g1
      have hq : x.toInt * (vO V 2 (boilAt V k)).toInt ≤ 9999999 * 99 := Int.mul_le_mul x1 g2 g1 (by omega)
      rw [Int32.toInt_div_of_ne_right _ _ (by decide), i32_mul (by omega) (by omega), ek]
      exact Int.tdiv_eq_ediv_of_nonneg hp
    have t1 := term (ldV V (lfF V n k) (boilAt V k)) a1 (by omega)
    have t2 := term (ldV V (lfF V n' k) (boilAt V k)) (by omega) a3
    have hm : (ldV V (lfF V n k) (boilAt V k)).toInt * (vO V 2 (boilAt V k)).toInt ≤ (ldV V (lfF V n' k) (boilAt V k)).toInt * (vO V 2 (boilAt V k)).toInt := Int.mul_le_mul_of_nonneg_right a2 g1
    have hp : 0 ≤ (ldV V (lfF V n k) (boilAt V k)).toInt * (vO V 2 (boilAt V k)).toInt := Int.mul_nonneg a1 g1
    have hq : (ldV V (lfF V n' k) (boilAt V k)).toInt * (vO V 2 (boilAt V k)).toInt ≤ 9999999 * 99 := Int.mul_le_mul a3 g2 g1 (by omega)
    refine ⟨⟨a4, a5⟩, ?_⟩
    rw [csF, csF, i32_add (by rw [t1]; omega) (by rw [t1]; omega), i32_add (by rw [t2]; omega) (by rw [t2]; omega), t1, t2]
    omega
theorem chp_mono {V : View} (hW : wfV V) {a b : Nat} (h : grP V (wchF V) (nI a)) (hab : a ≤ b) (hb : b ≤ 1200) : costF V (needF V (nI a)) ≤ costF V (needF V (nI b)) ∧ 0 ≤ (unmetF V (needF V (nI a))).toInt ∧ (unmetF V (needF V (nI a))).toInt ≤ (unmetF V (needF V (nI b))).toInt := by
  obtain ⟨n1, n2⟩ := need_mono hW h hab hb
  obtain ⟨⟨c1, c2⟩, c3, c4, c5⟩ := cs_mono hW n1 n2 (vB V) (Nat.le_refl _)
  exact ⟨i32_le.mpr c4, c1, c2⟩
/-- a supply that costs can be asked of -/
def okC (V : View) (s : Nat) : Prop := unmetF V (needF V (nI s)) = 0 ∧ grP V (wchF V) (nI s)
def chP (V : View) (v : Nat) (bs ls : Int32) : Prop := (bs = -1 ∧ ∀ s : Nat, 400 ≤ s → s < v → ¬ okC V s) ∨ ∃ s : Nat, 400 ≤ s ∧ s < v ∧ bs = nI s ∧ ls = costF V (needF V (nI s)) ∧ okC V s ∧ ∀ t : Nat, 400 ≤ t → t < s → ¬ okC V t
theorem chp_no {V : View} {v : Nat} {bs ls : Int32} (h : chP V v bs ls) (hn : ¬ okC V v) : chP V (v + 1) bs ls := by
  rcases h with ⟨e, n⟩ | ⟨s, a, b, c⟩
  · refine Or.inl ⟨e, fun s h1 h2 => ?_⟩
    by_cases z : s = v
    · rw [z]; exact hn
    · exact n s h1 (by omega)
  · exact Or.inr ⟨s, a, by omega, c⟩
theorem chp_tk {V : View} {v : Nat} {bs ls : Int32} (h : chP V v bs ls) (hb : bs = -1) (h4 : 400 ≤ v) (hv : v ≤ 1200) (ho : okC V v) : chP V (v + 1) (nI v) (costF V (needF V (nI v))) := by
  rcases h with ⟨e, n⟩ | ⟨s, a, b, c, d⟩
  · exact Or.inr ⟨v, h4, by omega, rfl, rfl, ho, n⟩
  · exact absurd (c.symm.trans hb) (nI_nm1 (by omega))
theorem chp_kp {V : View} {v : Nat} {bs ls : Int32} (h : chP V v bs ls) (hb : ¬ bs = -1) : chP V (v + 1) bs ls := by
  rcases h with ⟨e, n⟩ | ⟨s, a, b, c⟩
  · exact absurd e hb
  · exact Or.inr ⟨s, a, by omega, c⟩
theorem chp_ge {V : View} (hW : wfV V) {v : Nat} {bs ls : Int32} (h : chP V v bs ls) (hb : ¬ bs = -1) (hv : v ≤ 1200) : ls ≤ costF V (needF V (nI v)) := by
  rcases h with ⟨e, n⟩ | ⟨s, a, b, c, d, e, f⟩
  · exact absurd e hb
  · rw [d]
    exact (chp_mono hW e.2 (by omega) hv).1
theorem chp_fin {V : View} (hW : wfV V) {bs ls r0 : Int32} (h : chP V 1201 bs ls) (hr : lowP V (wchF V) r0) : bs = chpF V r0 := by
  unfold chpF
  rcases hr with ⟨e, n⟩ | ⟨s0, a, b, e, g, m⟩
  · rw [if_pos e]
    rcases h with ⟨q, _⟩ | ⟨s, a1, a2, a3, a4, a5, a6⟩
    · exact q
    · exact absurd a5.2 (n s a1 (by omega))
  · rw [if_neg (by rw [e]; exact nI_nm1 (by omega))]
    by_cases z : unmetF V (needF V r0) = 0
    · rw [if_pos z]
      rw [e] at z
      have ho : okC V s0 := ⟨z, g⟩
      rcases h with ⟨_, n⟩ | ⟨s, a1, a2, a3, a4, a5, a6⟩
      · exact absurd ho (n s0 a (by omega))
      · rcases Nat.lt_trichotomy s s0 with q | q | q
        · exact absurd a5.2 (m s a1 q)
        · rw [a3, e, q]
        · exact absurd ho (a6 s0 a q)
    · rw [if_neg z]
      rw [e] at z
      rcases h with ⟨q, _⟩ | ⟨s, a1, a2, a3, a4, a5, a6⟩
      · exact q
      · exfalso
        rcases Nat.lt_or_ge s s0 with q | q
        · exact m s a1 q a5.2
        · obtain ⟨_, u1, u2⟩ := chp_mono hW g q (by omega)
          apply z
          rw [i32_eq, show (0 : Int32).toInt = 0 by decide]
          have := congrArg Int32.toInt a5.1
          rw [show (0 : Int32).toInt = 0 by decide] at this
          omega
def spP (V : View) (j : Nat) (w : Int32) (v : Nat) (fd : Int32) : Prop := (fd = -1 ∧ ∀ s : Nat, 400 ≤ s → s < v → ¬ w ≤ warmF V (nI s) j) ∨ ∃ s : Nat, 400 ≤ s ∧ s ≤ 1200 ∧ fd = nI s ∧ w ≤ warmF V (nI s) j ∧ ∀ t : Nat, 400 ≤ t → t < s → ¬ w ≤ warmF V (nI t) j
theorem sp_no {V : View} {j v : Nat} {w fd : Int32} (h : spP V j w v fd) (hf : fd = -1) (hn : ¬ w ≤ warmF V (nI v) j) (hv : v ≤ 1200) : spP V j w (v + 1) (-1) := by
  rcases h with ⟨e, n⟩ | ⟨s, a, b, c, d⟩
  · refine Or.inl ⟨rfl, fun s h1 h2 => ?_⟩
    by_cases z : s = v
    · rw [z]; exact hn
    · exact n s h1 (by omega)
  · exact absurd (c.symm.trans hf) (nI_nm1 (by omega))
theorem sp_tk {V : View} {j v : Nat} {w fd : Int32} (h : spP V j w v fd) (hf : fd = -1) (hw : w ≤ warmF V (nI v) j) (h4 : 400 ≤ v) (hv : v ≤ 1200) : spP V j w (v + 1) (nI v) := by
  rcases h with ⟨e, n⟩ | ⟨s, a, b, c, d⟩
  · exact Or.inr ⟨v, h4, hv, rfl, hw, n⟩
  · exact absurd (c.symm.trans hf) (nI_nm1 (by omega))
theorem sp_fin {V : View} (hW : wfV V) {j v : Nat} {w fd r : Int32} (h0 : 0 < j) (hj : j < vN V) (h : spP V j w v fd) (he : 1200 < v ∨ ¬ fd = -1) (hr : lowP V (wisF j w) r) : fd = r := by
  refine lowP_uniq (V := V) (W := wisF j w) ?_ hr
  rcases h with ⟨e, n⟩ | ⟨s, a, b, c, d, f⟩
  · rcases he with q | q
    · exact Or.inl ⟨e, fun s h1 h2 z => n s h1 (by omega) ((gr_wis hW h0 hj h2).mp z)⟩
    · exact absurd e q
  · exact Or.inr ⟨s, a, b, c, (gr_wis hW h0 hj b).mpr d, fun t h1 h2 z => f t h1 h2 ((gr_wis hW h0 hj (by omega)).mp z)⟩
/-- while supplies are tried only the supply differs -/
def scP (M N : Mem) : Prop := (∀ q, q ≠ 107 → q ≠ 108 → (q < 112 ∨ 116 < q) → N q = M q) ∧ (∀ i, i ≠ 12 → N 107 i = M 107 i) ∧ ∃ x, N 108 = upd (M 108) 0 x
theorem sc_st (M : Mem) : scP M M := ⟨fun _ _ _ _ => rfl, fun _ _ => rfl, M 108 0, by
  funext i
  by_cases e : i = 0
  · subst e; rw [upd_at]
  · rw [upd_ne e]⟩
theorem sc_row {M N : Mem} (h : scP M N) (x : Int32) : mset N 108 0 x 108 = upd (M 108) 0 x := by
  obtain ⟨y, hy⟩ := h.2.2
  rw [mset_at, hy, upd_upd]
theorem sc_go {M N N' : Mem} {x : Int32} (h : scP M N) (h' : frW (mset N 108 0 x) N') : scP M N' := by
  refine ⟨fun q a b c => ?_, fun i a => ?_, x, ?_⟩
  · rw [h'.1 q a c, mset_ne b]; exact h.1 q a b c
  · rw [h'.2 i a, mset_ne (by decide)]; exact h.2.1 i a
  · rw [h'.1 108 (by decide) (by decide)]; exact sc_row h x
theorem sc_end {M N : Mem} {x : Int32} (h : scP M N) (hx : M 108 0 = x) : frT M (mset N 108 0 x) := by
  refine ⟨fun q a b => ?_, fun i a _ => by rw [mset_ne (by decide)]; exact h.2.1 i a⟩
  by_cases e : q = 108
  · subst e
    rw [sc_row h x]
    funext i
    by_cases e : i = 0
    · subst e; rw [upd_at, hx]
    · rw [upd_ne e]
  · rw [mset_ne e]; exact h.1 q a e b
