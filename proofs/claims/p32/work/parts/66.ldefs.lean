/-! the law's own rows: what it holds beside the class, and what it works out -/
/-- the law's rows g, e, b say V -/
def eOK (M : Mem) (V : View) : Prop :=
  vN V ≤ 8 ∧ (∀ w, w < 5 → M 107 w = vS V w) ∧ (M 107 5 = nI (vN V) ∧ M 107 6 = nI (vB V) ∧ M 107 7 = vS V 7 ∧ M 107 8 = vS V 8) ∧ (∀ n w, n < vN V → w < 8 → ¬ (n = 0 ∧ w = 0) → M 108 (8 * n + w) = vD V w n) ∧ (∀ j, 8 * vN V ≤ j → M 108 j = 0) ∧ ∀ k w, k < vB V → w < 3 → M 109 (3 * k + w) = vO V w k
theorem eOK.le {M : Mem} {V : View} (h : eOK M V) : vN V ≤ 8 := h.1
theorem eOK.s {M : Mem} {V : View} (h : eOK M V) (w : Nat) (hw : w < 5) : M 107 w = vS V w := h.2.1 w hw
theorem eOK.n {M : Mem} {V : View} (h : eOK M V) : M 107 5 = nI (vN V) := h.2.2.1.1
theorem eOK.b {M : Mem} {V : View} (h : eOK M V) : M 107 6 = nI (vB V) := h.2.2.1.2.1
theorem eOK.c {M : Mem} {V : View} (h : eOK M V) : M 107 7 = vS V 7 := h.2.2.1.2.2.1
theorem eOK.h {M : Mem} {V : View} (h : eOK M V) : M 107 8 = vS V 8 := h.2.2.1.2.2.2
theorem eOK.e {M : Mem} {V : View} (h : eOK M V) (n w : Nat) (hn : n < vN V) (hw : w < 8) (hz : ¬ (n = 0 ∧ w = 0)) : M 108 (8 * n + w) = vD V w n := h.2.2.2.1 n w hn hw hz
theorem eOK.e0 {M : Mem} {V : View} (h : eOK M V) (n : Nat) (h0 : 0 < n) (hn : n < vN V) : M 108 (8 * n) = vD V 0 n := h.e n 0 hn (by decide) (by omega)
theorem eOK.par {M : Mem} {V : View} (hT : wfT V) (h : eOK M V) (n : Nat) (h0 : 0 < n) (hn : n < vN V) : M 108 (8 * n) = nI (vP V n) := (h.e0 n h0 hn).trans (hT.2.2.2.2 n h0 hn).1
theorem eOK.o {M : Mem} {V : View} (h : eOK M V) (k w : Nat) (hk : k < vB V) (hw : w < 3) : M 109 (3 * k + w) = vO V w k := h.2.2.2.2.2 k w hk hw
theorem eOK.o0 {M : Mem} {V : View} (h : eOK M V) (k : Nat) (hk : k < vB V) : M 109 (3 * k) = vO V 0 k := h.o k 0 hk (by decide)
theorem eOK.off {M M' : Mem} {V : View} (h : eOK M V) (ho : ∀ q, 107 ≤ q → q ≤ 109 → M' q = M q) : eOK M' V := by
  obtain ⟨h1, h2, h3, h4, h5, h6⟩ := h
  unfold eOK
  rw [ho 107 (by decide) (by decide), ho 108 (by decide) (by decide), ho 109 (by decide) (by decide)]
  exact ⟨h1, h2, h3, h4, h5, h6⟩
theorem eOK.row {M : Mem} {V : View} (h : eOK M V) (f : Nat → Int32) : eOK (mrow M 110 f) V := h.off (fun q h1 h2 => mrow_ne (by omega) f)
theorem eOK.row1 {M : Mem} {V : View} (h : eOK M V) (f : Nat → Int32) : eOK (mrow M 111 f) V := h.off (fun q h1 h2 => mrow_ne (by omega) f)
theorem eOK.offC {M M' : Mem} {V : View} (h : eOK M V) (ho : offC M M') : eOK M' V := h.off (fun q h1 h2 => ho q (by omega))
theorem eOK.val {M : Mem} {V : View} (h : eOK M V) {k : Nat} (hk : k < 7) : M 107 k = valF V k := by
  have hc : k = 0 ∨ k = 1 ∨ k = 2 ∨ k = 3 ∨ k = 4 ∨ k = 5 ∨ k = 6 := by omega
  rcases hc with rfl | rfl | rfl | rfl | rfl | rfl | rfl
  · exact h.s 0 (by decide)
  · exact h.s 1 (by decide)
  · exact h.s 2 (by decide)
  · exact h.s 3 (by decide)
  · exact h.s 4 (by decide)
  · exact h.n
  · exact h.b
/-- flows, temperatures and returns in the law's row t -/
def tP (V : View) (f : Nat → Int32) : Prop := ∀ j, j < vN V → f j = flowF V j ∧ f (8 + j) = warmF V (vSup V) j ∧ (0 < j → f (16 + j) = rF V (vSup V) j)
theorem tP.upd {V : View} {f : Nat → Int32} {i : Nat} {x : Int32} (h : tP V f) (hN : vN V ≤ 8) (hi : 24 ≤ i) : tP V (upd f i x) := by
  intro j hj
  rw [upd_ne (by omega), upd_ne (by omega), upd_ne (by omega)]
  exact h j hj
def tBk (V : View) (f : Nat → Int32) : Prop := ∀ j, j < vN V → f (24 + j) = backF V (vSup V) j
theorem tBk.upd {V : View} {f : Nat → Int32} {i : Nat} {x : Int32} (h : tBk V f) (hN : vN V ≤ 8) (hi : 32 ≤ i) : tBk V (upd f i x) := by
  intro j hj
  rw [upd_ne (by omega)]
  exact h j hj
abbrev ndF (V : View) : Int32 := needF V (vSup V)
/-- the row t, worked out for V -/
def tOK (f : Nat → Int32) (V : View) : Prop := tP V f ∧ tBk V f ∧ (∀ k, k < vB V → f (32 + k) = loadF V (ndF V) k) ∧ f 36 = unmetF V (ndF V) ∧ f 37 = costF V (ndF V) ∧ f 38 = ndF V
/-- .. while its boilers are worked out: those before (c, k) are -/
def tB (V : View) (f : Nat → Int32) (c k : Nat) : Prop := tP V f ∧ tBk V f ∧ f 38 = ndF V ∧ f 36 = lfF V (ndF V) (cntC V c k) ∧ f 37 = csF V (ndF V) (cntC V c k) ∧ ∀ b, b < vB V → befC V c k b = true → f (32 + b) = loadF V (ndF V) b
theorem tB_0 {V : View} (hW : wfV V) {f : Nat → Int32} (h1 : tP V f) (h2 : tBk V f) (h3 : f 38 = ndF V) (h4 : f 36 = ndF V) (h5 : f 37 = 0) : tB V f 0 0 := by
  have h0 := cntC_0 hW
  refine ⟨h1, h2, h3, by rw [h4, h0]; rfl, by rw [h5, h0]; rfl, fun b hb hc => ?_⟩
  have := (hW.2.2.2.2 b hb).2.2.2.1
  simp [befC] at hc
  omega
theorem tB_skip {V : View} {f : Nat → Int32} {c k : Nat} (h : tB V f c k) (hc : ¬ (vO V 2 k).toInt = c) : tB V f c (k + 1) := by
  obtain ⟨h1, h2, h3, h4, h5, h6⟩ := h
  refine ⟨h1, h2, h3, by rw [cntC_skip hc]; exact h4, by rw [cntC_skip hc]; exact h5, fun b hb hb2 => h6 b hb ?_⟩
  simp only [befC, Bool.or_eq_true, Bool.and_eq_true, decide_eq_true_eq] at hb2 ⊢
  rcases hb2 with q | ⟨q1, q2⟩
  · exact Or.inl q
  · refine Or.inr ⟨q1, ?_⟩
    rcases Nat.lt_or_ge b k with z | z
    · exact z
    · have : b = k := by omega
      subst this
      exact absurd q1 hc
theorem tB_take {V : View} {f : Nat → Int32} {c k : Nat} {nx ld : Int32} (hN : vN V ≤ 8) (hB : vB V ≤ 4) (h : tB V f c k) (hk : k < vB V) (hc : (vO V 2 k).toInt = c) (hnx : nxL V (lfF V (ndF V) (cntC V c k)) k = nx) (hld : ldV V (lfF V (ndF V) (cntC V c k)) k = ld) : tB V (upd (upd (upd f 36 nx) (32 + k) ld) 37 (csF V (ndF V) (cntC V c k) + ld * vO V 2 k / 1000)) c (k + 1) := by
  obtain ⟨h1, h2, h3, h4, h5, h6⟩ := h
  obtain ⟨a1, a2, a3, a4⟩ := lf_take (nd := ndF V) hk hc
  refine ⟨((h1.upd hN (by omega)).upd hN (by omega)).upd hN (by omega), ((h2.upd hN (by omega)).upd hN (by omega)).upd hN (by omega), ?_, ?_, ?_, fun b hb hb2 => ?_⟩
  · rw [upd_ne (by omega), upd_ne (by omega), upd_ne (by omega)]
    exact h3
  · rw [upd_ne (by omega), upd_ne (by omega), upd_at, a3, hnx]
  · rw [upd_at, a4, hld]
  · rw [upd_ne (by omega)]
    by_cases e : b = k
    · subst e
      rw [upd_at, a2, hld]
    · rw [upd_ne (by omega), upd_ne (by omega)]
      refine h6 b hb ?_
      simp only [befC, Bool.or_eq_true, Bool.and_eq_true, decide_eq_true_eq] at hb2 ⊢
      rcases hb2 with q | ⟨q1, q2⟩
      · exact Or.inl q
      · exact Or.inr ⟨q1, by omega⟩
theorem tB_next {V : View} {f : Nat → Int32} {c : Nat} (h : tB V f c (vB V)) : tB V f (c + 1) 0 := by
  obtain ⟨h1, h2, h3, h4, h5, h6⟩ := h
  refine ⟨h1, h2, h3, by rw [← cntC_next]; exact h4, by rw [← cntC_next]; exact h5, fun b hb hb2 => h6 b hb ?_⟩
  simp only [befC, Bool.or_eq_true, Bool.and_eq_true, decide_eq_true_eq] at hb2 ⊢
  omega
theorem tB_end {V : View} (hW : wfV V) {f : Nat → Int32} (h : tB V f 100 0) : tOK f V := by
  obtain ⟨h1, h2, h3, h4, h5, h6⟩ := h
  have he := cntC_end hW
  refine ⟨h1, h2, fun k hk => h6 k hk ?_, by rw [h4, he]; rfl, by rw [h5, he]; rfl, h3⟩
  have := (hW.2.2.2.2 k hk).2.2.2.2
  simp only [befC, Bool.or_eq_true, Bool.and_eq_true, decide_eq_true_eq]
  omega
theorem cst_eq {x : Int32} {c : Nat} (hc : c < 2 ^ 31) : x = nI c ↔ x.toInt = c := by rw [i32_eq, nI_toInt hc]
theorem minI_le {x y : Int32} (h : y ≤ x) : minI x y = y := by
  unfold minI
  by_cases z : y < x
  · rw [if_pos z]
  · rw [if_neg z]
    exact i32_eq.mpr (by have := i32_le.mp h; have := i32_le.mp (i32_nlt.mp z); omega)
theorem minI_gt {x y : Int32} (h : ¬ y ≤ x) : minI x y = x := if_neg (fun z => h (by rw [i32_le]; have := i32_lt.mp z; omega))
theorem div_ok {V : View} (hW : wfV V) {j : Nat} (h0 : 0 < j) (hj : j < vN V) (h : ¬ flowF V j = 0) : ¬ 1000 * flowF V j = 0 :=
  wfZ_of hW j h0 hj (fun z => h (i32_eq.mpr (by have := (flow_bd hW hj).1; have := i32_le.mp z; rw [show (0 : Int32).toInt = 0 by decide] at *; omega)))
theorem brS_s (V : View) (f : Nat → Int32) (n : Nat) {k : Nat} (h : 0 < k) : brS V f n (k + 1) = brS V f n k + (if belF V n k = true then f k else 0) := sumP_s _ h
theorem brS_1 (V : View) (f : Nat → Int32) (n : Nat) : brS V f n 1 = 0 := sumP_1 _
theorem tOK.fl {f : Nat → Int32} {V : View} (h : tOK f V) {j : Nat} (hj : j < vN V) : f j = flowF V j := (h.1 j hj).1
theorem tOK.wm {f : Nat → Int32} {V : View} (h : tOK f V) {j : Nat} (hj : j < vN V) : f (8 + j) = warmF V (vSup V) j := (h.1 j hj).2.1
theorem tOK.rt {f : Nat → Int32} {V : View} (h : tOK f V) {j : Nat} (h0 : 0 < j) (hj : j < vN V) : f (16 + j) = rF V (vSup V) j := (h.1 j hj).2.2 h0
theorem tOK.bk {f : Nat → Int32} {V : View} (h : tOK f V) {j : Nat} (hj : j < vN V) : f (24 + j) = backF V (vSup V) j := h.2.1 j hj
theorem tOK.ld {f : Nat → Int32} {V : View} (h : tOK f V) {k : Nat} (hk : k < vB V) : f (32 + k) = loadF V (ndF V) k := h.2.2.1 k hk
theorem tOK.un {f : Nat → Int32} {V : View} (h : tOK f V) : f 36 = unmetF V (ndF V) := h.2.2.2.1
theorem tOK.co {f : Nat → Int32} {V : View} (h : tOK f V) : f 37 = costF V (ndF V) := h.2.2.2.2.1
theorem tOK.nd {f : Nat → Int32} {V : View} (h : tOK f V) : f 38 = ndF V := h.2.2.2.2.2
theorem nodeF_8 (V : View) (k : Nat) : nodeF V k 8 = if k = 0 then -1 else rF V (vSup V) k := rfl
theorem nodeF_lo (V : View) {k i : Nat} (h : i < 6) : nodeF V k i = vD V i k := if_pos h
theorem sumP_z (f : Nat → Int32) {k : Nat} (h : k = 0) : sumP f (k + 1) = sumP f k := by
  subst h
  rw [sumP_1]
  rfl
theorem eOK.sc {M : Mem} {V : View} {i : Nat} {x : Int32} (h : eOK M V) (hi : i < 5) : eOK (mset M 107 i x) (vSc V i x) := by
  obtain ⟨h1, h2, ⟨h3, h4, h5, h6⟩, h7, h8, h9⟩ := h
  have e : ∀ j, (mset M 107 i x) 107 j = if j = i then x else M 107 j := fun j => by rw [mset_at]; rfl
  refine ⟨h1, fun w hw => ?_, ⟨?_, ?_, ?_, ?_⟩, ?_, ?_, ?_⟩
  · rw [e]
    show _ = if w = i then x else vS V w
    by_cases z : w = i
    · rw [if_pos z, if_pos z]
    · rw [if_neg z, if_neg z]; exact h2 w hw
  · rw [e, if_neg (by omega)]; exact h3
  · rw [e, if_neg (by omega)]; exact h4
  · rw [e, if_neg (by omega)]
    show _ = if 7 = i then x else vS V 7
    rw [if_neg (by omega)]; exact h5
  · rw [e, if_neg (by omega)]
    show _ = if 8 = i then x else vS V 8
    rw [if_neg (by omega)]; exact h6
  · rw [mset_ne (by decide)]; exact h7
  · rw [mset_ne (by decide)]; exact h8
  · rw [mset_ne (by decide)]; exact h9
theorem eOK.dd {M : Mem} {V : View} {n w : Nat} {x : Int32} (h : eOK M V) (hn : n < vN V) (hw : w < 8) : eOK (mset M 108 (8 * n + w) x) (vSet V w n x) := by
  obtain ⟨h1, h2, h3, h7, h8, h9⟩ := h
  have e : ∀ j, (mset M 108 (8 * n + w) x) 108 j = if j = 8 * n + w then x else M 108 j := fun j => by rw [mset_at]; rfl
  refine ⟨h1, ?_, ?_, fun n' w' hn' hw' hz => ?_, fun j hj => ?_, ?_⟩
  · rw [mset_ne (by decide)]; exact h2
  · rw [mset_ne (by decide)]; exact h3
  · rw [e]
    show _ = if w' = w ∧ n' = n then x else vD V w' n'
    by_cases z : w' = w ∧ n' = n
    · rw [if_pos z, if_pos (by omega)]
    · rw [if_neg z, if_neg (by omega)]; exact h7 n' w' hn' hw' hz
  · have hj2 : 8 * vN V ≤ j := hj
    rw [e, if_neg (by omega)]; exact h8 j hj2
  · rw [mset_ne (by decide)]; exact h9
theorem eOK.bo {M : Mem} {V : View} {k w : Nat} {x : Int32} (h : eOK M V) (hk : k < vB V) (hw : w < 3) : eOK (mset M 109 (3 * k + w) x) (vBo V w k x) := by
  obtain ⟨h1, h2, h3, h7, h8, h9⟩ := h
  have e : ∀ j, (mset M 109 (3 * k + w) x) 109 j = if j = 3 * k + w then x else M 109 j := fun j => by rw [mset_at]; rfl
  refine ⟨h1, ?_, ?_, ?_, ?_, fun k' w' hk' hw' => ?_⟩
  · rw [mset_ne (by decide)]; exact h2
  · rw [mset_ne (by decide)]; exact h3
  · rw [mset_ne (by decide)]; exact h7
  · rw [mset_ne (by decide)]; exact h8
  · rw [e]
    show _ = if w' = w ∧ k' = k then x else vO V w' k'
    by_cases z : w' = w ∧ k' = k
    · rw [if_pos z, if_pos (by omega)]
    · rw [if_neg z, if_neg (by omega)]; exact h9 k' w' hk' hw'
theorem eOK.boi {M M' : Mem} {V : View} {a l9 s9 : Int32} (h : eOK M V) (h8 : M' 108 = M 108) (h7 : ∀ j, j ≠ 6 → M' 107 j = M 107 j) (h76 : M' 107 6 = nI (vB V + 1)) (h9 : ∀ j, j < 3 * vB V → M' 109 j = M 109 j) (b0 : M' 109 (3 * vB V) = a) (b1 : M' 109 (3 * vB V + 1) = l9) (b2 : M' 109 (3 * vB V + 2) = s9) : eOK M' (vBoi V a l9 s9) := by
  obtain ⟨g1, g2, ⟨g3, g4, g5, g6⟩, g7, g8, g9⟩ := h
  refine ⟨g1, fun w hw => by rw [h7 w (by omega)]; exact g2 w hw, ⟨by rw [h7 5 (by decide)]; exact g3, h76, by rw [h7 7 (by decide)]; exact g5, by rw [h7 8 (by decide)]; exact g6⟩, by rw [h8]; exact g7, by rw [h8]; exact g8, fun k w hk hw => ?_⟩
  have hk2 : k < vB V + 1 := hk
  by_cases e : k = vB V
  · subst e
    have hc : w = 0 ∨ w = 1 ∨ w = 2 := by omega
    rcases hc with rfl | rfl | rfl
    · rw [show 3 * vB V + 0 = 3 * vB V from rfl, b0]; simp [vBoi, vO]
    · rw [b1]; simp [vBoi, vO]
    · rw [b2]; simp [vBoi, vO]
  · rw [h9 _ (by omega), g9 k w (by omega) hw]
    simp [vBoi, vO, e]
theorem eOK.add {M M' : Mem} {V : View} {a l9 s9 d t : Int32} (h : eOK M V) (hn : vN V < 8) (h9 : M' 109 = M 109) (h7 : ∀ j, j ≠ 5 → M' 107 j = M 107 j) (h75 : M' 107 5 = nI (vN V + 1)) (h8 : ∀ j, (j < 8 * vN V ∨ 8 * vN V + 5 ≤ j) → M' 108 j = M 108 j) (b0 : M' 108 (8 * vN V) = a) (b1 : M' 108 (8 * vN V + 1) = l9) (b2 : M' 108 (8 * vN V + 2) = s9) (b3 : M' 108 (8 * vN V + 3) = d) (b4 : M' 108 (8 * vN V + 4) = t) : eOK M' (vAdd V a l9 s9 d t) := by
  obtain ⟨g1, g2, ⟨g3, g4, g5, g6⟩, g7, g8, g9⟩ := h
  refine ⟨hn, fun w hw => by rw [h7 w (by omega)]; exact g2 w hw, ⟨h75, by rw [h7 6 (by decide)]; exact g4, by rw [h7 7 (by decide)]; exact g5, by rw [h7 8 (by decide)]; exact g6⟩, fun n w hn' hw hz => ?_, fun j hj => ?_, by rw [h9]; exact g9⟩
  · have hn2 : n < vN V + 1 := hn'
    by_cases e : n = vN V
    · subst e
      have hc : w = 0 ∨ w = 1 ∨ w = 2 ∨ w = 3 ∨ w = 4 ∨ w = 5 ∨ w = 6 ∨ w = 7 := by omega
      rcases hc with rfl | rfl | rfl | rfl | rfl | rfl | rfl | rfl
      · rw [show 8 * vN V + 0 = 8 * vN V from rfl, b0]; simp [vAdd, vD]
      · rw [b1]; simp [vAdd, vD]
      · rw [b2]; simp [vAdd, vD]
      · rw [b3]; simp [vAdd, vD]
      · rw [b4]; simp [vAdd, vD]
      · rw [h8 _ (by omega), g8 _ (by omega)]; simp [vAdd, vD]
      · rw [h8 _ (by omega), g8 _ (by omega)]; simp [vAdd, vD]
      · rw [h8 _ (by omega), g8 _ (by omega)]; simp [vAdd, vD]
    · rw [h8 _ (by omega), g7 n w (by omega) hw hz]
      show _ = if n = vN V then _ else vD V w n
      rw [if_neg e]
  · have hj2 : 8 * (vN V + 1) ≤ j := hj
    rw [h8 _ (by omega)]
    exact g8 j (by omega)
theorem eOK.pass {M M' : Mem} {V : View} {h9 : Int32} (h : eOK M V) (h7 : ∀ j, j ≠ 7 → j ≠ 8 → M' 107 j = M 107 j) (h77 : M' 107 7 = vS V 7 + h9 * costF V (ndF V)) (h78 : M' 107 8 = vS V 8 + h9) (h8 : ∀ n w, n < vN V → w < 8 → ¬ (n = 0 ∧ w = 0) → M' 108 (8 * n + w) = if w = 7 ∧ n ≠ 0 then vD V 7 n + h9 * billF V n else vD V w n) (h8z : ∀ j, 8 * vN V ≤ j → M' 108 j = 0) (h9' : M' 109 = M 109) : eOK M' (vPass V h9) := by
  obtain ⟨g1, g2, ⟨g3, g4, g5, g6⟩, g7, g8, g9⟩ := h
  refine ⟨g1, fun w hw => ?_, ⟨by rw [h7 5 (by decide) (by decide)]; exact g3, by rw [h7 6 (by decide) (by decide)]; exact g4, h77, h78⟩, fun n w hn hw hz => h8 n w hn hw hz, h8z, by rw [h9']; exact g9⟩
  rw [h7 w (by omega) (by omega), g2 w hw]
  show _ = if w = 7 then _ else if w = 8 then _ else vS V w
  rw [if_neg (by omega), if_neg (by omega)]
theorem cINV.lw {M M' : Mem} {V : View} {Hs : List View} {len : Nat} {T : Nat → Int32} (h : cINV M V Hs len T) (ho : offR M M' 107 111) : cINV M' V Hs len T := h.off ho (Or.inr (by decide))
theorem mrow_idr {M : Mem} {k k2 : Nat} {f : Nat → Int32} (h : k2 ≠ k) : mrow M k f = mrow (mrow M k f) k2 (M k2) := by
  funext q
  by_cases e : q = k2
  · subst e
    rw [mrow_at, mrow_ne h]
  · rw [mrow_ne e]
theorem inWN {a b c : Nat} (h1 : a ≤ b) (h2 : b ≤ c) (hc : c < 2 ^ 31) : inW (nI b) (nI a) (nI c) := ⟨nI_le h1 (by omega), nI_le h2 hc⟩
theorem inWs {q : Nat} (h : q ≤ 500) : inW (nI q - 200) (-200) 300 := by
  have e1 : (200 : Int32).toInt = 200 := by decide
  have e2 : (-200 : Int32).toInt = -200 := by decide
  have e3 : (300 : Int32).toInt = 300 := by decide
  have e4 := nI_toInt (n := q) (by omega)
  have e : (nI q - 200).toInt = (q : Int) - 200 := by rw [i32_sub (by rw [e1, e4]; omega) (by rw [e1, e4]; omega), e1, e4]
  exact ⟨i32_le.mpr (by rw [e, e2]; omega), i32_le.mpr (by rw [e, e3]; omega)⟩
theorem eDraw_0 {V : View} {n d t : Int32} (h1 : isPp V n) (h2 : inW d 0 500) (h3 : inW t 0 1200) : eDraw V n d t = 0 := by unfold eDraw; rw [if_neg (not_of h1), if_neg (not_of ⟨h2, h3⟩)]
theorem eLeak_0 {V : View} {n k : Int32} (h1 : isPp V n) (h2 : inW k 0 100) : eLeak V n k = 0 := by unfold eLeak; rw [if_neg (not_of h1), if_neg (not_of h2)]
theorem eTemp_0 {a k : Int32} (h1 : inW a 400 1200) (h2 : inW k (-200) 300) : eTemp a k = 0 := if_neg (not_of ⟨h1, h2⟩)
theorem eBoi_0 {V : View} {a l9 s9 : Int32} (h1 : inW a 1 9999999) (h2 : inW l9 0 a) (h3 : inW s9 0 99) (h4 : ¬ vB V = 4) : eBoi V a l9 s9 = 0 := by unfold eBoi; rw [if_neg (not_of ⟨h1, h2, h3⟩), if_neg h4]
theorem eBoi_2 {V : View} {a l9 s9 : Int32} (h1 : inW a 1 9999999) (h2 : inW l9 0 a) (h3 : inW s9 0 99) (h4 : vB V = 4) : eBoi V a l9 s9 = 2 := by unfold eBoi; rw [if_neg (not_of ⟨h1, h2, h3⟩), if_pos h4]
theorem eCost_0 {V : View} {b x : Int32} (h1 : isBo V b) (h2 : inW x 0 99) : eCost V b x = 0 := by unfold eCost; rw [if_neg (not_of h1), if_neg (not_of h2)]
theorem eTar_0 {a b d : Int32} (h1 : inW a 0 999) (h2 : inW b 0 1200) (h3 : inW d 0 99) : eTar a b d = 0 := if_neg (not_of ⟨h1, h2, h3⟩)
theorem ePass_0 {V : View} {h : Int32} (h1 : inW h 1 100) (h2 : ¬ 200 < vS V 8 + h) : ePass V h = 0 := by unfold ePass; rw [if_neg (not_of h1), if_neg h2]
theorem ePass_2 {V : View} {h : Int32} (h1 : inW h 1 100) (h2 : 200 < vS V 8 + h) : ePass V h = 2 := by unfold ePass; rw [if_neg (not_of h1), if_pos h2]
theorem ePp_0 {V : View} {n : Int32} (h1 : isPp V n) : ePp V n = 0 := if_neg (not_of h1)
theorem eAdd_0 {V : View} {a l9 s9 d t : Int32} (h1 : isNd V a) (h2 : inW l9 1 500) (h3 : inW s9 0 50) (h4 : inW d 0 500) (h5 : inW t 0 1200) (h6 : ¬ vN V = 16) : eAdd V a l9 s9 d t = 0 := by unfold eAdd; rw [if_neg (not_of h1), if_neg (not_of ⟨h2, h3, h4, h5⟩), if_neg h6]
theorem eAdd_2 {V : View} {a l9 s9 d t : Int32} (h1 : isNd V a) (h2 : ¬ inW l9 1 500) : eAdd V a l9 s9 d t = 2 := by unfold eAdd; rw [if_neg (not_of h1), if_pos (fun z => h2 z.1)]
theorem mod_le {a b : Nat} (h : 0 < b) : a % (b + 1) ≤ b := Nat.le_of_lt_succ (Nat.mod_lt _ (by omega))
