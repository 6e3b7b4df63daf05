/-! the states that calls make, and what every state keeps -/
def vSet (V : View) (w j : Nat) (x : Int32) : View := ((vN V, vB V), vP V, vS V, (fun w' j' => if w' = w ∧ j' = j then x else vD V w' j'), vO V)
def vSc (V : View) (i : Nat) (x : Int32) : View := ((vN V, vB V), vP V, (fun i' => if i' = i then x else vS V i'), vD V, vO V)
def vBo (V : View) (w b : Nat) (x : Int32) : View := ((vN V, vB V), vP V, vS V, vD V, (fun w' b' => if w' = w ∧ b' = b then x else vO V w' b'))
def vNet (V P : View) : View := ((vN P, vB V), vP P, vS V, vD P, vO V)
theorem cNet_set {M : Mem} {B w j : Nat} {V : View} {x : Int32} (h : cNet M B V) : cNet (mset M (B + 1 + w) j x) B (vSet V w j x) := by
  refine ⟨by rw [mset_ne (by omega)]; exact h.1, fun w' hw' j' hj' => ?_⟩
  show _ = if w' = w ∧ j' = j then x else vD V w' j'
  by_cases e : w' = w
  · subst e
    rw [mset_at]
    by_cases e2 : j' = j
    · subst e2; rw [upd_at, if_pos ⟨rfl, rfl⟩]
    · rw [upd_ne e2, if_neg (fun z => e2 z.2)]; exact h.2 w' hw' j' hj'
  · rw [mset_ne (by omega), if_neg (fun z => e z.1)]; exact h.2 w' hw' j' hj'
theorem cBoi_set {M : Mem} {B w j : Nat} {V : View} {x : Int32} (h : cBoi M B V) : cBoi (mset M (B + 1 + w) j x) B (vBo V w j x) := by
  refine ⟨by rw [mset_ne (by omega)]; exact h.1, fun w' hw' j' hj' => ?_⟩
  show _ = if w' = w ∧ j' = j then x else vO V w' j'
  by_cases e : w' = w
  · subst e
    rw [mset_at]
    by_cases e2 : j' = j
    · subst e2; rw [upd_at, if_pos ⟨rfl, rfl⟩]
    · rw [upd_ne e2, if_neg (fun z => e2 z.2)]; exact h.2 w' hw' j' hj'
  · rw [mset_ne (by omega), if_neg (fun z => e z.1)]; exact h.2 w' hw' j' hj'
theorem cSt_set {M : Mem} {w j : Nat} {V : View} {x : Int32} (hw : w < 8) (h : cSt M 1 V) : cSt (mset M (2 + 1 + w) j x) 1 (vSet V w j x) := by
  obtain ⟨h1, h2, h3⟩ := h
  have ho : offR M (mset M (2 + 1 + w) j x) (2 + 1 + w) (2 + 1 + w) := fun q hq => mset_ne (by omega)
  have e : (mset M (2 + 1 + w) j x) 1 = M 1 := mset_ne (by omega)
  refine ⟨cNet_set h1, (h2.off ho (by omega) : cBoi _ 11 V), ?_⟩
  rw [e]
  exact h3
theorem cSt_bo {M : Mem} {w j : Nat} {V : View} {x : Int32} (hw : w < 3) (h : cSt M 1 V) : cSt (mset M (11 + 1 + w) j x) 1 (vBo V w j x) := by
  obtain ⟨h1, h2, h3⟩ := h
  have ho : offR M (mset M (11 + 1 + w) j x) (11 + 1 + w) (11 + 1 + w) := fun q hq => mset_ne (by omega)
  have e : (mset M (11 + 1 + w) j x) 1 = M 1 := mset_ne (by omega)
  refine ⟨(h1.off ho (by omega) : cNet _ 2 V), cBoi_set h2, ?_⟩
  rw [e]
  exact h3
/-- a scalar's place in the state's cell -/
def scF (i : Nat) : Nat := if i = 0 then 2 else if i = 1 then 3 else if i = 2 then 4 else if i = 3 then 5 else if i = 4 then 6 else if i = 8 then 7 else 8
theorem cSt_sc {M : Mem} {V : View} {x : Int32} (i : Nat) (hi : i < 5 ∨ i = 7 ∨ i = 8) (h : cSt M 1 V) : cSt (mset M 1 (scF i) x) 1 (vSc V i x) := by
  obtain ⟨h1, h2, h3, h4, h5, h6, h7, h8, h9⟩ := h
  have ho : offR M (mset M 1 (scF i) x) 1 1 := fun q hq => mset_ne (by omega)
  refine ⟨(h1.off ho (by omega) : cNet _ 2 V), (h2.off ho (by omega) : cBoi _ 11 V), ?_⟩
  have hc : i = 0 ∨ i = 1 ∨ i = 2 ∨ i = 3 ∨ i = 4 ∨ i = 7 ∨ i = 8 := by omega
  rcases hc with rfl | rfl | rfl | rfl | rfl | rfl | rfl <;> simp [mset, upd, scF, vSc, vS] at * <;> simp_all
/-- what every state keeps: the tree, node 0, the ranges -/
def wfC (V : View) (j : Nat) : Prop := inR (vD V 1 j) 1 500 ∧ inR (vD V 2 j) 0 50 ∧ inR (vD V 3 j) 0 500 ∧ inR (vD V 4 j) 0 1200 ∧ inR (vD V 5 j) 0 100 ∧ (vD V 6 j = 0 ∨ vD V 6 j = 1)
def wfB (V : View) (b : Nat) : Prop := inR (vO V 0 b) 1 9999999 ∧ inR (vO V 1 b) 0 9999999 ∧ (vO V 1 b).toInt ≤ (vO V 0 b).toInt ∧ inR (vO V 2 b) 0 99
def wfS (V : View) : Prop := inR (vS V 0) 400 1200 ∧ inR (vS V 1) (-200) 300 ∧ inR (vS V 2) 0 999 ∧ inR (vS V 3) 0 1200 ∧ inR (vS V 4) 0 99 ∧ inR (vS V 8) 0 200
def wfV (V : View) : Prop := wfT V ∧ isV0 V ∧ (∀ j, 0 < j → j < vN V → wfC V j) ∧ wfS V ∧ (∀ b, b < vB V → wfB V b)
theorem inR_of {x a b : Int32} (h : inW x a b) : inR x a.toInt b.toInt := ⟨i32_le.mp h.1, i32_le.mp h.2⟩
theorem wf_set {V : View} {w j : Nat} {x : Int32} (h : wfV V) (hw : w ≠ 0) (h0 : 0 < j) (hx : ∀ j', j' = j → wfC V j' → wfC (vSet V w j' x) j') : wfV (vSet V w j x) := by
  obtain ⟨⟨t1, t2, t3, t4, t5⟩, h2, h3, h4, h5⟩ := h
  have e0 : ∀ w', vD (vSet V w j x) w' 0 = vD V w' 0 := fun w' => by show (if w' = w ∧ 0 = j then x else vD V w' 0) = _; rw [if_neg (by omega)]
  have ec : ∀ j', vD (vSet V w j x) 0 j' = vD V 0 j' := fun j' => by show (if 0 = w ∧ j' = j then x else vD V 0 j') = _; rw [if_neg (by omega)]
  refine ⟨⟨t1, t2, t3, by rw [e0, e0, e0, e0]; exact t4, fun j' a b => by rw [ec]; exact t5 j' a b⟩, fun w' hw' => by rw [e0]; exact h2 w' hw', fun j' a b => ?_, h4, h5⟩
  by_cases e : j' = j
  · subst e; exact hx j' rfl (h3 j' a b)
  · have en : ∀ w', vD (vSet V w j x) w' j' = vD V w' j' := fun w' => by show (if w' = w ∧ j' = j then x else vD V w' j') = _; rw [if_neg (fun z => e z.2)]
    have := h3 j' a b
    unfold wfC at this ⊢
    rw [en, en, en, en, en, en]
    exact this
theorem wf_set3 {V : View} {j : Nat} {x : Int32} (h : wfV V) (h0 : 0 < j) (hx : inR x 0 500) : wfV (vSet V 3 j x) := wf_set h (by decide) h0 (fun j' e c => by
  obtain ⟨a, b, c, d, e, f⟩ := c
  simp [wfC, vSet, vD] at *
  exact ⟨a, b, hx, d, e, f⟩)
theorem wf_set4 {V : View} {j : Nat} {x : Int32} (h : wfV V) (h0 : 0 < j) (hx : inR x 0 1200) : wfV (vSet V 4 j x) := wf_set h (by decide) h0 (fun j' e c => by
  obtain ⟨a, b, c, d, e, f⟩ := c
  simp [wfC, vSet, vD] at *
  exact ⟨a, b, c, hx, e, f⟩)
theorem wf_set5 {V : View} {j : Nat} {x : Int32} (h : wfV V) (h0 : 0 < j) (hx : inR x 0 100) : wfV (vSet V 5 j x) := wf_set h (by decide) h0 (fun j' e c => by
  obtain ⟨a, b, c, d, e, f⟩ := c
  simp [wfC, vSet, vD] at *
  exact ⟨a, b, c, d, hx, f⟩)
theorem wf_set6 {V : View} {j : Nat} {x : Int32} (h : wfV V) (h0 : 0 < j) (hx : x = 0 ∨ x = 1) : wfV (vSet V 6 j x) := wf_set h (by decide) h0 (fun j' e c => by
  obtain ⟨a, b, c, d, e, f⟩ := c
  simp [wfC, vSet, vD] at *
  exact ⟨a, b, c, d, e, hx⟩)
theorem wf_set7 {V : View} {j : Nat} {x : Int32} (h : wfV V) (h0 : 0 < j) : wfV (vSet V 7 j x) := wf_set h (by decide) h0 (fun j' e c => by
  obtain ⟨a, b, c, d, e, f⟩ := c
  simp [wfC, vSet, vD] at *
  exact ⟨a, b, c, d, e, f⟩)
theorem wf_sc {V : View} {i : Nat} {x : Int32} (h : wfV V) (hx : wfS V → wfS (vSc V i x)) : wfV (vSc V i x) := ⟨h.1, h.2.1, h.2.2.1, hx h.2.2.2.1, h.2.2.2.2⟩
theorem wf_bo {V : View} {b : Nat} {x : Int32} (h : wfV V) (hx : inR x 0 99) : wfV (vBo V 2 b x) := by
  refine ⟨h.1, h.2.1, h.2.2.1, h.2.2.2.1, fun b' hb' => ?_⟩
  obtain ⟨a, c, d, e⟩ := h.2.2.2.2 b' hb'
  refine ⟨a, c, d, ?_⟩
  show inR (if 2 = 2 ∧ b' = b then x else vO V 2 b') 0 99
  split
  · exact hx
  · exact e
theorem wf_boi {V : View} {a l s : Int32} (h : wfV V) (hn : vB V < 4) (h1 : inR a 1 9999999) (h2 : 0 ≤ l.toInt) (h3 : l.toInt ≤ a.toInt) (h4 : inR s 0 99) : wfV (vBoi V a l s) := by
  obtain ⟨⟨t1, t2, t3, t4, t5⟩, h5, h6, h7, h8⟩ := h
  refine ⟨⟨t1, t2, (show vB V + 1 ≤ 4 by omega), t4, t5⟩, h5, h6, h7, fun b hb => ?_⟩
  have hb2 : b < vB V + 1 := hb
  by_cases e : b = vB V
  · subst e
    simp [wfB, vBoi, vO]
    exact ⟨h1, ⟨h2, Int.le_trans h3 h1.2⟩, h3, h4⟩
  · have := h8 b (by omega)
    simp [wfB, vBoi, vO, e] at this ⊢
    exact this
theorem wf_add {V : View} {a l s d t : Int32} {p : Nat} (h : wfV V) (hn : vN V < 16) (hp : a = nI p) (hp2 : p < vN V) (h1 : inR l 1 500) (h2 : inR s 0 50) (h3 : inR d 0 500) (h4 : inR t 0 1200) : wfV (vAdd V a l s d t) := by
  obtain ⟨⟨t1, t2, t3, t4, t5⟩, h5, h6, h7, h8⟩ := h
  have e0 : ∀ w, vD (vAdd V a l s d t) w 0 = vD V w 0 := fun w => by show (if 0 = vN V then _ else vD V w 0) = _; rw [if_neg (by omega)]
  have ne : ∀ w j, j ≠ vN V → vD (vAdd V a l s d t) w j = vD V w j := fun w j hj => by show (if j = vN V then _ else vD V w j) = _; rw [if_neg hj]
  refine ⟨⟨(show 1 ≤ vN V + 1 by omega), (show vN V + 1 ≤ 16 by omega), t3, by rw [e0, e0, e0, e0]; exact t4, fun j h9 hj => ?_⟩, fun w hw => by rw [e0]; exact h5 w hw, fun j h9 hj => ?_, h7, h8⟩
  · have hj2 : j < vN V + 1 := hj
    by_cases e : j = vN V
    · subst e
      have e1 : vD (vAdd V a l s d t) 0 (vN V) = a := by simp [vAdd, vD]
      have e2 : vP (vAdd V a l s d t) (vN V) = a.toNatClampNeg := by simp [vAdd, vP]
      rw [e1, e2, hp, nI_clamp (by omega)]
      exact ⟨rfl, hp2⟩
    · have e2 : vP (vAdd V a l s d t) j = vP V j := by show (if j = vN V then _ else vP V j) = _; rw [if_neg e]
      rw [ne 0 j e, e2]
      exact t5 j h9 (by omega)
  · have hj2 : j < vN V + 1 := hj
    by_cases e : j = vN V
    · subst e
      simp [wfC, vAdd, vD]
      exact ⟨h1, h2, h3, h4, ⟨by decide, by decide⟩⟩
    · have := h6 j h9 (by omega)
      unfold wfC at this ⊢
      rw [ne 1 j e, ne 2 j e, ne 3 j e, ne 4 j e, ne 5 j e, ne 6 j e]
      exact this
theorem wf_net {V P : View} (h : wfV V) (hP : wfV P) : wfV (vNet V P) := by
  obtain ⟨⟨t1, t2, t3, t4, t5⟩, h5, h6, h7, h8⟩ := h
  obtain ⟨⟨u1, u2, u3, u4, u5⟩, g5, g6, g7, g8⟩ := hP
  exact ⟨⟨u1, u2, t3, u4, u5⟩, g5, g6, h7, h8⟩
/-- the class's object holds: the state V, the saved states Hs, the text T of len bytes -/
def cINV (M : Mem) (V : View) (Hs : List View) (len : Nat) (T : Nat → Int32) : Prop :=
  cOK M V ∧ wfV V ∧ hiOK M Hs ∧ (∀ W, W ∈ Hs → wfV W) ∧ (M 73 1 = nI len ∧ len ≤ 180 ∧ ∀ j, j < len → M 74 j = T j) ∧ (∀ w, w < 8 → M (98 + w) 0 = if w = 0 then -1 else 0)
/-- what calls of the class may write: its own cells -/
abbrev offC (M M' : Mem) : Prop := offR M M' 0 106
theorem wf_push {Hs : List View} {V : View} (h : ∀ W, W ∈ Hs → wfV W) (hV : wfV V) : ∀ W, W ∈ hPush Hs V → wfV W := by
  intro W hW
  unfold hPush at hW
  split at hW
  · rcases List.mem_append.mp hW with q | q
    · exact h W q
    · rw [List.mem_singleton.mp q]; exact hV
  · rcases List.mem_append.mp hW with q | q
    · exact h W (List.mem_of_mem_tail q)
    · rw [List.mem_singleton.mp q]; exact hV
/-- behind a change of the state: kept, changed, settled -/
theorem cINV_mut {M M1 M2 M3 : Mem} {V V' : View} {Hs : List View} {len : Nat} {T : Nat → Int32} (h : cINV M V Hs len T) (h1 : hiOK M1 (hPush Hs V)) (o1 : offR M M1 15 72) (o2 : offR M1 M2 1 14) (h3 : cOK M3 V') (o3 : offR M2 M3 75 85) (hw : wfV V') : cINV M3 V' (hPush Hs V) len T ∧ offC M M3 := by
  obtain ⟨a1, a2, a3, a4, a5, a6⟩ := h
  have e : ∀ q, (72 < q ∧ q < 75) ∨ 85 < q → M3 q = M q := fun q hq => (o3 q (by omega)).trans ((o2 q (by omega)).trans (o1 q (by omega)))
  refine ⟨⟨h3, hw, (h1.off o2 (by omega)).off o3 (by omega), wf_push a4 a2, ?_, fun w hw => by rw [e _ (by omega)]; exact a6 w hw⟩, fun q hq => e q (by omega)⟩
  rw [e 73 (by omega), e 74 (by omega)]
  exact a5
/-- .. and where only cells that nobody reads have changed -/
theorem cINV.off {M M' : Mem} {V : View} {Hs : List View} {len : Nat} {T : Nat → Int32} {a b : Nat} (h : cINV M V Hs len T) (ho : offR M M' a b) (hB : (85 < a ∧ b < 97) ∨ 105 < a) : cINV M' V Hs len T := by
  obtain ⟨a1, a2, a3, a4, a5, a6⟩ := h
  refine ⟨a1.off ho (by omega), a2, a3.off ho (by omega), a4, ?_, fun w hw => by rw [ho _ (by omega)]; exact a6 w hw⟩
  rw [ho 73 (by omega), ho 74 (by omega)]
  exact a5
