/-! what the answers are -/
def vSup (V : View) : Int32 := vS V 0
abbrev isNd (V : View) (x : Int32) : Prop := 0 ≤ x ∧ x < nI (vN V)
abbrev isPp (V : View) (x : Int32) : Prop := 1 ≤ x ∧ x < nI (vN V)
abbrev isBo (V : View) (x : Int32) : Prop := 0 ≤ x ∧ x < nI (vB V)
abbrev inW (x a b : Int32) : Prop := a ≤ x ∧ x ≤ b
theorem isNd_nI {V : View} {x : Int32} (hn : vN V < 2 ^ 31) (h : isNd V x) : ∃ j, j < vN V ∧ x = nI j := by
  obtain ⟨j, h1, h2⟩ := nI_of (x := x) (i32_nlt.mpr h.1)
  subst h2
  exact ⟨j, (nI_ltI h1 hn).mp h.2, rfl⟩
theorem isPp_nI {V : View} {x : Int32} (hn : vN V < 2 ^ 31) (h : isPp V x) : ∃ j, 0 < j ∧ j < vN V ∧ x = nI j := by
  obtain ⟨j, h1, h2⟩ := nI_of (x := x) (i32_nlt.mpr (Int32.le_trans (by decide) h.1))
  subst h2
  exact ⟨j, (nI_leI (a := 1) (by decide) h1).mp h.1, (nI_ltI h1 hn).mp h.2, rfl⟩
theorem isBo_nI {V : View} {x : Int32} (hn : vB V < 2 ^ 31) (h : isBo V x) : ∃ j, j < vB V ∧ x = nI j := by
  obtain ⟨j, h1, h2⟩ := nI_of (x := x) (i32_nlt.mpr h.1)
  subst h2
  exact ⟨j, (nI_ltI h1 hn).mp h.2, rfl⟩
def delF (V : View) (j : Nat) : Int32 := vD V 3 j * (warmF V (vSup V) j - rF V (vSup V) j)
def billF (V : View) (j : Nat) : Int32 := delF V j * vS V 2 / 1000 + vD V 3 j * (rF V (vSup V) j - vS V 3) * vS V 4 / 1000
def heatF (V : View) (j w : Nat) : Int32 :=
  if w = 0 then delF V j else if w = 1 then flowF V j * (warmF V (vSup V) (vP V j) - warmF V (vSup V) j) else if w = 2 then vD V 5 j * warmF V (vSup V) j else if w = 3 then backF V (vSup V) j else if w = 4 then flowF V j * warmF V (vSup V) (vP V j) else billF V j
def sumF (V : View) (w : Nat) : Int32 := sumP (fun j => heatF V j w) (vN V)
def valF (V : View) (w : Nat) : Int32 :=
  if w = 0 then vS V 0 else if w = 1 then vS V 1 else if w = 2 then vS V 2 else if w = 3 then vS V 3 else if w = 4 then vS V 4 else if w = 5 then nI (vN V) else if w = 6 then nI (vB V) else if w = 7 then needF V (vSup V) else if w = 8 then unmetF V (needF V (vSup V)) else if w = 9 then costF V (needF V (vSup V)) else if w = 10 then vS V 7 else if w = 11 then vS V 8 else if w = 12 then sumP (vD V 7) (vN V) else if w = 13 then backF V (vSup V) 0 else sumP (vD V 6) (vN V)
def boiF (V : View) (b w : Nat) : Int32 := if w = 0 then vO V 0 b else if w = 1 then vO V 1 b else if w = 2 then vO V 2 b else if w = 3 then loadF V (needF V (vSup V)) b else nI (placeN V b)
/-- nothing divides by 0 -/
def wfZ (V : View) : Prop := ∀ j, 0 < j → j < vN V → ¬ flowF V j ≤ 0 → ¬ 1000 * flowF V j = 0
/-- the class's cells hold V, worked out -/
def cOK (M : Mem) (V : View) : Prop := cSt M 1 V ∧ hourOK M 75 V (vSup V) ∧ rgOK M 80 V (vD V 6)
theorem cOK.net {M : Mem} {V : View} (h : cOK M V) : cNet M 2 V := h.1.1
theorem cOK.boi {M : Mem} {V : View} (h : cOK M V) : cBoi M 11 V := h.1.2.1
theorem cOK.off {M M' : Mem} {V : View} {a b : Nat} (h : cOK M V) (ho : offR M M' a b) (hB : 85 < a ∨ (b < 75 ∧ 14 < a)) : cOK M' V := ⟨h.1.off ho (by omega), h.2.1.off ho (by omega), h.2.2.off ho (by omega)⟩
theorem cOK.fl {M : Mem} {V : View} (h : cOK M V) {j : Nat} (hj : j < vN V) : M 76 j = flowF V j := (h.2.1.1 j hj).1
theorem cOK.wm {M : Mem} {V : View} (h : cOK M V) {j : Nat} (hj : j < vN V) : M 77 j = warmF V (vSup V) j := (h.2.1.1 j hj).2.1
theorem cOK.bk {M : Mem} {V : View} (h : cOK M V) {j : Nat} (hj : j < vN V) : M 78 j = backF V (vSup V) j := (h.2.1.1 j hj).2.2
theorem cOK.ld {M : Mem} {V : View} (h : cOK M V) {j : Nat} (hj : j < vB V) : M 79 j = loadF V (needF V (vSup V)) j := h.2.1.2.1 j hj
