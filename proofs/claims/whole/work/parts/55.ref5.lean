def refOK (M : Mem) (V : View) (sup : Int32) : Prop := ∀ j, j < vN V → M 112 j = flowF V j ∧ M 113 j = warmF V sup j ∧ (0 < j → M 114 j = rF V sup j) ∧ M 115 j = backF V sup j
def ownF (V : View) (j : Nat) : Int32 := if j = 0 then 0 else vD V 3 j + vD V 5 j
/-- the four rows that the reference works out -/
def m4 (M : Mem) (f w b h : Nat → Int32) : Mem := fun q => if q = 112 then f else if q = 113 then w else if q = 114 then b else if q = 115 then h else M q
theorem m4_id (M : Mem) : M = m4 M (M 112) (M 113) (M 114) (M 115) := by
  funext q
  unfold m4
  by_cases h1 : q = 112
  · rw [if_pos h1, h1]
  · rw [if_neg h1]
    by_cases h2 : q = 113
    · rw [if_pos h2, h2]
    · rw [if_neg h2]
      by_cases h3 : q = 114
      · rw [if_pos h3, h3]
      · rw [if_neg h3]
        by_cases h4 : q = 115
        · rw [if_pos h4, h4]
        · rw [if_neg h4]
theorem m4_o {M : Mem} {f w b h : Nat → Int32} {q : Nat} (hq : q < 112 ∨ 115 < q) : m4 M f w b h q = M q := by
  unfold m4
  rw [if_neg (by omega), if_neg (by omega), if_neg (by omega), if_neg (by omega)]
theorem m4_1 {M : Mem} {f w b h : Nat → Int32} {i : Nat} {x : Int32} : mset (m4 M f w b h) 112 i x = m4 M (upd f i x) w b h := by
  funext q
  by_cases e : q = 112
  · subst e; rw [mset_at]; rfl
  · rw [mset_ne e]; unfold m4; rw [if_neg e, if_neg e]
theorem m4_2 {M : Mem} {f w b h : Nat → Int32} {i : Nat} {x : Int32} : mset (m4 M f w b h) 113 i x = m4 M f (upd w i x) b h := by
  funext q
  by_cases e : q = 113
  · subst e; rw [mset_at]; rfl
  · rw [mset_ne e]; unfold m4; rw [if_neg e, if_neg e]
theorem m4_3 {M : Mem} {f w b h : Nat → Int32} {i : Nat} {x : Int32} : mset (m4 M f w b h) 114 i x = m4 M f w (upd b i x) h := by
  funext q
  by_cases e : q = 114
  · subst e; rw [mset_at]; rfl
  · rw [mset_ne e]; unfold m4; rw [if_neg e, if_neg e]
theorem m4_4 {M : Mem} {f w b h : Nat → Int32} {i : Nat} {x : Int32} : mset (m4 M f w b h) 115 i x = m4 M f w b (upd h i x) := by
  funext q
  by_cases e : q = 115
  · subst e; rw [mset_at]; rfl
  · rw [mset_ne e]; unfold m4; rw [if_neg e, if_neg e]