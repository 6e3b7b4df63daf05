-- the reference: its row s at place 108 holds a view
def rV (f : Nat → Int32) (V : View) : Prop := (f 5 = nI (vN V) ∧ f 6 = nI (vB V)) ∧ (f 0 = vS V 0 ∧ f 1 = vS V 1 ∧ f 2 = vS V 2 ∧ f 3 = vS V 3 ∧ f 4 = vS V 4 ∧ f 7 = vS V 7 ∧ f 8 = vS V 8) ∧ (∀ w, w < 8 → ∀ j, j < vN V → f (9 + 8 * j + w) = vD V w j) ∧ ∀ w, w < 3 → ∀ b, b < vB V → f (137 + 3 * b + w) = vO V w b
theorem nI_mulN (a b : Nat) : nI a * nI b = nI (a * b) := (Int32.ofNat_mul a b).symm
theorem ix8 (j w : Nat) : (9 : Int32) + 8 * nI j + nI w = nI (9 + 8 * j + w) := by
  rw [show (9 : Int32) = nI 9 from rfl, show (8 : Int32) = nI 8 from rfl, nI_mulN, nI_add, nI_add]
theorem ix3 (j w : Nat) : (137 : Int32) + 3 * nI j + nI w = nI (137 + 3 * j + w) := by
  rw [show (137 : Int32) = nI 137 from rfl, show (3 : Int32) = nI 3 from rfl, nI_mulN, nI_add, nI_add]
theorem minI_lt (x y : Int32) : (if x < y then x else y) = minI x y := by
  unfold minI
  by_cases h : x < y
  · rw [if_pos h, if_neg (fun z => by rw [i32_lt] at h z; omega)]
  · rw [if_neg h]
    by_cases h2 : y < x
    · rw [if_pos h2]
    · rw [if_neg h2]; rw [i32_eq]; rw [i32_lt] at h h2; omega
def yn (r : Int32) (p : Prop) : Prop := r = 1 ∧ p ∨ r = 0 ∧ ¬ p
theorem yn.t {r : Int32} {p : Prop} (h : yn r p) (hr : ¬ r = 0) : p := by rcases h with q | q; exact q.2; exact absurd q.1 hr
theorem yn.f {r : Int32} {p : Prop} (h : yn r p) (hr : r = 0) : ¬ p := by rcases h with q | q; (rw [q.1] at hr; exact absurd hr (by decide)); exact q.2
def belA (V : View) (n : Nat) : Nat → Nat → Bool
  | 0, t => decide (t = n)
  | k + 1, t => if n < t then belA V n k (vP V t) else decide (t = n)
def belF (V : View) (n t : Nat) : Bool := belA V n t t
set_option maxRecDepth 20000 in
set_option maxHeartbeats 1000000 in
theorem c_X8_of (l : Launch) (G : mG) (hG : mInj G) (M : Mem) (g : Glo) (V : View) (hW : wfV V) (hV : rV (M 108) V) (j : Nat) (hj : j < vN V) (w : Nat) (hw : w < 8) : mcI l G yX8_of cX8_of 3 .int 1 [.ref (mA G 107), .int (nI j), .int (nI w)] M g (fun r M' g' => r = vD V w j ∧ M' = M ∧ g' = g) := by
  refine mcI_of (L0 := [(0, .ref (mA G 107)), (1, .int (nI j)), (2, .int (nI w))]) hG (by decide) (Nat.le_of_ble_eq_true rfl) rfl ?_
  intro p e s m args below meth c Q C hend
  have hT := hW.1
  obtain ⟨hn1, hn16, hb4, ⟨hd0, hd3, hd5, hd6⟩, hpar⟩ := id hT
  refine r_aload_n C dX8_of_0 0 rfl ?_
  refine r_getr (q2 := 108) C dX8_of_1 0 f_X8_7 rfl rfl ?_
  refine r_bipush (v := 9) C dX8_of_4 rfl ?_
  refine r_bipush (v := 8) C dX8_of_6 rfl ?_
  refine r_iload_n C dX8_of_8 1 rfl ?_
  refine r_imul C dX8_of_9 ?_
  refine r_iadd C dX8_of_10 ?_
  refine r_iload_n C dX8_of_11 2 rfl ?_
  refine r_iadd C dX8_of_12 ?_
  refine r_ialdN (j := 9 + 8 * j + w) (v := vD V w j) C dX8_of_13 rfl (ix8 j w) (by omega) (by decide) (hV.2.2.1 w hw j hj) ?_
  exact hend _ _ _ _ _ dX8_of_14 (rfl) (⟨rfl, rfl, rfl⟩)

set_option maxRecDepth 20000 in
set_option maxHeartbeats 1000000 in
theorem c_X8_ofBoiler (l : Launch) (G : mG) (hG : mInj G) (M : Mem) (g : Glo) (V : View) (hW : wfV V) (hV : rV (M 108) V) (j : Nat) (hj : j < vB V) (w : Nat) (hw : w < 3) : mcI l G yX8_ofBoiler cX8_ofBoiler 3 .int 1 [.ref (mA G 107), .int (nI j), .int (nI w)] M g (fun r M' g' => r = vO V w j ∧ M' = M ∧ g' = g) := by
  refine mcI_of (L0 := [(0, .ref (mA G 107)), (1, .int (nI j)), (2, .int (nI w))]) hG (by decide) (Nat.le_of_ble_eq_true rfl) rfl ?_
  intro p e s m args below meth c Q C hend
  have hT := hW.1
  obtain ⟨hn1, hn16, hb4, ⟨hd0, hd3, hd5, hd6⟩, hpar⟩ := id hT
  refine r_aload_n C dX8_ofBoiler_0 0 rfl ?_
  refine r_getr (q2 := 108) C dX8_ofBoiler_1 0 f_X8_7 rfl rfl ?_
  refine r_sipush (v := 137) C dX8_ofBoiler_4 rfl ?_
  refine r_iconst (v := 3) C dX8_ofBoiler_7 rfl ?_
  refine r_iload_n C dX8_ofBoiler_8 1 rfl ?_
  refine r_imul C dX8_ofBoiler_9 ?_
  refine r_iadd C dX8_ofBoiler_10 ?_
  refine r_iload_n C dX8_ofBoiler_11 2 rfl ?_
  refine r_iadd C dX8_ofBoiler_12 ?_
  refine r_ialdN (j := 137 + 3 * j + w) (v := vO V w j) C dX8_ofBoiler_13 rfl (ix3 j w) (by omega) (by decide) (hV.2.2.2 w hw j hj) ?_
  exact hend _ _ _ _ _ dX8_ofBoiler_14 (rfl) (⟨rfl, rfl, rfl⟩)

set_option maxRecDepth 20000 in
set_option maxHeartbeats 1000000 in
theorem c_X8_in (l : Launch) (G : mG) (hG : mInj G) (M : Mem) (g : Glo) (x a b : Int32) : mcI l G yX8_in cX8_in 3 .boolean 1 [.int x, .int a, .int b] M g (fun r M' g' => yn r (inW x a b) ∧ M' = M ∧ g' = g) := by
  refine mcI_of (L0 := [(0, .int x), (1, .int a), (2, .int b)]) hG (by decide) (Nat.le_of_ble_eq_true rfl) rfl ?_
  intro p e s m args below meth c Q C hend
  refine r_iload_n C dX8_in_0 0 rfl ?_
  refine r_iload_n C dX8_in_1 1 rfl ?_
  refine r_icmp_lt (tgt := 14) C dX8_in_2 (by decide) (fun c2 => ?_) (fun c2 => ?_)
  ·
    refine r_iconst (v := 0) C dX8_in_14 rfl ?_
    exact hend _ _ _ _ _ dX8_in_15 (rfl) (⟨Or.inr ⟨rfl, fun z => absurd z.1 (i32_nle.mpr c2)⟩, rfl, rfl⟩)
  ·
    refine r_iload_n C dX8_in_5 0 rfl ?_
    refine r_iload_n C dX8_in_6 2 rfl ?_
    refine r_icmp_gt (tgt := 14) C dX8_in_7 (by decide) (fun c7 => ?_) (fun c7 => ?_)
    ·
      refine r_iconst (v := 0) C dX8_in_14 rfl ?_
      exact hend _ _ _ _ _ dX8_in_15 (rfl) (⟨Or.inr ⟨rfl, fun z => absurd z.2 (i32_nle.mpr c7)⟩, rfl, rfl⟩)
    ·
      refine r_iconst (v := 1) C dX8_in_10 rfl ?_
      refine r_goto (tgt := 15) C dX8_in_11 (by decide) ?_
      exact hend _ _ _ _ _ dX8_in_15 (rfl) (⟨Or.inl ⟨rfl, ⟨i32_nlt.mp c2, i32_nlt.mp c7⟩⟩, rfl, rfl⟩)

set_option maxRecDepth 20000 in
set_option maxHeartbeats 1000000 in
theorem c_X8_less (l : Launch) (G : mG) (hG : mInj G) (M : Mem) (g : Glo) (x y : Int32) : mcI l G yX8_less cX8_less 2 .int 1 [.int x, .int y] M g (fun r M' g' => r = minI x y ∧ M' = M ∧ g' = g) := by
  refine mcI_of (L0 := [(0, .int x), (1, .int y)]) hG (by decide) (Nat.le_of_ble_eq_true rfl) rfl ?_
  intro p e s m args below meth c Q C hend
  refine r_iload_n C dX8_less_0 0 rfl ?_
  refine r_iload_n C dX8_less_1 1 rfl ?_
  refine r_icmp_ge (tgt := 9) C dX8_less_2 (by decide) (fun c2 => ?_) (fun c2 => ?_)
  ·
    refine r_iload_n C dX8_less_9 1 rfl ?_
    exact hend _ _ _ _ _ dX8_less_10 (rfl) (⟨by rw [← minI_lt, if_neg (i32_nlt.mpr c2)], rfl, rfl⟩)
  ·
    refine r_iload_n C dX8_less_5 0 rfl ?_
    refine r_goto (tgt := 10) C dX8_less_6 (by decide) ?_
    exact hend _ _ _ _ _ dX8_less_10 (rfl) (⟨by rw [← minI_lt, if_pos (i32_nle.mp c2)], rfl, rfl⟩)

set_option maxRecDepth 20000 in
set_option maxHeartbeats 1000000 in
theorem c_X8_isNode (l : Launch) (G : mG) (hG : mInj G) (M : Mem) (g : Glo) (V : View) (hW : wfV V) (hV : rV (M 108) V) (n : Int32) : mcI l G yX8_isNode cX8_isNode 2 .boolean 1 [.ref (mA G 107), .int n] M g (fun r M' g' => yn r (isNd V n) ∧ M' = M ∧ g' = g) := by
  refine mcI_of (L0 := [(0, .ref (mA G 107)), (1, .int n)]) hG (by decide) (Nat.le_of_ble_eq_true rfl) rfl ?_
  intro p e s m args below meth c Q C hend
  have hT := hW.1
  obtain ⟨hn1, hn16, hb4, ⟨hd0, hd3, hd5, hd6⟩, hpar⟩ := id hT
  refine r_iload_n C dX8_isNode_0 1 rfl ?_
  refine r_if_lt (tgt := 18) C dX8_isNode_1 (by decide) (fun c1 => ?_) (fun c1 => ?_)
  ·
    refine r_iconst (v := 0) C dX8_isNode_18 rfl ?_
    exact hend _ _ _ _ _ dX8_isNode_19 (rfl) (⟨Or.inr ⟨rfl, fun z => absurd z.1 (i32_nle.mpr c1)⟩, rfl, rfl⟩)
  ·
    refine r_iload_n C dX8_isNode_4 1 rfl ?_
    refine r_aload_n C dX8_isNode_5 0 rfl ?_
    refine r_getr (q2 := 108) C dX8_isNode_6 0 f_X8_7 rfl rfl ?_
    refine r_iconst (v := 5) C dX8_isNode_9 rfl ?_
    refine r_ialdN (j := 5) (v := nI (vN V)) C dX8_isNode_10 rfl (rfl) (by omega) (by decide) (hV.1.1) ?_
    refine r_icmp_ge (tgt := 18) C dX8_isNode_11 (by decide) (fun c11 => ?_) (fun c11 => ?_)
    ·
      refine r_iconst (v := 0) C dX8_isNode_18 rfl ?_
      exact hend _ _ _ _ _ dX8_isNode_19 (rfl) (⟨Or.inr ⟨rfl, fun z => absurd z.2 (i32_nlt.mpr c11)⟩, rfl, rfl⟩)
    ·
      refine r_iconst (v := 1) C dX8_isNode_14 rfl ?_
      refine r_goto (tgt := 19) C dX8_isNode_15 (by decide) ?_
      exact hend _ _ _ _ _ dX8_isNode_19 (rfl) (⟨Or.inl ⟨rfl, ⟨i32_nlt.mp c1, i32_nle.mp c11⟩⟩, rfl, rfl⟩)

set_option maxRecDepth 20000 in
set_option maxHeartbeats 1000000 in
theorem c_X8_isPipe (l : Launch) (G : mG) (hG : mInj G) (M : Mem) (g : Glo) (V : View) (hW : wfV V) (hV : rV (M 108) V) (n : Int32) : mcI l G yX8_isPipe cX8_isPipe 2 .boolean 1 [.ref (mA G 107), .int n] M g (fun r M' g' => yn r (isPp V n) ∧ M' = M ∧ g' = g) := by
  refine mcI_of (L0 := [(0, .ref (mA G 107)), (1, .int n)]) hG (by decide) (Nat.le_of_ble_eq_true rfl) rfl ?_
  intro p e s m args below meth c Q C hend
  have hT := hW.1
  obtain ⟨hn1, hn16, hb4, ⟨hd0, hd3, hd5, hd6⟩, hpar⟩ := id hT
  have e1 : (1 : Int32) ≤ n ↔ ¬ n ≤ 0 := by rw [i32_le, i32_le, show (1 : Int32).toInt = 1 from by decide, show (0 : Int32).toInt = 0 from by decide]; omega
  refine r_iload_n C dX8_isPipe_0 1 rfl ?_
  refine r_if_le (tgt := 18) C dX8_isPipe_1 (by decide) (fun c1 => ?_) (fun c1 => ?_)
  ·
    refine r_iconst (v := 0) C dX8_isPipe_18 rfl ?_
    exact hend _ _ _ _ _ dX8_isPipe_19 (rfl) (⟨Or.inr ⟨rfl, fun z => e1.mp z.1 c1⟩, rfl, rfl⟩)
  ·
    refine r_iload_n C dX8_isPipe_4 1 rfl ?_
    refine r_aload_n C dX8_isPipe_5 0 rfl ?_
    refine r_getr (q2 := 108) C dX8_isPipe_6 0 f_X8_7 rfl rfl ?_
    refine r_iconst (v := 5) C dX8_isPipe_9 rfl ?_
    refine r_ialdN (j := 5) (v := nI (vN V)) C dX8_isPipe_10 rfl (rfl) (by omega) (by decide) (hV.1.1) ?_
    refine r_icmp_ge (tgt := 18) C dX8_isPipe_11 (by decide) (fun c11 => ?_) (fun c11 => ?_)
    ·
      refine r_iconst (v := 0) C dX8_isPipe_18 rfl ?_
      exact hend _ _ _ _ _ dX8_isPipe_19 (rfl) (⟨Or.inr ⟨rfl, fun z => absurd z.2 (i32_nlt.mpr c11)⟩, rfl, rfl⟩)
    ·
      refine r_iconst (v := 1) C dX8_isPipe_14 rfl ?_
      refine r_goto (tgt := 19) C dX8_isPipe_15 (by decide) ?_
      exact hend _ _ _ _ _ dX8_isPipe_19 (rfl) (⟨Or.inl ⟨rfl, ⟨e1.mpr c1, i32_nle.mp c11⟩⟩, rfl, rfl⟩)

set_option maxRecDepth 20000 in
set_option maxHeartbeats 1000000 in
theorem c_X8_isBoiler (l : Launch) (G : mG) (hG : mInj G) (M : Mem) (g : Glo) (V : View) (hW : wfV V) (hV : rV (M 108) V) (n : Int32) : mcI l G yX8_isBoiler cX8_isBoiler 2 .boolean 1 [.ref (mA G 107), .int n] M g (fun r M' g' => yn r (isBo V n) ∧ M' = M ∧ g' = g) := by
  refine mcI_of (L0 := [(0, .ref (mA G 107)), (1, .int n)]) hG (by decide) (Nat.le_of_ble_eq_true rfl) rfl ?_
  intro p e s m args below meth c Q C hend
  have hT := hW.1
  obtain ⟨hn1, hn16, hb4, ⟨hd0, hd3, hd5, hd6⟩, hpar⟩ := id hT
  refine r_iload_n C dX8_isBoiler_0 1 rfl ?_
  refine r_if_lt (tgt := 19) C dX8_isBoiler_1 (by decide) (fun c1 => ?_) (fun c1 => ?_)
  ·
    refine r_iconst (v := 0) C dX8_isBoiler_19 rfl ?_
    exact hend _ _ _ _ _ dX8_isBoiler_20 (rfl) (⟨Or.inr ⟨rfl, fun z => absurd z.1 (i32_nle.mpr c1)⟩, rfl, rfl⟩)
  ·
    refine r_iload_n C dX8_isBoiler_4 1 rfl ?_
    refine r_aload_n C dX8_isBoiler_5 0 rfl ?_
    refine r_getr (q2 := 108) C dX8_isBoiler_6 0 f_X8_7 rfl rfl ?_
    refine r_bipush (v := 6) C dX8_isBoiler_9 rfl ?_
    refine r_ialdN (j := 6) (v := nI (vB V)) C dX8_isBoiler_11 rfl (rfl) (by omega) (by decide) (hV.1.2) ?_
    refine r_icmp_ge (tgt := 19) C dX8_isBoiler_12 (by decide) (fun c12 => ?_) (fun c12 => ?_)
    ·
      refine r_iconst (v := 0) C dX8_isBoiler_19 rfl ?_
      exact hend _ _ _ _ _ dX8_isBoiler_20 (rfl) (⟨Or.inr ⟨rfl, fun z => absurd z.2 (i32_nlt.mpr c12)⟩, rfl, rfl⟩)
    ·
      refine r_iconst (v := 1) C dX8_isBoiler_15 rfl ?_
      refine r_goto (tgt := 20) C dX8_isBoiler_16 (by decide) ?_
      exact hend _ _ _ _ _ dX8_isBoiler_20 (rfl) (⟨Or.inl ⟨rfl, ⟨i32_nlt.mp c1, i32_nle.mp c12⟩⟩, rfl, rfl⟩)

set_option maxRecDepth 20000 in
set_option maxHeartbeats 1000000 in
theorem c_X8_isPipe_ (l : Launch) (G : mG) (hG : mInj G) (M : Mem) (g : Glo) (x y : Int32) : mcI l G yX8_isPipe_ cX8_isPipe_ 2 .boolean 2 [.int x, .int y] M g (fun r M' g' => yn r (inW x 1 500 ∧ inW y 0 50) ∧ M' = M ∧ g' = g) := by
  refine mcI_of (L0 := [(0, .int x), (1, .int y)]) hG (by decide) (Nat.le_of_ble_eq_true rfl) rfl ?_
  intro p e s m args below meth c Q C hend
  refine r_iload_n C dX8_isPipe__0 0 rfl ?_
  refine r_iconst (v := 1) C dX8_isPipe__1 rfl ?_
  refine r_sipush (v := 500) C dX8_isPipe__2 rfl ?_
  refine r_callSI (As := [.int x, .int 1, .int 500]) (rest := []) C dX8_isPipe__5 s_X8_83 (c_X8_in l G hG M g x 1 500) (by decide) rfl rfl (Nat.le_of_ble_eq_true rfl) (Nat.le_of_ble_eq_true rfl) (Nat.le_of_ble_eq_true rfl) (fun r5 M5 g5 hp5 => ?_)
  obtain ⟨hy5, eM5, eg5⟩ := hp5
  rw [eg5]
  rw [eM5]
  refine r_if_eq (tgt := 25) C dX8_isPipe__8 (by decide) (fun c8 => ?_) (fun c8 => ?_)
  ·
    refine r_iconst (v := 0) C dX8_isPipe__25 rfl ?_
    exact hend _ _ _ _ _ dX8_isPipe__26 (rfl) (⟨Or.inr ⟨rfl, fun z => hy5.f c8 z.1⟩, rfl, rfl⟩)
  ·
    refine r_iload_n C dX8_isPipe__11 1 rfl ?_
    refine r_iconst (v := 0) C dX8_isPipe__12 rfl ?_
    refine r_bipush (v := 50) C dX8_isPipe__13 rfl ?_
    refine r_callSI (As := [.int y, .int 0, .int 50]) (rest := []) C dX8_isPipe__15 s_X8_83 (c_X8_in l G hG M g y 0 50) (by decide) rfl rfl (Nat.le_of_ble_eq_true rfl) (Nat.le_of_ble_eq_true rfl) (Nat.le_of_ble_eq_true rfl) (fun r15 M15 g15 hp15 => ?_)
    obtain ⟨hy15, eM15, eg15⟩ := hp15
    rw [eg15]
    rw [eM15]
    refine r_if_eq (tgt := 25) C dX8_isPipe__18 (by decide) (fun c18 => ?_) (fun c18 => ?_)
    ·
      refine r_iconst (v := 0) C dX8_isPipe__25 rfl ?_
      exact hend _ _ _ _ _ dX8_isPipe__26 (rfl) (⟨Or.inr ⟨rfl, fun z => hy15.f c18 z.2⟩, rfl, rfl⟩)
    ·
      refine r_iconst (v := 1) C dX8_isPipe__21 rfl ?_
      refine r_goto (tgt := 26) C dX8_isPipe__22 (by decide) ?_
      exact hend _ _ _ _ _ dX8_isPipe__26 (rfl) (⟨Or.inl ⟨rfl, ⟨hy5.t c8, hy15.t c18⟩⟩, rfl, rfl⟩)

set_option maxRecDepth 20000 in
set_option maxHeartbeats 1000000 in
theorem c_X8_isCustomer (l : Launch) (G : mG) (hG : mInj G) (M : Mem) (g : Glo) (x y : Int32) : mcI l G yX8_isCustomer cX8_isCustomer 2 .boolean 2 [.int x, .int y] M g (fun r M' g' => yn r (inW x 0 500 ∧ inW y 0 1200) ∧ M' = M ∧ g' = g) := by
  refine mcI_of (L0 := [(0, .int x), (1, .int y)]) hG (by decide) (Nat.le_of_ble_eq_true rfl) rfl ?_
  intro p e s m args below meth c Q C hend
  refine r_iload_n C dX8_isCustomer_0 0 rfl ?_
  refine r_iconst (v := 0) C dX8_isCustomer_1 rfl ?_
  refine r_sipush (v := 500) C dX8_isCustomer_2 rfl ?_
  refine r_callSI (As := [.int x, .int 0, .int 500]) (rest := []) C dX8_isCustomer_5 s_X8_83 (c_X8_in l G hG M g x 0 500) (by decide) rfl rfl (Nat.le_of_ble_eq_true rfl) (Nat.le_of_ble_eq_true rfl) (Nat.le_of_ble_eq_true rfl) (fun r5 M5 g5 hp5 => ?_)
  obtain ⟨hy5, eM5, eg5⟩ := hp5
  rw [eg5]
  rw [eM5]
  refine r_if_eq (tgt := 26) C dX8_isCustomer_8 (by decide) (fun c8 => ?_) (fun c8 => ?_)
  ·
    refine r_iconst (v := 0) C dX8_isCustomer_26 rfl ?_
    exact hend _ _ _ _ _ dX8_isCustomer_27 (rfl) (⟨Or.inr ⟨rfl, fun z => hy5.f c8 z.1⟩, rfl, rfl⟩)
  ·
    refine r_iload_n C dX8_isCustomer_11 1 rfl ?_
    refine r_iconst (v := 0) C dX8_isCustomer_12 rfl ?_
    refine r_sipush (v := 1200) C dX8_isCustomer_13 rfl ?_
    refine r_callSI (As := [.int y, .int 0, .int 1200]) (rest := []) C dX8_isCustomer_16 s_X8_83 (c_X8_in l G hG M g y 0 1200) (by decide) rfl rfl (Nat.le_of_ble_eq_true rfl) (Nat.le_of_ble_eq_true rfl) (Nat.le_of_ble_eq_true rfl) (fun r16 M16 g16 hp16 => ?_)
    obtain ⟨hy16, eM16, eg16⟩ := hp16
    rw [eg16]
    rw [eM16]
    refine r_if_eq (tgt := 26) C dX8_isCustomer_19 (by decide) (fun c19 => ?_) (fun c19 => ?_)
    ·
      refine r_iconst (v := 0) C dX8_isCustomer_26 rfl ?_
      exact hend _ _ _ _ _ dX8_isCustomer_27 (rfl) (⟨Or.inr ⟨rfl, fun z => hy16.f c19 z.2⟩, rfl, rfl⟩)
    ·
      refine r_iconst (v := 1) C dX8_isCustomer_22 rfl ?_
      refine r_goto (tgt := 27) C dX8_isCustomer_23 (by decide) ?_
      exact hend _ _ _ _ _ dX8_isCustomer_27 (rfl) (⟨Or.inl ⟨rfl, ⟨hy5.t c8, hy16.t c19⟩⟩, rfl, rfl⟩)

set_option maxRecDepth 20000 in
set_option maxHeartbeats 1000000 in
theorem c_X8_accounts (l : Launch) (G : mG) (hG : mInj G) (M : Mem) (g : Glo) (V : View) (hW : wfV V) (hV : rV (M 108) V) : mcI l G yX8_accounts cX8_accounts 3 .int 2 [.ref (mA G 107)] M g (fun r M' g' => r = sumP (vD V 7) (vN V) ∧ M' = M ∧ g' = g) := by
  refine mcI_of (L0 := [(0, .ref (mA G 107))]) hG (by decide) (Nat.le_of_ble_eq_true rfl) rfl ?_
  intro p e s m args below meth c Q C hend
  have hT := hW.1
  obtain ⟨hn1, hn16, hb4, ⟨hd0, hd3, hd5, hd6⟩, hpar⟩ := id hT
  refine r_iconst (v := 0) C dX8_accounts_0 rfl ?_
  refine r_istore_n (L' := [(1, .int 0), (0, .ref (mA G 107))]) C dX8_accounts_1 (by decide) rfl ?_
  refine r_iconst (v := nI 1) C dX8_accounts_2 rfl ?_
  refine r_istore_n (L' := [(2, .int (nI 1)), (1, .int 0), (0, .ref (mA G 107))]) C dX8_accounts_3 (by decide) rfl ?_
  have lp4 : ∀ (fu : Nat) (k : Nat) (a : Int32), (0 < k) → (k ≤ vN V) → (a = sumP (vD V 7) k) → (vN V - k) < fu → At p l e (rmD 2 0 0) s m args below meth c G 3 0 0 Q M g [(2, .int (nI k)), (1, .int a), (0, .ref (mA G 107))] 4 [] := by
    intro fu
    induction fu with
    | zero => intro k a hk0 hkn ha hfu; exact absurd hfu (Nat.not_lt_zero _)
    | succ fu ih4 =>
      intro k a hk0 hkn ha hfu4
      refine r_iload_n C dX8_accounts_4 0 rfl ?_
      refine r_aload_n C dX8_accounts_5 2 rfl ?_
      refine r_getr (q2 := 108) C dX8_accounts_6 0 f_X8_7 rfl rfl ?_
      refine r_iconst (v := 5) C dX8_accounts_9 rfl ?_
      refine r_ialdN (j := 5) (v := nI (vN V)) C dX8_accounts_10 rfl (rfl) (by omega) (by decide) (hV.1.1) ?_
      refine r_icmp_ge (tgt := 30) C dX8_accounts_11 (by decide) (fun c11 => ?_) (fun c11 => ?_)
      ·
        have hkn2 : k = vN V := by have := le_of_le (by omega) (by omega) c11; omega
        refine r_iload_n C dX8_accounts_30 1 rfl ?_
        exact hend _ _ _ _ _ dX8_accounts_31 (rfl) (⟨by rw [ha, hkn2], rfl, rfl⟩)
      ·
        have hlt : k < vN V := lt_of_nle (by omega) c11
        refine r_iload_n C dX8_accounts_14 1 rfl ?_
        refine r_aload_n C dX8_accounts_15 2 rfl ?_
        refine r_iload_n C dX8_accounts_16 0 rfl ?_
        refine r_bipush (v := 7) C dX8_accounts_17 rfl ?_
        refine r_callVI (As := [.int (nI k), .int 7]) (rest := [.int a]) C dX8_accounts_19 s_X8_48 (c_X8_of l G hG M g V hW hV k hlt 7 (by decide)) (by decide) rfl rfl rfl rfl (Nat.le_of_ble_eq_true rfl) (Nat.le_of_ble_eq_true rfl) (Nat.le_of_ble_eq_true rfl) (pk_I ?_)
        refine r_iadd C dX8_accounts_22 ?_
        refine r_istore_n (L' := [(1, .int (a + (vD V 7 k))), (2, .int (nI k)), (0, .ref (mA G 107))]) C dX8_accounts_23 (by decide) rfl ?_
        refine r_iinc (v := nI (k + 1)) (L' := [(2, .int (nI (k + 1))), (1, .int (a + (vD V 7 k))), (0, .ref (mA G 107))]) C dX8_accounts_24 1 rfl (nI_inc _) (by decide) rfl ?_
        refine r_goto (tgt := 4) C dX8_accounts_27 (by decide) ?_
        refine r_sub (L' := [(2, .int (nI (k + 1))), (1, .int (a + (vD V 7 k))), (0, .ref (mA G 107))]) [0, 1, 2] rfl ?_
        exact ih4 (k + 1) _ (by omega) (by omega) (by rw [ha, sumP_s _ hk0]) (by omega)
  refine r_sub (L' := [(2, .int (nI 1)), (1, .int 0), (0, .ref (mA G 107))]) [0, 1, 2] rfl ?_
  exact lp4 _ 1 0 (by omega) hn1 (sumP_1 _).symm (Nat.lt_succ_self _)

set_option maxRecDepth 20000 in
set_option maxHeartbeats 1000000 in
theorem c_X8_meters (l : Launch) (G : mG) (hG : mInj G) (M : Mem) (g : Glo) (V : View) (hW : wfV V) (hV : rV (M 108) V) : mcI l G yX8_meters cX8_meters 3 .int 2 [.ref (mA G 107)] M g (fun r M' g' => r = sumP (vD V 6) (vN V) ∧ M' = M ∧ g' = g) := by
  refine mcI_of (L0 := [(0, .ref (mA G 107))]) hG (by decide) (Nat.le_of_ble_eq_true rfl) rfl ?_
  intro p e s m args below meth c Q C hend
  have hT := hW.1
  obtain ⟨hn1, hn16, hb4, ⟨hd0, hd3, hd5, hd6⟩, hpar⟩ := id hT
  refine r_iconst (v := 0) C dX8_meters_0 rfl ?_
  refine r_istore_n (L' := [(1, .int 0), (0, .ref (mA G 107))]) C dX8_meters_1 (by decide) rfl ?_
  refine r_iconst (v := nI 1) C dX8_meters_2 rfl ?_
  refine r_istore_n (L' := [(2, .int (nI 1)), (1, .int 0), (0, .ref (mA G 107))]) C dX8_meters_3 (by decide) rfl ?_
  have lp4 : ∀ (fu : Nat) (k : Nat) (a : Int32), (0 < k) → (k ≤ vN V) → (a = sumP (vD V 6) k) → (vN V - k) < fu → At p l e (rmD 2 0 0) s m args below meth c G 3 0 0 Q M g [(2, .int (nI k)), (1, .int a), (0, .ref (mA G 107))] 4 [] := by
    intro fu
    induction fu with
    | zero => intro k a hk0 hkn ha hfu; exact absurd hfu (Nat.not_lt_zero _)
    | succ fu ih4 =>
      intro k a hk0 hkn ha hfu4
      refine r_iload_n C dX8_meters_4 0 rfl ?_
      refine r_aload_n C dX8_meters_5 2 rfl ?_
      refine r_getr (q2 := 108) C dX8_meters_6 0 f_X8_7 rfl rfl ?_
      refine r_iconst (v := 5) C dX8_meters_9 rfl ?_
      refine r_ialdN (j := 5) (v := nI (vN V)) C dX8_meters_10 rfl (rfl) (by omega) (by decide) (hV.1.1) ?_
      refine r_icmp_ge (tgt := 30) C dX8_meters_11 (by decide) (fun c11 => ?_) (fun c11 => ?_)
      ·
        have hkn2 : k = vN V := by have := le_of_le (by omega) (by omega) c11; omega
        refine r_iload_n C dX8_meters_30 1 rfl ?_
        exact hend _ _ _ _ _ dX8_meters_31 (rfl) (⟨by rw [ha, hkn2], rfl, rfl⟩)
      ·
        have hlt : k < vN V := lt_of_nle (by omega) c11
        refine r_iload_n C dX8_meters_14 1 rfl ?_
        refine r_aload_n C dX8_meters_15 2 rfl ?_
        refine r_iload_n C dX8_meters_16 0 rfl ?_
        refine r_bipush (v := 6) C dX8_meters_17 rfl ?_
        refine r_callVI (As := [.int (nI k), .int 6]) (rest := [.int a]) C dX8_meters_19 s_X8_48 (c_X8_of l G hG M g V hW hV k hlt 6 (by decide)) (by decide) rfl rfl rfl rfl (Nat.le_of_ble_eq_true rfl) (Nat.le_of_ble_eq_true rfl) (Nat.le_of_ble_eq_true rfl) (pk_I ?_)
        refine r_iadd C dX8_meters_22 ?_
        refine r_istore_n (L' := [(1, .int (a + (vD V 6 k))), (2, .int (nI k)), (0, .ref (mA G 107))]) C dX8_meters_23 (by decide) rfl ?_
        refine r_iinc (v := nI (k + 1)) (L' := [(2, .int (nI (k + 1))), (1, .int (a + (vD V 6 k))), (0, .ref (mA G 107))]) C dX8_meters_24 1 rfl (nI_inc _) (by decide) rfl ?_
        refine r_goto (tgt := 4) C dX8_meters_27 (by decide) ?_
        refine r_sub (L' := [(2, .int (nI (k + 1))), (1, .int (a + (vD V 6 k))), (0, .ref (mA G 107))]) [0, 1, 2] rfl ?_
        exact ih4 (k + 1) _ (by omega) (by omega) (by rw [ha, sumP_s _ hk0]) (by omega)
  refine r_sub (L' := [(2, .int (nI 1)), (1, .int 0), (0, .ref (mA G 107))]) [0, 1, 2] rfl ?_
  exact lp4 _ 1 0 (by omega) hn1 (sumP_1 _).symm (Nat.lt_succ_self _)
