set_option maxRecDepth 20000 in
set_option maxHeartbeats 1000000 in
theorem c_X3_hasParent (l : Launch) (G : mG) (hG : mInj G) (M : Mem) (g : Glo) (V : View) (hT : wfT V) (hV : cNet M 2 V) (j : Nat) (h0 : 0 < j) (hj : j < vN V) : mcI l G yX3_hasParent cX3_hasParent 2 .boolean 1 [.ref (mA G 2), .int (nI j)] M g (fun r M' g' => r = 1 ∧ M' = M ∧ g' = g) := by
  refine mcI_of (L0 := [(0, .ref (mA G 2)), (1, .int (nI j))]) hG (by decide) (Nat.le_of_ble_eq_true rfl) rfl ?_
  intro p e s m args below meth c Q C hend
  obtain ⟨hn1, hn16, hb4, hd0, hpar⟩ := hT
  obtain ⟨hp1, hp2⟩ := hpar j h0 hj
  have hr : M 3 j = nI (vP V j) := (hV.at 0 (by decide) hj).trans hp1
  refine r_aload_n C dX3_hasParent_0 0 rfl ?_
  refine r_getr (q2 := 3) C dX3_hasParent_1 0 f_X3_9 rfl rfl ?_
  refine r_iload_n C dX3_hasParent_4 1 rfl ?_
  refine r_ialdN (j := j) (v := nI (vP V j)) C dX3_hasParent_5 rfl (rfl) (by omega) (by decide) (hr) ?_
  refine r_if_lt (tgt := 23) C dX3_hasParent_6 (by decide) (fun h => absurd h (nI_pos (by omega))) (fun _ => ?_)
  refine r_aload_n C dX3_hasParent_9 0 rfl ?_
  refine r_getr (q2 := 3) C dX3_hasParent_10 0 f_X3_9 rfl rfl ?_
  refine r_iload_n C dX3_hasParent_13 1 rfl ?_
  refine r_ialdN (j := j) (v := nI (vP V j)) C dX3_hasParent_14 rfl (rfl) (by omega) (by decide) (hr) ?_
  refine r_iload_n C dX3_hasParent_15 1 rfl ?_
  refine r_icmp_ge (tgt := 23) C dX3_hasParent_16 (by decide) (fun h => absurd h (nI_ge hp2 (by omega))) (fun _ => ?_)
  refine r_iconst (v := 1) C dX3_hasParent_19 rfl ?_
  refine r_goto (tgt := 24) C dX3_hasParent_20 (by decide) ?_
  exact hend _ _ _ _ _ dX3_hasParent_24 (rfl) (⟨rfl, rfl, rfl⟩)

set_option maxRecDepth 20000 in
set_option maxHeartbeats 1000000 in
theorem c_X3_childrenOf (l : Launch) (G : mG) (hG : mInj G) (M : Mem) (g : Glo) (V : View) (hT : wfT V) (hV : cNet M 2 V) (j : Nat) (hj : j < vN V) : mcI l G yX3_childrenOf cX3_childrenOf 4 .int 1 [.ref (mA G 2), .int (nI j)] M g (fun r M' g' => r = sumP (fun k => b2i (decide (vD V 0 k = nI j))) (vN V) ∧ M' = M ∧ g' = g) := by
  refine mcI_of (L0 := [(0, .ref (mA G 2)), (1, .int (nI j))]) hG (by decide) (Nat.le_of_ble_eq_true rfl) rfl ?_
  intro p e s m args below meth c Q C hend
  obtain ⟨hn1, hn16, hb4, hd0, hpar⟩ := hT
  have hlow : ∀ k, 0 < k → k < vN V → k ≤ j → b2i (decide (vD V 0 k = nI j)) = 0 := by
    intro k h1 h2 h3
    obtain ⟨a1, a2⟩ := hpar k h1 h2
    have : ¬ vD V 0 k = nI j := by rw [a1, nI_eq (by omega) (by omega)]; omega
    simp [b2i, this]
  have hz : ∀ k, k ≤ j + 1 → sumP (fun k => b2i (decide (vD V 0 k = nI j))) k = 0 := by
    intro k
    induction k with
    | zero => intro _; rfl
    | succ k ih =>
      intro hk
      rcases Nat.eq_zero_or_pos k with rfl | h0
      · exact sumP_1 _
      · rw [sumP_s _ h0, ih (by omega), hlow k h0 (by omega) (by omega)]; rfl
  refine r_iconst (v := 0) C dX3_childrenOf_0 rfl ?_
  refine r_istore_n (L' := [(2, .int 0), (0, .ref (mA G 2)), (1, .int (nI j))]) C dX3_childrenOf_1 (by decide) rfl ?_
  refine r_iload_n C dX3_childrenOf_2 2 rfl ?_
  refine r_iconst (v := 1) C dX3_childrenOf_3 rfl ?_
  refine r_iadd C dX3_childrenOf_4 ?_
  refine r_valI (y := nI (j + 1)) (nI_1 j) ?_
  refine r_istore_n (L' := [(3, .int (nI (j + 1))), (2, .int 0), (0, .ref (mA G 2)), (1, .int (nI j))]) C dX3_childrenOf_5 (by decide) rfl ?_
  have lp6 : ∀ (fu : Nat) (k : Nat) (a : Int32), (0 < k) → (k ≤ vN V) → (a = sumP (fun k => b2i (decide (vD V 0 k = nI j))) k) → (vN V - k) < fu → At p l e (rmD 1 0 0) s m args below meth c G 4 0 0 Q M g [(3, .int (nI k)), (2, .int a), (0, .ref (mA G 2)), (1, .int (nI j))] 6 [] := by
    intro fu
    induction fu with
    | zero => intro k a hk0 hkn ha hfu; exact absurd hfu (Nat.not_lt_zero _)
    | succ fu ih6 =>
      intro k a hk0 hkn ha hfu6
      refine r_iload_n C dX3_childrenOf_6 0 rfl ?_
      refine r_aload_n C dX3_childrenOf_7 2 rfl ?_
      refine r_geti C dX3_childrenOf_8 8 f_X3_36 rfl rfl ?_
      refine r_valI (y := nI (vN V)) (hV.1) ?_
      refine r_icmp_ge (tgt := 33) C dX3_childrenOf_11 (by decide) (fun c11 => ?_) (fun c11 => ?_)
      ·
        have hkn2 : k = vN V := by have := (nI_leI (by omega) (by omega)).mp c11; omega
        refine r_iload_n C dX3_childrenOf_33 1 rfl ?_
        exact hend _ _ _ _ _ dX3_childrenOf_34 (rfl) (⟨by rw [ha, hkn2], rfl, rfl⟩)
      ·
        have hlt : k < vN V := by rcases Nat.lt_or_ge k (vN V) with q | q; exact q; exact absurd (nI_le q (by omega)) c11
        refine r_aload_n C dX3_childrenOf_14 2 rfl ?_
        refine r_getr (q2 := 3) C dX3_childrenOf_15 0 f_X3_9 rfl rfl ?_
        refine r_iload_n C dX3_childrenOf_18 0 rfl ?_
        refine r_ialdN (j := k) (v := vD V 0 k) C dX3_childrenOf_19 rfl (rfl) (by omega) (by decide) (hV.at 0 (by decide) hlt) ?_
        refine r_iload_n C dX3_childrenOf_20 3 rfl ?_
        refine r_icmp_ne (tgt := 27) C dX3_childrenOf_21 (by decide) (fun c21 => ?_) (fun c21 => ?_)
        ·
          refine r_iinc (v := nI (k + 1)) (L' := [(3, .int (nI (k + 1))), (2, .int a), (0, .ref (mA G 2)), (1, .int (nI j))]) C dX3_childrenOf_27 0 rfl (nI_inc _) (by decide) rfl ?_
          refine r_goto (tgt := 6) C dX3_childrenOf_30 (by decide) ?_
          refine r_sub (L' := [(3, .int (nI (k + 1))), (2, .int a), (0, .ref (mA G 2)), (1, .int (nI j))]) [0, 1, 2, 3] rfl ?_
          exact ih6 (k + 1) a (by omega) (by omega) (by rw [ha, sumP_s _ hk0]; simp only [c21, b2i, decide_false]; simp) (by omega)
        ·
          refine r_iinc (v := a + 1) (L' := [(2, .int (a + 1)), (3, .int (nI k)), (0, .ref (mA G 2)), (1, .int (nI j))]) C dX3_childrenOf_24 1 rfl (rfl) (by decide) rfl ?_
          refine r_iinc (v := nI (k + 1)) (L' := [(3, .int (nI (k + 1))), (2, .int (a + 1)), (0, .ref (mA G 2)), (1, .int (nI j))]) C dX3_childrenOf_27 1 rfl (nI_inc _) (by decide) rfl ?_
          refine r_goto (tgt := 6) C dX3_childrenOf_30 (by decide) ?_
          refine r_sub (L' := [(3, .int (nI (k + 1))), (2, .int (a + 1)), (0, .ref (mA G 2)), (1, .int (nI j))]) [0, 1, 2, 3] rfl ?_
          exact ih6 (k + 1) (a + 1) (by omega) (by omega) (by rw [ha, sumP_s _ hk0]; simp only [c21, b2i, decide_true, if_true]) (by omega)
  refine r_sub (L' := [(3, .int (nI (j + 1))), (2, .int 0), (0, .ref (mA G 2)), (1, .int (nI j))]) [0, 1, 2, 3] rfl ?_
  exact lp6 _ (j + 1) 0 (by omega) (by omega) (hz _ (Nat.le_refl _)).symm (Nat.lt_succ_self _)

set_option maxRecDepth 20000 in
set_option maxHeartbeats 1000000 in
theorem c_X3_meters (l : Launch) (G : mG) (hG : mInj G) (M : Mem) (g : Glo) (V : View) (hT : wfT V) (hV : cNet M 2 V) : mcI l G yX3_meters cX3_meters 3 .int 1 [.ref (mA G 2)] M g (fun r M' g' => r = sumP (vD V 6) (vN V) ∧ M' = M ∧ g' = g) := by
  refine mcI_of (L0 := [(0, .ref (mA G 2))]) hG (by decide) (Nat.le_of_ble_eq_true rfl) rfl ?_
  intro p e s m args below meth c Q C hend
  obtain ⟨hn1, hn16, hb4, hd0, hpar⟩ := hT
  refine r_iconst (v := 0) C dX3_meters_0 rfl ?_
  refine r_istore_n (L' := [(1, .int 0), (0, .ref (mA G 2))]) C dX3_meters_1 (by decide) rfl ?_
  refine r_iconst (v := nI 1) C dX3_meters_2 rfl ?_
  refine r_istore_n (L' := [(2, .int (nI 1)), (1, .int 0), (0, .ref (mA G 2))]) C dX3_meters_3 (by decide) rfl ?_
  have lp4 : ∀ (fu : Nat) (k : Nat) (a : Int32), (0 < k) → (k ≤ vN V) → (a = sumP (vD V 6) k) → (vN V - k) < fu → At p l e (rmD 1 0 0) s m args below meth c G 3 0 0 Q M g [(2, .int (nI k)), (1, .int a), (0, .ref (mA G 2))] 4 [] := by
    intro fu
    induction fu with
    | zero => intro k a hk0 hkn ha hfu; exact absurd hfu (Nat.not_lt_zero _)
    | succ fu ih4 =>
      intro k a hk0 hkn ha hfu4
      refine r_iload_n C dX3_meters_4 0 rfl ?_
      refine r_aload_n C dX3_meters_5 2 rfl ?_
      refine r_geti C dX3_meters_6 8 f_X3_36 rfl rfl ?_
      refine r_valI (y := nI (vN V)) (hV.1) ?_
      refine r_icmp_ge (tgt := 27) C dX3_meters_9 (by decide) (fun c9 => ?_) (fun c9 => ?_)
      ·
        have hkn2 : k = vN V := by have := (nI_leI (by omega) (by omega)).mp c9; omega
        refine r_iload_n C dX3_meters_27 1 rfl ?_
        exact hend _ _ _ _ _ dX3_meters_28 (rfl) (⟨by rw [ha, hkn2], rfl, rfl⟩)
      ·
        have hlt : k < vN V := by rcases Nat.lt_or_ge k (vN V) with q | q; exact q; exact absurd (nI_le q (by omega)) c9
        refine r_iload_n C dX3_meters_12 1 rfl ?_
        refine r_aload_n C dX3_meters_13 2 rfl ?_
        refine r_getr (q2 := 9) C dX3_meters_14 6 f_X3_30 rfl rfl ?_
        refine r_iload_n C dX3_meters_17 0 rfl ?_
        refine r_ialdN (j := k) (v := vD V 6 k) C dX3_meters_18 rfl (rfl) (by omega) (by decide) (hV.at 6 (by decide) hlt) ?_
        refine r_iadd C dX3_meters_19 ?_
        refine r_istore_n (L' := [(1, .int (a + (vD V 6 k))), (2, .int (nI k)), (0, .ref (mA G 2))]) C dX3_meters_20 (by decide) rfl ?_
        refine r_iinc (v := nI (k + 1)) (L' := [(2, .int (nI (k + 1))), (1, .int (a + (vD V 6 k))), (0, .ref (mA G 2))]) C dX3_meters_21 1 rfl (nI_inc _) (by decide) rfl ?_
        refine r_goto (tgt := 4) C dX3_meters_24 (by decide) ?_
        refine r_sub (L' := [(2, .int (nI (k + 1))), (1, .int (a + (vD V 6 k))), (0, .ref (mA G 2))]) [0, 1, 2] rfl ?_
        exact ih4 (k + 1) (a + vD V 6 k) (by omega) (by omega) (by rw [ha, sumP_s _ hk0]) (by omega)
  refine r_sub (L' := [(2, .int (nI 1)), (1, .int 0), (0, .ref (mA G 2))]) [0, 1, 2] rfl ?_
  exact lp4 _ 1 0 (by omega) (by omega) (sumP_1 _).symm (Nat.lt_succ_self _)

set_option maxRecDepth 20000 in
set_option maxHeartbeats 1000000 in
theorem c_X3_accounts (l : Launch) (G : mG) (hG : mInj G) (M : Mem) (g : Glo) (V : View) (hT : wfT V) (hV : cNet M 2 V) : mcI l G yX3_accounts cX3_accounts 3 .int 1 [.ref (mA G 2)] M g (fun r M' g' => r = sumP (vD V 7) (vN V) ∧ M' = M ∧ g' = g) := by
  refine mcI_of (L0 := [(0, .ref (mA G 2))]) hG (by decide) (Nat.le_of_ble_eq_true rfl) rfl ?_
  intro p e s m args below meth c Q C hend
  obtain ⟨hn1, hn16, hb4, hd0, hpar⟩ := hT
  refine r_iconst (v := 0) C dX3_accounts_0 rfl ?_
  refine r_istore_n (L' := [(1, .int 0), (0, .ref (mA G 2))]) C dX3_accounts_1 (by decide) rfl ?_
  refine r_iconst (v := nI 1) C dX3_accounts_2 rfl ?_
  refine r_istore_n (L' := [(2, .int (nI 1)), (1, .int 0), (0, .ref (mA G 2))]) C dX3_accounts_3 (by decide) rfl ?_
  have lp4 : ∀ (fu : Nat) (k : Nat) (a : Int32), (0 < k) → (k ≤ vN V) → (a = sumP (vD V 7) k) → (vN V - k) < fu → At p l e (rmD 1 0 0) s m args below meth c G 3 0 0 Q M g [(2, .int (nI k)), (1, .int a), (0, .ref (mA G 2))] 4 [] := by
    intro fu
    induction fu with
    | zero => intro k a hk0 hkn ha hfu; exact absurd hfu (Nat.not_lt_zero _)
    | succ fu ih4 =>
      intro k a hk0 hkn ha hfu4
      refine r_iload_n C dX3_accounts_4 0 rfl ?_
      refine r_aload_n C dX3_accounts_5 2 rfl ?_
      refine r_geti C dX3_accounts_6 8 f_X3_36 rfl rfl ?_
      refine r_valI (y := nI (vN V)) (hV.1) ?_
      refine r_icmp_ge (tgt := 27) C dX3_accounts_9 (by decide) (fun c9 => ?_) (fun c9 => ?_)
      ·
        have hkn2 : k = vN V := by have := (nI_leI (by omega) (by omega)).mp c9; omega
        refine r_iload_n C dX3_accounts_27 1 rfl ?_
        exact hend _ _ _ _ _ dX3_accounts_28 (rfl) (⟨by rw [ha, hkn2], rfl, rfl⟩)
      ·
        have hlt : k < vN V := by rcases Nat.lt_or_ge k (vN V) with q | q; exact q; exact absurd (nI_le q (by omega)) c9
        refine r_iload_n C dX3_accounts_12 1 rfl ?_
        refine r_aload_n C dX3_accounts_13 2 rfl ?_
        refine r_getr (q2 := 10) C dX3_accounts_14 7 f_X3_33 rfl rfl ?_
        refine r_iload_n C dX3_accounts_17 0 rfl ?_
        refine r_ialdN (j := k) (v := vD V 7 k) C dX3_accounts_18 rfl (rfl) (by omega) (by decide) (hV.at 7 (by decide) hlt) ?_
        refine r_iadd C dX3_accounts_19 ?_
        refine r_istore_n (L' := [(1, .int (a + (vD V 7 k))), (2, .int (nI k)), (0, .ref (mA G 2))]) C dX3_accounts_20 (by decide) rfl ?_
        refine r_iinc (v := nI (k + 1)) (L' := [(2, .int (nI (k + 1))), (1, .int (a + (vD V 7 k))), (0, .ref (mA G 2))]) C dX3_accounts_21 1 rfl (nI_inc _) (by decide) rfl ?_
        refine r_goto (tgt := 4) C dX3_accounts_24 (by decide) ?_
        refine r_sub (L' := [(2, .int (nI (k + 1))), (1, .int (a + (vD V 7 k))), (0, .ref (mA G 2))]) [0, 1, 2] rfl ?_
        exact ih4 (k + 1) (a + vD V 7 k) (by omega) (by omega) (by rw [ha, sumP_s _ hk0]) (by omega)
  refine r_sub (L' := [(2, .int (nI 1)), (1, .int 0), (0, .ref (mA G 2))]) [0, 1, 2] rfl ?_
  exact lp4 _ 1 0 (by omega) (by omega) (sumP_1 _).symm (Nat.lt_succ_self _)

