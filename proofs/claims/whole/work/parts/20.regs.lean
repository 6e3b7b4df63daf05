set_option maxRecDepth 20000 in
set_option maxHeartbeats 1000000 in
theorem c_X5_hasMeter (l : Launch) (G : mG) (hG : mInj G) (M : Mem) (g : Glo) (Z : Nat) (hZ : isRegs Z) (hZ9 : 70 < Z) (j : Nat) (hj : j < 16) : mcI l G yX5_hasMeter cX5_hasMeter 2 .boolean 1 [.ref (mA G Z), .int (nI j)] M g (fun r M' g' => r = b2i (decide (j = 0 ∨ ¬ M (Z + 1) j = 0)) ∧ M' = M ∧ g' = g) := by
  refine mcI_of (L0 := [(0, .ref (mA G Z)), (1, .int (nI j))]) hG (by decide) (Nat.le_of_ble_eq_true rfl) rfl ?_
  intro p e s m args below meth c Q C hend
  refine r_iload_n C dX5_hasMeter_0 1 rfl ?_
  refine r_if_eq (tgt := 13) C dX5_hasMeter_1 (by decide) (fun c1 => ?_) (fun c1 => ?_)
  ·
    refine r_iconst (v := 1) C dX5_hasMeter_13 rfl ?_
    refine r_goto (tgt := 18) C dX5_hasMeter_14 (by decide) ?_
    exact hend _ _ _ _ _ dX5_hasMeter_18 (rfl) (⟨by have : j = 0 := (nI_eq (b := 0) (by omega) (by omega)).mp c1; simp [b2i, this], rfl, rfl⟩)
  ·
    refine r_aload_n C dX5_hasMeter_4 0 rfl ?_
    refine r_getr (q2 := (Z + 1)) C dX5_hasMeter_5 0 f_X5_9 (hZ.1) rfl ?_
    refine r_iload_n C dX5_hasMeter_8 1 rfl ?_
    refine r_ialdN (j := j) (v := M (Z + 1) j) C dX5_hasMeter_9 ((hZ).2.1) (rfl) (by omega) (by decide) (rfl) ?_
    refine r_if_eq (tgt := 17) C dX5_hasMeter_10 (by decide) (fun c10 => ?_) (fun c10 => ?_)
    ·
      refine r_iconst (v := 0) C dX5_hasMeter_17 rfl ?_
      exact hend _ _ _ _ _ dX5_hasMeter_18 (rfl) (⟨by have h9 : ¬ j = 0 := fun h => c1 (by rw [h]; rfl); simp [b2i, h9, c10], rfl, rfl⟩)
    ·
      refine r_iconst (v := 1) C dX5_hasMeter_13 rfl ?_
      refine r_goto (tgt := 18) C dX5_hasMeter_14 (by decide) ?_
      exact hend _ _ _ _ _ dX5_hasMeter_18 (rfl) (⟨by have h9 : ¬ j = 0 := fun h => c1 (by rw [h]; rfl); simp [b2i, h9, c10], rfl, rfl⟩)

set_option maxRecDepth 20000 in
set_option maxHeartbeats 1000000 in
theorem c_X5_balanceAt (l : Launch) (G : mG) (hG : mInj G) (M : Mem) (g : Glo) (Z : Nat) (hZ : isRegs Z) (hZ9 : 70 < Z) (j : Nat) (hj : j < 16) : mcI l G yX5_balanceAt cX5_balanceAt 2 .int 2 [.ref (mA G Z), .int (nI j)] M g (fun r M' g' => r = balF (M (Z + 1)) (M (Z + 5)) j ∧ M' = M ∧ g' = g) := by
  refine mcI_of (L0 := [(0, .ref (mA G Z)), (1, .int (nI j))]) hG (by decide) (Nat.le_of_ble_eq_true rfl) rfl ?_
  intro p e s m args below meth c Q C hend
  refine r_aload_n C dX5_balanceAt_0 0 rfl ?_
  refine r_iload_n C dX5_balanceAt_1 1 rfl ?_
  refine r_callVI (As := [.int (nI j)]) (rest := []) C dX5_balanceAt_2 s_X5_42 (c_X5_hasMeter l G hG M g Z hZ hZ9 j hj) (by decide) (hZ.1) rfl rfl rfl (Nat.le_of_ble_eq_true rfl) (Nat.le_of_ble_eq_true rfl) (Nat.le_of_ble_eq_true rfl) (pk_I ?_)
  refine r_if_eq (tgt := 17) C dX5_balanceAt_5 (by decide) (fun c5 => ?_) (fun c5 => ?_)
  ·
    refine r_iconst (v := (-1)) C dX5_balanceAt_17 rfl ?_
    exact hend _ _ _ _ _ dX5_balanceAt_18 (rfl) (⟨(if_neg (of_decide_eq_false (b2i_0.mp c5))).symm, rfl, rfl⟩)
  ·
    refine r_aload_n C dX5_balanceAt_8 0 rfl ?_
    refine r_getr (q2 := (Z + 5)) C dX5_balanceAt_9 4 f_X5_24 (hZ.1) rfl ?_
    refine r_iload_n C dX5_balanceAt_12 1 rfl ?_
    refine r_ialdN (j := j) (v := M (Z + 5) j) C dX5_balanceAt_13 ((hZ).2.2.2.2.2) (rfl) (by omega) (by decide) (rfl) ?_
    refine r_goto (tgt := 18) C dX5_balanceAt_14 (by decide) ?_
    exact hend _ _ _ _ _ dX5_balanceAt_18 (rfl) (⟨(if_pos (of_decide_eq_true (b2i_1.mp c5))).symm, rfl, rfl⟩)

set_option maxRecDepth 20000 in
set_option maxHeartbeats 1000000 in
theorem c_X5_sizeAt (l : Launch) (G : mG) (hG : mInj G) (M : Mem) (g : Glo) (Z : Nat) (hZ : isRegs Z) (hZ9 : 70 < Z) (j : Nat) (hj : j < 16) : mcI l G yX5_sizeAt cX5_sizeAt 2 .int 2 [.ref (mA G Z), .int (nI j)] M g (fun r M' g' => r = balF (M (Z + 1)) (M (Z + 4)) j ∧ M' = M ∧ g' = g) := by
  refine mcI_of (L0 := [(0, .ref (mA G Z)), (1, .int (nI j))]) hG (by decide) (Nat.le_of_ble_eq_true rfl) rfl ?_
  intro p e s m args below meth c Q C hend
  refine r_aload_n C dX5_sizeAt_0 0 rfl ?_
  refine r_iload_n C dX5_sizeAt_1 1 rfl ?_
  refine r_callVI (As := [.int (nI j)]) (rest := []) C dX5_sizeAt_2 s_X5_42 (c_X5_hasMeter l G hG M g Z hZ hZ9 j hj) (by decide) (hZ.1) rfl rfl rfl (Nat.le_of_ble_eq_true rfl) (Nat.le_of_ble_eq_true rfl) (Nat.le_of_ble_eq_true rfl) (pk_I ?_)
  refine r_if_eq (tgt := 17) C dX5_sizeAt_5 (by decide) (fun c5 => ?_) (fun c5 => ?_)
  ·
    refine r_iconst (v := (-1)) C dX5_sizeAt_17 rfl ?_
    exact hend _ _ _ _ _ dX5_sizeAt_18 (rfl) (⟨(if_neg (of_decide_eq_false (b2i_0.mp c5))).symm, rfl, rfl⟩)
  ·
    refine r_aload_n C dX5_sizeAt_8 0 rfl ?_
    refine r_getr (q2 := (Z + 4)) C dX5_sizeAt_9 3 f_X5_21 (hZ.1) rfl ?_
    refine r_iload_n C dX5_sizeAt_12 1 rfl ?_
    refine r_ialdN (j := j) (v := M (Z + 4) j) C dX5_sizeAt_13 ((hZ).2.2.2.2.1) (rfl) (by omega) (by decide) (rfl) ?_
    refine r_goto (tgt := 18) C dX5_sizeAt_14 (by decide) ?_
    exact hend _ _ _ _ _ dX5_sizeAt_18 (rfl) (⟨(if_pos (of_decide_eq_true (b2i_1.mp c5))).symm, rfl, rfl⟩)

set_option maxRecDepth 20000 in
set_option maxHeartbeats 1000000 in
theorem c_X5_suspectCount (l : Launch) (G : mG) (hG : mInj G) (M : Mem) (g : Glo) (Z : Nat) (hZ : isRegs Z) (hZ9 : 70 < Z) (n : Nat) (hn : n ≤ 16) (hc : M Z 5 = nI n) : mcI l G yX5_suspectCount cX5_suspectCount 3 .int 3 [.ref (mA G Z)] M g (fun r M' g' => r = sumA (fun j => b2i (decide (0 < balF (M (Z + 1)) (M (Z + 5)) j))) n ∧ M' = M ∧ g' = g) := by
  refine mcI_of (L0 := [(0, .ref (mA G Z))]) hG (by decide) (Nat.le_of_ble_eq_true rfl) rfl ?_
  intro p e s m args below meth c Q C hend
  refine r_iconst (v := 0) C dX5_suspectCount_0 rfl ?_
  refine r_istore_n (L' := [(1, .int 0), (0, .ref (mA G Z))]) C dX5_suspectCount_1 (by decide) rfl ?_
  refine r_iconst (v := nI 0) C dX5_suspectCount_2 rfl ?_
  refine r_istore_n (L' := [(2, .int (nI 0)), (1, .int 0), (0, .ref (mA G Z))]) C dX5_suspectCount_3 (by decide) rfl ?_
  have lp4 : ∀ (fu : Nat) (k : Nat) (a : Int32), (k ≤ n) → (a = sumA (fun j => b2i (decide (0 < balF (M (Z + 1)) (M (Z + 5)) j))) k) → (n - k) < fu → At p l e (rmD 3 0 0) s m args below meth c G 3 0 0 Q M g [(2, .int (nI k)), (1, .int a), (0, .ref (mA G Z))] 4 [] := by
    intro fu
    induction fu with
    | zero => intro k a hkn ha hfu; exact absurd hfu (Nat.not_lt_zero _)
    | succ fu ih4 =>
      intro k a hkn ha hfu4
      refine r_iload_n C dX5_suspectCount_4 0 rfl ?_
      refine r_aload_n C dX5_suspectCount_5 2 rfl ?_
      refine r_geti C dX5_suspectCount_6 5 f_X5_27 (hZ.1) rfl ?_
      refine r_valI (y := nI n) (hc) ?_
      refine r_icmp_ge (tgt := 29) C dX5_suspectCount_9 (by decide) (fun c9 => ?_) (fun c9 => ?_)
      ·
        have hkn2 : k = n := by have := le_of_le (by omega) (by omega) c9; omega
        refine r_iload_n C dX5_suspectCount_29 1 rfl ?_
        exact hend _ _ _ _ _ dX5_suspectCount_30 (rfl) (⟨by rw [ha, hkn2], rfl, rfl⟩)
      ·
        have hlt : k < n := lt_of_nle (by omega) c9
        refine r_aload_n C dX5_suspectCount_12 2 rfl ?_
        refine r_iload_n C dX5_suspectCount_13 0 rfl ?_
        refine r_callVI (As := [.int (nI k)]) (rest := []) C dX5_suspectCount_14 s_X5_63 (c_X5_balanceAt l G hG M g Z hZ hZ9 k (by omega)) (by decide) (hZ.1) rfl rfl rfl (Nat.le_of_ble_eq_true rfl) (Nat.le_of_ble_eq_true rfl) (Nat.le_of_ble_eq_true rfl) (pk_I ?_)
        refine r_if_le (tgt := 23) C dX5_suspectCount_17 (by decide) (fun c17 => ?_) (fun c17 => ?_)
        ·
          refine r_iinc (v := nI (k + 1)) (L' := [(2, .int (nI (k + 1))), (1, .int a), (0, .ref (mA G Z))]) C dX5_suspectCount_23 0 rfl (nI_inc _) (by decide) rfl ?_
          refine r_goto (tgt := 4) C dX5_suspectCount_26 (by decide) ?_
          refine r_sub (L' := [(2, .int (nI (k + 1))), (1, .int a), (0, .ref (mA G Z))]) [0, 1, 2] rfl ?_
          exact ih4 (k + 1) a (by omega) (by rw [sumA, ← ha]; have h9 : ¬ 0 < balF (M (Z + 1)) (M (Z + 5)) k := i32_nlt.mpr c17; simp [b2i, h9]) (by omega)
        ·
          refine r_iinc (v := a + 1) (L' := [(1, .int (a + 1)), (2, .int (nI k)), (0, .ref (mA G Z))]) C dX5_suspectCount_20 1 rfl (rfl) (by decide) rfl ?_
          refine r_iinc (v := nI (k + 1)) (L' := [(2, .int (nI (k + 1))), (1, .int (a + 1)), (0, .ref (mA G Z))]) C dX5_suspectCount_23 1 rfl (nI_inc _) (by decide) rfl ?_
          refine r_goto (tgt := 4) C dX5_suspectCount_26 (by decide) ?_
          refine r_sub (L' := [(2, .int (nI (k + 1))), (1, .int (a + 1)), (0, .ref (mA G Z))]) [0, 1, 2] rfl ?_
          exact ih4 (k + 1) (a + 1) (by omega) (by rw [sumA, ← ha]; have h9 : 0 < balF (M (Z + 1)) (M (Z + 5)) k := i32_nle.mp c17; simp [b2i, h9]) (by omega)
  refine r_sub (L' := [(2, .int (nI 0)), (1, .int 0), (0, .ref (mA G Z))]) [0, 1, 2] rfl ?_
  exact lp4 _ 0 0 (by omega) rfl (Nat.lt_succ_self _)

theorem two_nI : (2 : Int32) = nI 2 := rfl
theorem nI_one : (1 : Int32) = nI 1 := rfl

set_option maxRecDepth 20000 in
set_option maxHeartbeats 1000000 in
theorem c_X5_nextPlace (l : Launch) (G : mG) (hG : mInj G) (M : Mem) (g : Glo) (Z : Nat) (hZ : isRegs Z) (hZ9 : 70 < Z) (n node : Nat) (hn1 : 1 ≤ n) (hn : n ≤ 16) (hnd : node < n) (hc : M Z 5 = nI n) (hd : Nat → Nat) (hh : ∀ k, k < n → M (Z + 2) k = nI (hd k) ∧ hd k ≤ k) : mcI l G yX5_nextPlace cX5_nextPlace 6 .int 3 [.ref (mA G Z), .int (nI node)] M g (fun r M' g' => r = nextR n hd (M (Z + 1)) (M (Z + 3)) (M (Z + 4)) (M (Z + 5)) node ∧ M' = M ∧ g' = g) := by
  refine mcI_of (L0 := [(0, .ref (mA G Z)), (1, .int (nI node))]) hG (by decide) (Nat.le_of_ble_eq_true rfl) rfl ?_
  intro p e s m args below meth c Q C hend
  refine r_aload_n C dX5_nextPlace_0 0 rfl ?_
  refine r_iload_n C dX5_nextPlace_1 1 rfl ?_
  refine r_callVI (As := [.int (nI node)]) (rest := []) C dX5_nextPlace_2 s_X5_63 (c_X5_balanceAt l G hG M g Z hZ hZ9 node (by omega)) (by decide) (hZ.1) rfl rfl rfl (Nat.le_of_ble_eq_true rfl) (Nat.le_of_ble_eq_true rfl) (Nat.le_of_ble_eq_true rfl) (pk_I ?_)
  refine r_if_le (tgt := 18) C dX5_nextPlace_5 (by decide) (fun c5 => ?_) (fun c5 => ?_)
  ·
    refine r_iconst (v := (-1)) C dX5_nextPlace_18 rfl ?_
    exact hend _ _ _ _ _ dX5_nextPlace_19 (rfl) (⟨(if_pos (Or.inl c5)).symm, rfl, rfl⟩)
  ·
    refine r_aload_n C dX5_nextPlace_8 0 rfl ?_
    refine r_getr (q2 := (Z + 4)) C dX5_nextPlace_9 3 f_X5_21 (hZ.1) rfl ?_
    refine r_iload_n C dX5_nextPlace_12 1 rfl ?_
    refine r_ialdN (j := node) (v := M (Z + 4) node) C dX5_nextPlace_13 ((hZ).2.2.2.2.1) (rfl) (by omega) (by decide) (rfl) ?_
    refine r_iconst (v := 1) C dX5_nextPlace_14 rfl ?_
    refine r_icmp_gt (tgt := 20) C dX5_nextPlace_15 (by decide) (fun c15 => ?_) (fun c15 => ?_)
    ·
      have h15 : ¬ M (Z + 4) node ≤ 1 := i32_nle.mpr c15
      refine r_iconst (v := (-1)) C dX5_nextPlace_20 rfl ?_
      refine r_istore_n (L' := [(2, .int (-1)), (0, .ref (mA G Z)), (1, .int (nI node))]) C dX5_nextPlace_21 (by decide) rfl ?_
      refine r_iconst (v := 0) C dX5_nextPlace_22 rfl ?_
      refine r_istore_n (L' := [(3, .int 0), (2, .int (-1)), (0, .ref (mA G Z)), (1, .int (nI node))]) C dX5_nextPlace_23 (by decide) rfl ?_
      refine r_iconst (v := nI 1) C dX5_nextPlace_24 rfl ?_
      refine r_istore (L' := [(4, .int (nI 1)), (3, .int 0), (2, .int (-1)), (0, .ref (mA G Z)), (1, .int (nI node))]) C dX5_nextPlace_25 (by decide) rfl ?_
      have lp27 : ∀ (fu : Nat) (k : Nat) (b lst : Int32), (0 < k) → (k ≤ n) → ((b, lst) = nxS hd (M (Z + 1)) (M (Z + 3)) (M (Z + 4)) node k) → (n - k) < fu → At p l e (rmD 3 0 0) s m args below meth c G 6 0 0 Q M g [(4, .int (nI k)), (2, .int b), (3, .int lst), (0, .ref (mA G Z)), (1, .int (nI node))] 27 [] := by
        intro fu
        induction fu with
        | zero => intro k b lst hk0 hkn hs hfu; exact absurd hfu (Nat.not_lt_zero _)
        | succ fu ih27 =>
          intro k b lst hk0 hkn hs hfu27
          refine r_iload C dX5_nextPlace_27 0 rfl ?_
          refine r_aload_n C dX5_nextPlace_29 3 rfl ?_
          refine r_geti C dX5_nextPlace_30 5 f_X5_27 (hZ.1) rfl ?_
          refine r_valI (y := nI n) (hc) ?_
          refine r_icmp_ge (tgt := 100) C dX5_nextPlace_33 (by decide) (fun c33 => ?_) (fun c33 => ?_)
          ·
            have hkn2 : k = n := by have := le_of_le (by omega) (by omega) c33; omega
            refine r_iload_n C dX5_nextPlace_100 1 rfl ?_
            exact hend _ _ _ _ _ dX5_nextPlace_101 (rfl) (⟨by unfold nextR; rw [if_neg (fun h => h.elim c5 h15), ← hkn2, ← hs], rfl, rfl⟩)
          ·
            have hlt : k < n := lt_of_nle (by omega) c33
            refine r_aload_n C dX5_nextPlace_36 3 rfl ?_
            refine r_getr (q2 := (Z + 2)) C dX5_nextPlace_37 1 f_X5_15 (hZ.1) rfl ?_
            refine r_iload C dX5_nextPlace_40 0 rfl ?_
            refine r_ialdN (j := k) (v := nI (hd k)) C dX5_nextPlace_42 ((hZ).2.2.1) (rfl) (by omega) (by decide) ((hh k hlt).1) ?_
            refine r_iload_n C dX5_nextPlace_43 4 rfl ?_
            refine r_icmp_ne (tgt := 94) C dX5_nextPlace_44 (by decide) (fun c44 => ?_) (fun c44 => ?_)
            ·
              refine r_iinc (v := nI (k + 1)) (L' := [(4, .int (nI (k + 1))), (2, .int b), (3, .int lst), (0, .ref (mA G Z)), (1, .int (nI node))]) C dX5_nextPlace_94 0 rfl (nI_inc _) (by decide) rfl ?_
              refine r_goto (tgt := 27) C dX5_nextPlace_97 (by decide) ?_
              refine r_sub (L' := [(4, .int (nI (k + 1))), (2, .int b), (3, .int lst), (0, .ref (mA G Z)), (1, .int (nI node))]) [0, 1, 2, 3, 4] rfl ?_
              exact ih27 (k + 1) b lst (by omega) (by omega) (by rw [hs]; rw [nxS, if_neg (by omega), if_neg (fun h => c44 (by rw [h.1]))]) (by omega)
            ·
              have he44 : hd k = node := (nI_eq (by have := (hh k hlt).2; omega) (by omega)).mp c44
              refine r_aload_n C dX5_nextPlace_47 3 rfl ?_
              refine r_iload C dX5_nextPlace_48 0 rfl ?_
              refine r_callVI (As := [.int (nI k)]) (rest := []) C dX5_nextPlace_50 s_X5_42 (c_X5_hasMeter l G hG M g Z hZ hZ9 k (by omega)) (by decide) (hZ.1) rfl rfl rfl (Nat.le_of_ble_eq_true rfl) (Nat.le_of_ble_eq_true rfl) (Nat.le_of_ble_eq_true rfl) (pk_I ?_)
              refine r_if_ne (tgt := 94) C dX5_nextPlace_53 (by decide) (fun c53 => ?_) (fun c53 => ?_)
              ·
                have hm53 : ¬ M (Z + 1) k = 0 := by exact (of_decide_eq_true (b2i_1.mp c53)).resolve_left (by omega)
                refine r_iinc (v := nI (k + 1)) (L' := [(4, .int (nI (k + 1))), (2, .int b), (3, .int lst), (0, .ref (mA G Z)), (1, .int (nI node))]) C dX5_nextPlace_94 0 rfl (nI_inc _) (by decide) rfl ?_
                refine r_goto (tgt := 27) C dX5_nextPlace_97 (by decide) ?_
                refine r_sub (L' := [(4, .int (nI (k + 1))), (2, .int b), (3, .int lst), (0, .ref (mA G Z)), (1, .int (nI node))]) [0, 1, 2, 3, 4] rfl ?_
                exact ih27 (k + 1) b lst (by omega) (by omega) (by rw [hs]; rw [nxS, if_neg (by omega), if_neg (fun h => hm53 h.2)]) (by omega)
              ·
                have hm53 : M (Z + 1) k = 0 := by have h9 := of_decide_eq_false (b2i_0.mp c53); exact Classical.byContradiction (fun z => h9 (Or.inr z))
                refine r_iconst (v := 2) C dX5_nextPlace_56 rfl ?_
                refine r_aload_n C dX5_nextPlace_57 3 rfl ?_
                refine r_getr (q2 := (Z + 3)) C dX5_nextPlace_58 2 f_X5_18 (hZ.1) rfl ?_
                refine r_iload C dX5_nextPlace_61 0 rfl ?_
                refine r_ialdN (j := k) (v := M (Z + 3) k) C dX5_nextPlace_63 ((hZ).2.2.2.1) (rfl) (by omega) (by decide) (rfl) ?_
                refine r_imul C dX5_nextPlace_64 ?_
                refine r_aload_n C dX5_nextPlace_65 3 rfl ?_
                refine r_getr (q2 := (Z + 4)) C dX5_nextPlace_66 3 f_X5_21 (hZ.1) rfl ?_
                refine r_iload_n C dX5_nextPlace_69 4 rfl ?_
                refine r_ialdN (j := node) (v := M (Z + 4) node) C dX5_nextPlace_70 ((hZ).2.2.2.2.1) (rfl) (by omega) (by decide) (rfl) ?_
                refine r_isub C dX5_nextPlace_71 ?_
                refine r_abs (v := absI (2 * M (Z + 3) k - M (Z + 4) node)) C dX5_nextPlace_72 s_X5_67 (Nat.le_of_ble_eq_true rfl) (Nat.le_of_ble_eq_true rfl) (Nat.le_of_ble_eq_true rfl) (rfl) ?_
                refine r_istore (L' := [(5, .int (absI (2 * M (Z + 3) k - M (Z + 4) node))), (4, .int (nI k)), (2, .int b), (3, .int lst), (0, .ref (mA G Z)), (1, .int (nI node))]) C dX5_nextPlace_75 (by decide) rfl ?_
                refine r_iload_n C dX5_nextPlace_77 2 rfl ?_
                refine r_iconst (v := (-1)) C dX5_nextPlace_78 rfl ?_
                refine r_icmp_eq (tgt := 88) C dX5_nextPlace_79 (by decide) (fun c79 => ?_) (fun c79 => ?_)
                ·
                  refine r_iload C dX5_nextPlace_88 1 rfl ?_
                  refine r_istore_n (L' := [(2, .int (nI k)), (5, .int (absI (2 * M (Z + 3) k - M (Z + 4) node))), (4, .int (nI k)), (3, .int lst), (0, .ref (mA G Z)), (1, .int (nI node))]) C dX5_nextPlace_90 (by decide) rfl ?_
                  refine r_iload C dX5_nextPlace_91 1 rfl ?_
                  refine r_istore_n (L' := [(3, .int (absI (2 * M (Z + 3) k - M (Z + 4) node))), (2, .int (nI k)), (5, .int (absI (2 * M (Z + 3) k - M (Z + 4) node))), (4, .int (nI k)), (0, .ref (mA G Z)), (1, .int (nI node))]) C dX5_nextPlace_93 (by decide) rfl ?_
                  refine r_iinc (v := nI (k + 1)) (L' := [(4, .int (nI (k + 1))), (3, .int (absI (2 * M (Z + 3) k - M (Z + 4) node))), (2, .int (nI k)), (5, .int (absI (2 * M (Z + 3) k - M (Z + 4) node))), (0, .ref (mA G Z)), (1, .int (nI node))]) C dX5_nextPlace_94 3 rfl (nI_inc _) (by decide) rfl ?_
                  refine r_goto (tgt := 27) C dX5_nextPlace_97 (by decide) ?_
                  refine r_sub (L' := [(4, .int (nI (k + 1))), (2, .int (nI k)), (3, .int (absI (2 * M (Z + 3) k - M (Z + 4) node))), (0, .ref (mA G Z)), (1, .int (nI node))]) [0, 2, 1, 4, 5] rfl ?_
                  exact ih27 (k + 1) (nI k) (absI (2 * M (Z + 3) k - M (Z + 4) node)) (by omega) (by omega) (by rw [nxS, if_neg (by omega), if_pos ⟨he44, hm53⟩, if_pos (Or.inl (by rw [← hs]; exact c79))]) (by omega)
                ·
                  refine r_iload C dX5_nextPlace_82 0 rfl ?_
                  refine r_iload_n C dX5_nextPlace_84 3 rfl ?_
                  refine r_icmp_ge (tgt := 94) C dX5_nextPlace_85 (by decide) (fun c85 => ?_) (fun c85 => ?_)
                  ·
                    refine r_iinc (v := nI (k + 1)) (L' := [(4, .int (nI (k + 1))), (5, .int (absI (2 * M (Z + 3) k - M (Z + 4) node))), (2, .int b), (3, .int lst), (0, .ref (mA G Z)), (1, .int (nI node))]) C dX5_nextPlace_94 1 rfl (nI_inc _) (by decide) rfl ?_
                    refine r_goto (tgt := 27) C dX5_nextPlace_97 (by decide) ?_
                    refine r_sub (L' := [(4, .int (nI (k + 1))), (2, .int b), (3, .int lst), (0, .ref (mA G Z)), (1, .int (nI node))]) [0, 2, 3, 4, 5] rfl ?_
                    exact ih27 (k + 1) b lst (by omega) (by omega) (by rw [hs]; rw [nxS, if_neg (by omega), if_pos ⟨he44, hm53⟩, if_neg (fun h => h.elim (fun z => c79 (by rw [← hs] at z; exact z)) (fun z => i32_nlt.mpr c85 (by rw [← hs] at z; exact z)))]) (by omega)
                  ·
                    refine r_iload C dX5_nextPlace_88 1 rfl ?_
                    refine r_istore_n (L' := [(2, .int (nI k)), (5, .int (absI (2 * M (Z + 3) k - M (Z + 4) node))), (4, .int (nI k)), (3, .int lst), (0, .ref (mA G Z)), (1, .int (nI node))]) C dX5_nextPlace_90 (by decide) rfl ?_
                    refine r_iload C dX5_nextPlace_91 1 rfl ?_
                    refine r_istore_n (L' := [(3, .int (absI (2 * M (Z + 3) k - M (Z + 4) node))), (2, .int (nI k)), (5, .int (absI (2 * M (Z + 3) k - M (Z + 4) node))), (4, .int (nI k)), (0, .ref (mA G Z)), (1, .int (nI node))]) C dX5_nextPlace_93 (by decide) rfl ?_
                    refine r_iinc (v := nI (k + 1)) (L' := [(4, .int (nI (k + 1))), (3, .int (absI (2 * M (Z + 3) k - M (Z + 4) node))), (2, .int (nI k)), (5, .int (absI (2 * M (Z + 3) k - M (Z + 4) node))), (0, .ref (mA G Z)), (1, .int (nI node))]) C dX5_nextPlace_94 3 rfl (nI_inc _) (by decide) rfl ?_
                    refine r_goto (tgt := 27) C dX5_nextPlace_97 (by decide) ?_
                    refine r_sub (L' := [(4, .int (nI (k + 1))), (2, .int (nI k)), (3, .int (absI (2 * M (Z + 3) k - M (Z + 4) node))), (0, .ref (mA G Z)), (1, .int (nI node))]) [0, 2, 1, 4, 5] rfl ?_
                    exact ih27 (k + 1) (nI k) (absI (2 * M (Z + 3) k - M (Z + 4) node)) (by omega) (by omega) (by rw [nxS, if_neg (by omega), if_pos ⟨he44, hm53⟩, if_pos (Or.inr (by rw [← hs]; exact i32_nle.mp c85))]) (by omega)
      refine r_sub (L' := [(4, .int (nI 1)), (2, .int (-1)), (3, .int 0), (0, .ref (mA G Z)), (1, .int (nI node))]) [0, 2, 1, 3, 4] rfl ?_
      exact lp27 _ 1 (-1) 0 (by omega) hn1 rfl (Nat.lt_succ_self _)
    ·
      have h15 : M (Z + 4) node ≤ 1 := i32_nlt.mp c15
      refine r_iconst (v := (-1)) C dX5_nextPlace_18 rfl ?_
      exact hend _ _ _ _ _ dX5_nextPlace_19 (rfl) (⟨(if_pos (Or.inr h15)).symm, rfl, rfl⟩)

set_option maxRecDepth 20000 in
set_option maxHeartbeats 1000000 in
theorem c_X5_firstNextPlace (l : Launch) (G : mG) (hG : mInj G) (M : Mem) (g : Glo) (Z : Nat) (hZ : isRegs Z) (hZ9 : 70 < Z) (n : Nat) (hn1 : 1 ≤ n) (hn : n ≤ 16) (hc : M Z 5 = nI n) (hd : Nat → Nat) (hh : ∀ k, k < n → M (Z + 2) k = nI (hd k) ∧ hd k ≤ k) : mcI l G yX5_firstNextPlace cX5_firstNextPlace 3 .int 4 [.ref (mA G Z)] M g (fun r M' g' => r = fnS (nextR n hd (M (Z + 1)) (M (Z + 3)) (M (Z + 4)) (M (Z + 5))) n 0 ∧ M' = M ∧ g' = g) := by
  refine mcI_of (L0 := [(0, .ref (mA G Z))]) hG (by decide) (Nat.le_of_ble_eq_true rfl) rfl ?_
  intro p e s m args below meth c Q C hend
  refine r_iconst (v := nI 0) C dX5_firstNextPlace_0 rfl ?_
  refine r_istore_n (L' := [(1, .int (nI 0)), (0, .ref (mA G Z))]) C dX5_firstNextPlace_1 (by decide) rfl ?_
  have lp2 : ∀ (fu : Nat) (k : Nat), (k ≤ n) → (fnS (nextR n hd (M (Z + 1)) (M (Z + 3)) (M (Z + 4)) (M (Z + 5))) n 0 = fnS (nextR n hd (M (Z + 1)) (M (Z + 3)) (M (Z + 4)) (M (Z + 5))) (n - k) k) → (n - k) < fu → At p l e (rmD 4 0 0) s m args below meth c G 3 0 0 Q M g [(1, .int (nI k)), (0, .ref (mA G Z))] 2 [] := by
    intro fu
    induction fu with
    | zero => intro k hkn hs hfu; exact absurd hfu (Nat.not_lt_zero _)
    | succ fu ih2 =>
      intro k hkn hs hfu2
      refine r_iload_n C dX5_firstNextPlace_2 0 rfl ?_
      refine r_aload_n C dX5_firstNextPlace_3 1 rfl ?_
      refine r_geti C dX5_firstNextPlace_4 5 f_X5_27 (hZ.1) rfl ?_
      refine r_valI (y := nI n) (hc) ?_
      refine r_icmp_ge (tgt := 29) C dX5_firstNextPlace_7 (by decide) (fun c7 => ?_) (fun c7 => ?_)
      ·
        have hkn2 : k = n := by have := le_of_le (by omega) (by omega) c7; omega
        refine r_iconst (v := (-1)) C dX5_firstNextPlace_29 rfl ?_
        exact hend _ _ _ _ _ dX5_firstNextPlace_30 (rfl) (⟨by rw [hs, hkn2, Nat.sub_self]; rfl, rfl, rfl⟩)
      ·
        have hlt : k < n := lt_of_nle (by omega) c7
        refine r_aload_n C dX5_firstNextPlace_10 1 rfl ?_
        refine r_iload_n C dX5_firstNextPlace_11 0 rfl ?_
        refine r_callVI (As := [.int (nI k)]) (rest := []) C dX5_firstNextPlace_12 s_X5_72 (c_X5_nextPlace l G hG M g Z hZ hZ9 n k hn1 hn hlt hc hd hh) (by decide) (hZ.1) rfl rfl rfl (Nat.le_of_ble_eq_true rfl) (Nat.le_of_ble_eq_true rfl) (Nat.le_of_ble_eq_true rfl) (pk_I ?_)
        refine r_istore_n (L' := [(2, .int (nextR n hd (M (Z + 1)) (M (Z + 3)) (M (Z + 4)) (M (Z + 5)) k)), (1, .int (nI k)), (0, .ref (mA G Z))]) C dX5_firstNextPlace_15 (by decide) rfl ?_
        refine r_iload_n C dX5_firstNextPlace_16 0 rfl ?_
        refine r_iconst (v := (-1)) C dX5_firstNextPlace_17 rfl ?_
        refine r_icmp_eq (tgt := 23) C dX5_firstNextPlace_18 (by decide) (fun c18 => ?_) (fun c18 => ?_)
        ·
          refine r_iinc (v := nI (k + 1)) (L' := [(1, .int (nI (k + 1))), (2, .int (nextR n hd (M (Z + 1)) (M (Z + 3)) (M (Z + 4)) (M (Z + 5)) k)), (0, .ref (mA G Z))]) C dX5_firstNextPlace_23 1 rfl (nI_inc _) (by decide) rfl ?_
          refine r_goto (tgt := 2) C dX5_firstNextPlace_26 (by decide) ?_
          refine r_sub (L' := [(1, .int (nI (k + 1))), (0, .ref (mA G Z))]) [0, 2] rfl ?_
          exact ih2 (k + 1) (by omega) (by rw [hs, show n - k = (n - (k + 1)) + 1 by omega, fnS, if_pos c18]) (by omega)
        ·
          refine r_iload_n C dX5_firstNextPlace_21 0 rfl ?_
          exact hend _ _ _ _ _ dX5_firstNextPlace_22 (rfl) (⟨by rw [hs, show n - k = (n - (k + 1)) + 1 by omega, fnS, if_neg c18], rfl, rfl⟩)
  refine r_sub (L' := [(1, .int (nI 0)), (0, .ref (mA G Z))]) [0, 1] rfl ?_
  exact lp2 _ 0 (by omega) rfl (Nat.lt_succ_self _)

set_option maxRecDepth 20000 in
set_option maxHeartbeats 1000000 in
theorem c_X5_giveMeter (l : Launch) (G : mG) (hG : mInj G) (M : Mem) (g : Glo) (Z : Nat) (hZ : isRegs Z) (hZ9 : 70 < Z) (j : Nat) (hj : j < 16) : mcV l G yX5_giveMeter cX5_giveMeter 2 1 [.ref (mA G Z), .int (nI j)] M g (fun M' g' => M' = mset M (Z + 1) j 1 ∧ g' = g) := by
  refine mcV_of (L0 := [(0, .ref (mA G Z)), (1, .int (nI j))]) hG (by decide) (Nat.le_of_ble_eq_true rfl) rfl ?_
  intro p e s m args below meth c Q C hend
  refine r_iload_n C dX5_giveMeter_0 1 rfl ?_
  refine r_if_lt (tgt := 17) C dX5_giveMeter_1 (by decide) (fun h => absurd h (nI_pos (by omega))) (fun _ => ?_)
  refine r_iload_n C dX5_giveMeter_4 1 rfl ?_
  refine r_bipush (v := 16) C dX5_giveMeter_5 rfl ?_
  refine r_icmp_ge (tgt := 17) C dX5_giveMeter_7 (by decide) (fun h => absurd h ((nI_ge hj (by decide) : ¬ nI 16 ≤ nI j))) (fun _ => ?_)
  refine r_aload_n C dX5_giveMeter_10 0 rfl ?_
  refine r_getr (q2 := (Z + 1)) C dX5_giveMeter_11 0 f_X5_9 (hZ.1) rfl ?_
  refine r_iload_n C dX5_giveMeter_14 1 rfl ?_
  refine r_iconst (v := 1) C dX5_giveMeter_15 rfl ?_
  refine r_iastN (j := j) C dX5_giveMeter_16 ((hZ).2.1) (rfl) (by omega) (by decide) ?_
  exact hend _ _ _ _ dX5_giveMeter_17 (⟨rfl, rfl⟩)

set_option maxRecDepth 20000 in
set_option maxHeartbeats 1000000 in
theorem c_X5_takeMeters (l : Launch) (G : mG) (hG : mInj G) (M : Mem) (g : Glo) (Z : Nat) (hZ : isRegs Z) (hZ9 : 70 < Z) : mcV l G yX5_takeMeters cX5_takeMeters 2 2 [.ref (mA G Z), .ref (mA G 2)] M g (fun M' g' => (∃ f, M' = mrow M (Z + 1) f ∧ ∀ j, j < 16 → f j = M 9 j) ∧ g' = g) := by
  refine mcV_of (L0 := [(0, .ref (mA G Z)), (1, .ref (mA G 2))]) hG (by decide) (Nat.le_of_ble_eq_true rfl) rfl ?_
  intro p e s m args below meth c Q C hend
  refine r_aload_n C dX5_takeMeters_0 1 rfl ?_
  refine r_getr (q2 := 9) C dX5_takeMeters_1 6 f_X5_31 rfl rfl ?_
  refine r_aload_n C dX5_takeMeters_4 0 rfl ?_
  refine r_getr (q2 := (Z + 1)) C dX5_takeMeters_5 0 f_X5_9 (hZ.1) rfl ?_
  refine r_callNV (As := [.ref (mA G 9), .ref (mA G (Z + 1))]) (rest := []) C dX5_takeMeters_8 s_X5_34 (c_X7_copyRow16 l G hG M g 9 (Z + 1) rfl hZ.2.1) (by decide) rfl rfl (Nat.le_of_ble_eq_true rfl) (Nat.le_of_ble_eq_true rfl) (Nat.le_of_ble_eq_true rfl) (fun M8 g8 hp8 => ?_)
  obtain ⟨⟨f, rfl, hf⟩, eg8⟩ := hp8
  rw [eg8]
  exact hend _ _ _ _ dX5_takeMeters_11 (⟨⟨f, rfl, hf⟩, rfl⟩)

set_option maxRecDepth 20000 in
set_option maxHeartbeats 1000000 in
theorem c_X5_clearCounts (l : Launch) (G : mG) (hG : mInj G) (M : Mem) (g : Glo) (Z : Nat) (hZ : isRegs Z) (hZ9 : 70 < Z) (n : Nat) (hn : n ≤ 16) (hc : M Z 5 = nI n) : mcV l G yX5_clearCounts cX5_clearCounts 2 1 [.ref (mA G Z)] M g (fun M' g' => (∃ f2 f3 f4 f5, M' = mR M Z (nI n) f2 f3 f4 f5 ∧ f2 0 = 0 ∧ ∀ j, j < n → f3 j = (if j = 0 then 0 else 1) ∧ f4 j = 0 ∧ f5 j = 0) ∧ g' = g) := by
  refine mcV_of (L0 := [(0, .ref (mA G Z))]) hG (by decide) (Nat.le_of_ble_eq_true rfl) rfl ?_
  intro p e s m args below meth c Q C hend
  refine r_mem (M' := mR M Z (nI n) (M (Z + 2)) (M (Z + 3)) (M (Z + 4)) (M (Z + 5))) (mR_id hc) ?_
  refine r_aload_n C dX5_clearCounts_0 0 rfl ?_
  refine r_getr (q2 := (Z + 2)) C dX5_clearCounts_1 1 f_X5_15 (hZ.1) rfl ?_
  refine r_iconst (v := 0) C dX5_clearCounts_4 rfl ?_
  refine r_iconst (v := 0) C dX5_clearCounts_5 rfl ?_
  refine r_iastN (j := 0) C dX5_clearCounts_6 ((hZ).2.2.1) (rfl) (by omega) (by decide) ?_
  refine r_mem (M' := mR M Z (nI n) (upd (M (Z + 2)) 0 0) (M (Z + 3)) (M (Z + 4)) (M (Z + 5))) (mR_s2) ?_
  refine r_iconst (v := nI 0) C dX5_clearCounts_7 rfl ?_
  refine r_istore_n (L' := [(1, .int (nI 0)), (0, .ref (mA G Z))]) C dX5_clearCounts_8 (by decide) rfl ?_
  have lp9 : ∀ (fu : Nat) (k : Nat) (f2 f3 f4 f5 : Nat → Int32), (k ≤ n) → (f2 0 = 0) → (∀ j, j < k → f3 j = (if j = 0 then 0 else 1) ∧ f4 j = 0 ∧ f5 j = 0) → (n - k) < fu → At p l e (rmD 1 0 0) s m args below meth c G 2 0 0 Q (mR M Z (nI n) (f2) (f3) (f4) (f5)) g [(1, .int (nI k)), (0, .ref (mA G Z))] 9 [] := by
    intro fu
    induction fu with
    | zero => intro k f2 f3 f4 f5 hkn h2 hf hfu; exact absurd hfu (Nat.not_lt_zero _)
    | succ fu ih9 =>
      intro k f2 f3 f4 f5 hkn h2 hf hfu9
      refine r_iload_n C dX5_clearCounts_9 0 rfl ?_
      refine r_aload_n C dX5_clearCounts_10 1 rfl ?_
      refine r_geti C dX5_clearCounts_11 5 f_X5_27 (hZ.1) rfl ?_
      refine r_valI (y := nI n) (mR_c) ?_
      refine r_icmp_ge (tgt := 52) C dX5_clearCounts_14 (by decide) (fun c14 => ?_) (fun c14 => ?_)
      ·
        have hkn2 : k = n := by have := le_of_le (by omega) (by omega) c14; omega
        exact hend _ _ _ _ dX5_clearCounts_52 (⟨⟨f2, f3, f4, f5, rfl, h2, fun j hj => hf j (by omega)⟩, rfl⟩)
      ·
        have hlt : k < n := lt_of_nle (by omega) c14
        refine r_aload_n C dX5_clearCounts_17 1 rfl ?_
        refine r_getr (q2 := (Z + 4)) C dX5_clearCounts_18 3 f_X5_21 (hZ.1) rfl ?_
        refine r_iload_n C dX5_clearCounts_21 0 rfl ?_
        refine r_iconst (v := 0) C dX5_clearCounts_22 rfl ?_
        refine r_iastN (j := k) C dX5_clearCounts_23 ((hZ).2.2.2.2.1) (rfl) (by omega) (by decide) ?_
        refine r_mem (M' := mR M Z (nI n) (f2) (f3) (upd f4 k 0) (f5)) (mR_s4) ?_
        refine r_aload_n C dX5_clearCounts_24 1 rfl ?_
        refine r_getr (q2 := (Z + 5)) C dX5_clearCounts_25 4 f_X5_24 (hZ.1) rfl ?_
        refine r_iload_n C dX5_clearCounts_28 0 rfl ?_
        refine r_iconst (v := 0) C dX5_clearCounts_29 rfl ?_
        refine r_iastN (j := k) C dX5_clearCounts_30 ((hZ).2.2.2.2.2) (rfl) (by omega) (by decide) ?_
        refine r_mem (M' := mR M Z (nI n) (f2) (f3) (upd f4 k 0) (upd f5 k 0)) (mR_s5) ?_
        refine r_aload_n C dX5_clearCounts_31 1 rfl ?_
        refine r_getr (q2 := (Z + 3)) C dX5_clearCounts_32 2 f_X5_18 (hZ.1) rfl ?_
        refine r_iload_n C dX5_clearCounts_35 0 rfl ?_
        refine r_iload_n C dX5_clearCounts_36 0 rfl ?_
        refine r_if_ne (tgt := 44) C dX5_clearCounts_37 (by decide) (fun c37 => ?_) (fun c37 => ?_)
        ·
          refine r_iconst (v := 1) C dX5_clearCounts_44 rfl ?_
          refine r_iastN (j := k) C dX5_clearCounts_45 ((hZ).2.2.2.1) (rfl) (by omega) (by decide) ?_
          refine r_mem (M' := mR M Z (nI n) (f2) (upd f3 k 1) (upd f4 k 0) (upd f5 k 0)) (mR_s3) ?_
          refine r_iinc (v := nI (k + 1)) (L' := [(1, .int (nI (k + 1))), (0, .ref (mA G Z))]) C dX5_clearCounts_46 0 rfl (nI_inc _) (by decide) rfl ?_
          refine r_goto (tgt := 9) C dX5_clearCounts_49 (by decide) ?_
          refine r_sub (L' := [(1, .int (nI (k + 1))), (0, .ref (mA G Z))]) [0, 1] rfl ?_
          exact ih9 (k + 1) _ _ _ _ (by omega) h2 (fun j hj => by rcases Nat.lt_or_ge j k with q | q; (rw [upd_ne (by omega), upd_ne (by omega), upd_ne (by omega)]; exact hf j q); (have e9 : j = k := by omega); subst e9; rw [upd_at, upd_at, upd_at]; exact ⟨(if_neg (fun h => c37 (by rw [h]; rfl))).symm, rfl, rfl⟩) (by omega)
        ·
          refine r_iconst (v := 0) C dX5_clearCounts_40 rfl ?_
          refine r_goto (tgt := 45) C dX5_clearCounts_41 (by decide) ?_
          refine r_iastN (j := k) C dX5_clearCounts_45 ((hZ).2.2.2.1) (rfl) (by omega) (by decide) ?_
          refine r_mem (M' := mR M Z (nI n) (f2) (upd f3 k 0) (upd f4 k 0) (upd f5 k 0)) (mR_s3) ?_
          refine r_iinc (v := nI (k + 1)) (L' := [(1, .int (nI (k + 1))), (0, .ref (mA G Z))]) C dX5_clearCounts_46 0 rfl (nI_inc _) (by decide) rfl ?_
          refine r_goto (tgt := 9) C dX5_clearCounts_49 (by decide) ?_
          refine r_sub (L' := [(1, .int (nI (k + 1))), (0, .ref (mA G Z))]) [0, 1] rfl ?_
          exact ih9 (k + 1) _ _ _ _ (by omega) h2 (fun j hj => by rcases Nat.lt_or_ge j k with q | q; (rw [upd_ne (by omega), upd_ne (by omega), upd_ne (by omega)]; exact hf j q); (have e9 : j = k := by omega); subst e9; rw [upd_at, upd_at, upd_at]; exact ⟨(if_pos ((nI_eq (b := 0) (by omega) (by omega)).mp c37)).symm, rfl, rfl⟩) (by omega)
  refine r_sub (L' := [(1, .int (nI 0)), (0, .ref (mA G Z))]) [0, 1] rfl ?_
  exact lp9 _ 0 _ _ _ _ (by omega) (upd_at _ _ _) (fun j hj => absurd hj (Nat.not_lt_zero j)) (Nat.lt_succ_self _)

set_option maxRecDepth 20000 in
set_option maxHeartbeats 1000000 in
theorem c_X5_headAbove (l : Launch) (G : mG) (hG : mInj G) (M : Mem) (g : Glo) (V : View) (hT : wfT V) (hV : cNet M 2 V) (Z : Nat) (hZ : isRegs Z) (hZ9 : 70 < Z) (j h : Nat) (h0 : 0 < j) (hj : j < vN V) (hh : M (Z + 2) (vP V j) = nI h) (hlt : h < j) : mcI l G yX5_headAbove cX5_headAbove 4 .int 2 [.ref (mA G Z), .ref (mA G 2), .int (nI j)] M g (fun r M' g' => r = nI h ∧ M' = M ∧ g' = g) := by
  refine mcI_of (L0 := [(0, .ref (mA G Z)), (1, .ref (mA G 2)), (2, .int (nI j))]) hG (by decide) (Nat.le_of_ble_eq_true rfl) rfl ?_
  intro p e s m args below meth c Q C hend
  have hT0 := hT
  obtain ⟨hn1, hn16, hb4, ⟨hd0, hd3, hd5, hd6⟩, hpar⟩ := hT0
  obtain ⟨hp1, hp2⟩ := hpar j h0 hj
  refine r_aload_n C dX5_headAbove_0 1 rfl ?_
  refine r_iload_n C dX5_headAbove_1 2 rfl ?_
  refine r_callVI (As := [.int (nI j)]) (rest := []) C dX5_headAbove_2 s_X5_57 (c_X3_hasParent l G hG M g V hT hV j h0 hj) (by decide) rfl rfl rfl rfl (Nat.le_of_ble_eq_true rfl) (Nat.le_of_ble_eq_true rfl) (Nat.le_of_ble_eq_true rfl) (pk_I ?_)
  refine r_if_eq (tgt := 22) C dX5_headAbove_5 (by decide) (fun h => absurd h (by decide)) (fun _ => ?_)
  refine r_aload_n C dX5_headAbove_8 0 rfl ?_
  refine r_getr (q2 := (Z + 2)) C dX5_headAbove_9 1 f_X5_15 (hZ.1) rfl ?_
  refine r_aload_n C dX5_headAbove_12 1 rfl ?_
  refine r_getr (q2 := 3) C dX5_headAbove_13 0 f_X5_60 rfl rfl ?_
  refine r_iload_n C dX5_headAbove_16 2 rfl ?_
  refine r_ialdN (j := j) (v := nI (vP V j)) C dX5_headAbove_17 rfl (rfl) (by omega) (by decide) ((hV.at 0 (by decide) hj).trans hp1) ?_
  refine r_ialdN (j := vP V j) (v := nI h) C dX5_headAbove_18 ((hZ).2.2.1) (rfl) (by omega) (by decide) (hh) ?_
  refine r_goto (tgt := 23) C dX5_headAbove_19 (by decide) ?_
  refine r_istore_n (L' := [(3, .int (nI h)), (0, .ref (mA G Z)), (1, .ref (mA G 2)), (2, .int (nI j))]) C dX5_headAbove_23 (by decide) rfl ?_
  refine r_iload_n C dX5_headAbove_24 0 rfl ?_
  refine r_if_lt (tgt := 37) C dX5_headAbove_25 (by decide) (fun h => absurd h (nI_pos (by omega))) (fun _ => ?_)
  refine r_iload_n C dX5_headAbove_28 0 rfl ?_
  refine r_iload_n C dX5_headAbove_29 3 rfl ?_
  refine r_icmp_ge (tgt := 37) C dX5_headAbove_30 (by decide) (fun h => absurd h (nI_ge hlt (by omega))) (fun _ => ?_)
  refine r_iload_n C dX5_headAbove_33 0 rfl ?_
  refine r_goto (tgt := 38) C dX5_headAbove_34 (by decide) ?_
  exact hend _ _ _ _ _ dX5_headAbove_38 (rfl) (⟨rfl, rfl, rfl⟩)

set_option maxRecDepth 20000 in
set_option maxHeartbeats 1000000 in
theorem c_X5_countBranches (l : Launch) (G : mG) (hG : mInj G) (M : Mem) (g : Glo) (V : View) (hT : wfT V) (hV : cNet M 2 V) (Z : Nat) (hZ : isRegs Z) (hZ9 : 70 < Z) (hc : M Z 5 = nI (vN V)) : mcV l G yX5_countBranches cX5_countBranches 3 2 [.ref (mA G Z), .ref (mA G 2)] M g (fun M' g' => M' = mrow M (Z + 3) (ibUp (vP V) (M (Z + 1)) (vN V - 1) (M (Z + 3))) ∧ g' = g) := by
  refine mcV_of (L0 := [(0, .ref (mA G Z)), (1, .ref (mA G 2))]) hG (by decide) (Nat.le_of_ble_eq_true rfl) rfl ?_
  intro p e s m args below meth c Q C hend
  have hT0 := hT
  obtain ⟨hn1, hn16, hb4, ⟨hd0, hd3, hd5, hd6⟩, hpar⟩ := hT0
  refine r_aload_n C dX5_countBranches_0 0 rfl ?_
  refine r_geti C dX5_countBranches_1 5 f_X5_27 (hZ.1) rfl ?_
  refine r_valI (y := nI (vN V)) (hc) ?_
  refine r_iconst (v := 1) C dX5_countBranches_4 rfl ?_
  refine r_isub C dX5_countBranches_5 ?_
  refine r_valI (y := nI (vN V - 1)) (pk_sub (by omega)) ?_
  refine r_istore_n (L' := [(2, .int (nI (vN V - 1))), (0, .ref (mA G Z)), (1, .ref (mA G 2))]) C dX5_countBranches_6 (by decide) rfl ?_
  have lp7 : ∀ (fu : Nat) (k : Nat) (f : Nat → Int32), (k < vN V) → (ibUp (vP V) (M (Z + 1)) k f = ibUp (vP V) (M (Z + 1)) (vN V - 1) (M (Z + 3))) → k < fu → At p l e (rmD 2 0 0) s m args below meth c G 3 0 0 Q (mrow M (Z + 3) f) g [(2, .int (nI k)), (0, .ref (mA G Z)), (1, .ref (mA G 2))] 7 [] := by
    intro fu
    induction fu with
    | zero => intro k f hkn hf hfu; exact absurd hfu (Nat.not_lt_zero _)
    | succ fu ih7 =>
      intro k f hkn hf hfu7
      have hV2 : cNet (mrow M (Z + 3) f) 2 V := hV.off (offR.row f (Nat.le_refl _) (Nat.le_refl _)) (by omega)
      refine r_iload_n C dX5_countBranches_7 0 rfl ?_
      refine r_if_le (tgt := 53) C dX5_countBranches_8 (by decide) (fun c8 => ?_) (fun c8 => ?_)
      ·
        have hk0 : k = 0 := by rcases Nat.eq_zero_or_pos k with q | q; exact q; exact absurd c8 (nI_nle q (by omega))
        exact hend _ _ _ _ dX5_countBranches_53 (⟨by rw [← hf, hk0]; rfl, rfl⟩)
      ·
        have hk0 : 0 < k := by rcases Nat.eq_zero_or_pos k with q | q; exact absurd (by subst q; decide) c8; exact q
        have hpk := hpar k hk0 hkn
        refine r_aload_n C dX5_countBranches_11 1 rfl ?_
        refine r_iload_n C dX5_countBranches_12 0 rfl ?_
        refine r_callVI (As := [.int (nI k)]) (rest := []) C dX5_countBranches_13 s_X5_42 (c_X5_hasMeter l G hG (mrow M (Z + 3) f) g Z hZ hZ9 k (by omega)) (by decide) (hZ.1) rfl rfl rfl (Nat.le_of_ble_eq_true rfl) (Nat.le_of_ble_eq_true rfl) (Nat.le_of_ble_eq_true rfl) (pk_I ?_)
        refine r_if_ne (tgt := 47) C dX5_countBranches_16 (by decide) (fun c16 => ?_) (fun c16 => ?_)
        ·
          have hm16 : ¬ M (Z + 1) k = 0 := by have h9 := of_decide_eq_true (b2i_1.mp c16); rw [mrow_ne (by omega)] at h9; exact h9.resolve_left (by omega)
          refine r_mem (M' := mrow M (Z + 3) f) (rfl) ?_
          refine r_iinc (v := nI (k - 1)) (L' := [(2, .int (nI (k - 1))), (0, .ref (mA G Z)), (1, .ref (mA G 2))]) C dX5_countBranches_47 0 rfl (nI_dec1 (by omega)) (by decide) rfl ?_
          refine r_goto (tgt := 7) C dX5_countBranches_50 (by decide) ?_
          refine r_sub (L' := [(2, .int (nI (k - 1))), (0, .ref (mA G Z)), (1, .ref (mA G 2))]) [0, 1, 2] rfl ?_
          exact ih7 (k - 1) (f) (by omega) (by rw [← hf, ibUp_s _ _ hk0, if_neg hm16]) (by omega)
        ·
          have hm16 : M (Z + 1) k = 0 := by have h9 := of_decide_eq_false (b2i_0.mp c16); rw [mrow_ne (by omega)] at h9; exact Classical.byContradiction (fun z => h9 (Or.inr z))
          refine r_aload_n C dX5_countBranches_19 2 rfl ?_
          refine r_iload_n C dX5_countBranches_20 0 rfl ?_
          refine r_callVI (As := [.int (nI k)]) (rest := []) C dX5_countBranches_21 s_X5_57 (c_X3_hasParent l G hG (mrow M (Z + 3) f) g V hT hV2 k hk0 hkn) (by decide) rfl rfl rfl rfl (Nat.le_of_ble_eq_true rfl) (Nat.le_of_ble_eq_true rfl) (Nat.le_of_ble_eq_true rfl) (pk_I ?_)
          refine r_if_eq (tgt := 47) C dX5_countBranches_24 (by decide) (fun h => absurd h (by decide)) (fun _ => ?_)
          refine r_aload_n C dX5_countBranches_27 1 rfl ?_
          refine r_getr (q2 := (Z + 3)) C dX5_countBranches_28 2 f_X5_18 (hZ.1) rfl ?_
          refine r_aload_n C dX5_countBranches_31 2 rfl ?_
          refine r_getr (q2 := 3) C dX5_countBranches_32 0 f_X5_60 rfl rfl ?_
          refine r_iload_n C dX5_countBranches_35 0 rfl ?_
          refine r_ialdN (j := k) (v := nI (vP V k)) C dX5_countBranches_36 rfl (rfl) (by omega) (by decide) ((hV2.at 0 (by decide) hkn).trans hpk.1) ?_
          refine r_dup2 C dX5_countBranches_37 rfl rfl ?_
          refine r_ialdN (j := vP V k) (v := f (vP V k)) C dX5_countBranches_38 ((hZ).2.2.2.1) (rfl) (by omega) (by decide) (by rw [mrow_at]) ?_
          refine r_aload_n C dX5_countBranches_39 1 rfl ?_
          refine r_getr (q2 := (Z + 3)) C dX5_countBranches_40 2 f_X5_18 (hZ.1) rfl ?_
          refine r_iload_n C dX5_countBranches_43 0 rfl ?_
          refine r_ialdN (j := k) (v := f k) C dX5_countBranches_44 ((hZ).2.2.2.1) (rfl) (by omega) (by decide) (by rw [mrow_at]) ?_
          refine r_iadd C dX5_countBranches_45 ?_
          refine r_iastN (j := vP V k) C dX5_countBranches_46 ((hZ).2.2.2.1) (rfl) (by omega) (by decide) ?_
          refine r_mem (M' := mrow M (Z + 3) (upd f (vP V k) (f (vP V k) + f k))) (mset_row _ _ _ _ _) ?_
          refine r_iinc (v := nI (k - 1)) (L' := [(2, .int (nI (k - 1))), (0, .ref (mA G Z)), (1, .ref (mA G 2))]) C dX5_countBranches_47 0 rfl (nI_dec1 (by omega)) (by decide) rfl ?_
          refine r_goto (tgt := 7) C dX5_countBranches_50 (by decide) ?_
          refine r_sub (L' := [(2, .int (nI (k - 1))), (0, .ref (mA G Z)), (1, .ref (mA G 2))]) [0, 1, 2] rfl ?_
          exact ih7 (k - 1) (upd f (vP V k) (f (vP V k) + f k)) (by omega) (by rw [← hf, ibUp_s _ _ hk0, if_pos hm16]) (by omega)
  refine r_mem (M' := mrow M (Z + 3) (M (Z + 3))) (mrow_self _ _).symm ?_
  refine r_sub (L' := [(2, .int (nI (vN V - 1))), (0, .ref (mA G Z)), (1, .ref (mA G 2))]) [0, 1, 2] rfl ?_
  exact lp7 _ (vN V - 1) (M (Z + 3)) (by omega) rfl (Nat.lt_succ_self _)

set_option maxRecDepth 20000 in
set_option maxHeartbeats 1000000 in
theorem c_X5_settle (l : Launch) (G : mG) (hG : mInj G) (M : Mem) (g : Glo) (V : View) (hT : wfT V) (hV : cNet M 2 V) (Z : Nat) (hZ : isRegs Z) (hZ9 : 70 < Z) : mcV l G yX5_settle cX5_settle 4 3 [.ref (mA G Z), .ref (mA G 2)] M g (fun M' g' => (rgOK M' Z V (M (Z + 1)) ∧ offR M M' Z (Z + 5)) ∧ g' = g) := by
  refine mcV_of (L0 := [(0, .ref (mA G Z)), (1, .ref (mA G 2))]) hG (by decide) (Nat.le_of_ble_eq_true rfl) rfl ?_
  intro p e s m args below meth c Q C hend
  have hT0 := hT
  obtain ⟨hn1, hn16, hb4, ⟨hd0, hd3, hd5, hd6⟩, hpar⟩ := hT0
  have hVg : ∀ f2 f3 f4 f5 : Nat → Int32, cNet (mR M Z (nI (vN V)) f2 f3 f4 f5) 2 V := fun f2 f3 f4 f5 => hV.off (a := Z) (b := Z + 5) (fun q hq => mR_o (by omega)) (by omega)
  refine r_aload_n C dX5_settle_0 0 rfl ?_
  refine r_aload_n C dX5_settle_1 1 rfl ?_
  refine r_geti C dX5_settle_2 8 f_X5_38 rfl rfl ?_
  refine r_valI (y := nI (vN V)) (hV.1) ?_
  refine r_puti C dX5_settle_5 5 fi_X5_27 (hZ.1) rfl ?_
  refine r_mem (M' := mR M Z (nI (vN V)) (M (Z + 2)) (M (Z + 3)) (M (Z + 4)) (M (Z + 5))) (mR_set) ?_
  refine r_aload_n C dX5_settle_8 0 rfl ?_
  refine r_callVV (As := []) (rest := []) C dX5_settle_9 s_X5_39 (c_X5_clearCounts l G hG (mR M Z (nI (vN V)) (M (Z + 2)) (M (Z + 3)) (M (Z + 4)) (M (Z + 5))) g Z hZ hZ9 (vN V) hn16 mR_c) (by decide) (hZ.1) rfl rfl rfl (Nat.le_of_ble_eq_true rfl) (Nat.le_of_ble_eq_true rfl) (Nat.le_of_ble_eq_true rfl) (fun M9 g9 hp9 => ?_)
  obtain ⟨⟨f2, f3, f4, f5, rfl, hf2, hf⟩, eg9⟩ := hp9
  rw [eg9]
  rw [mR_mR]
  refine r_iconst (v := nI 1) C dX5_settle_12 rfl ?_
  refine r_istore_n (L' := [(2, .int (nI 1)), (0, .ref (mA G Z)), (1, .ref (mA G 2))]) C dX5_settle_13 (by decide) rfl ?_
  have lp14 : ∀ (fu : Nat) (k : Nat) (f2 f4 f5 : Nat → Int32), (0 < k) → (k ≤ vN V) → (∀ j, j < k → f2 j = nI (hdF V (M (Z + 1)) j)) → (∀ t, t < vN V → f4 t = szR V (M (Z + 1)) k t) → (∀ t, t < vN V → f5 t = lkR V (M (Z + 1)) k t) → (vN V - k) < fu → At p l e (rmD 3 0 0) s m args below meth c G 4 0 0 Q (mR M Z (nI (vN V)) (f2) (f3) (f4) (f5)) g [(2, .int (nI k)), (0, .ref (mA G Z)), (1, .ref (mA G 2))] 14 [] := by
    intro fu
    induction fu with
    | zero => intro k f2 f4 f5 hk0 hkn h2 h4 h5 hfu; exact absurd hfu (Nat.not_lt_zero _)
    | succ fu ih14 =>
      intro k f2 f4 f5 hk0 hkn h2 h4 h5 hfu14
      refine r_iload_n C dX5_settle_14 0 rfl ?_
      refine r_aload_n C dX5_settle_15 1 rfl ?_
      refine r_geti C dX5_settle_16 5 f_X5_27 (hZ.1) rfl ?_
      refine r_valI (y := nI (vN V)) (mR_c) ?_
      refine r_icmp_ge (tgt := 79) C dX5_settle_19 (by decide) (fun c19 => ?_) (fun c19 => ?_)
      ·
        have hkn2 : k = vN V := by have := le_of_le (by omega) (by omega) c19; omega
        refine r_aload_n C dX5_settle_79 1 rfl ?_
        refine r_aload_n C dX5_settle_80 2 rfl ?_
        refine r_callVV (As := [.ref (mA G 2)]) (rest := []) C dX5_settle_81 s_X5_53 (c_X5_countBranches l G hG (mR M Z (nI (vN V)) (f2) (f3) (f4) (f5)) g V hT (hVg f2 f3 f4 f5) Z hZ hZ9 mR_c) (by decide) (hZ.1) rfl rfl rfl (Nat.le_of_ble_eq_true rfl) (Nat.le_of_ble_eq_true rfl) (Nat.le_of_ble_eq_true rfl) (pk_V ?_)
        exact hend _ _ _ _ dX5_settle_84 (⟨⟨⟨by rw [mrow_ne (by omega)]; exact mR_c, fun j hj => by rw [mrow_ne (by omega), mR_o (by omega)], fun j hj => ⟨by rw [mrow_ne (by omega), mR_2]; exact h2 j (by omega), by rw [mrow_at, mR_3]; exact ibUp_cong (vN V - 1) _ _ (by omega) (fun j h8 h9 => (hpar j h8 (by omega)).2) (fun j hj => by rw [mR_o (by omega)]) (fun j hj => (hf j hj).1) j hj, by rw [mrow_ne (by omega), mR_4, h4 j hj, hkn2]; rfl, by rw [mrow_ne (by omega), mR_5, h5 j hj, hkn2]; rfl⟩⟩, fun q hq => by rw [mrow_ne (by omega), mR_o (by omega)]⟩, rfl⟩)
      ·
        have hlt : k < vN V := lt_of_nle (by omega) c19
        have hle := hdF_le hT (M (Z + 1)) k k (Nat.le_refl k) hlt
        refine r_aload_n C dX5_settle_22 1 rfl ?_
        refine r_iload_n C dX5_settle_23 0 rfl ?_
        refine r_callVI (As := [.int (nI k)]) (rest := []) C dX5_settle_24 s_X5_42 (c_X5_hasMeter l G hG (mR M Z (nI (vN V)) (f2) (f3) (f4) (f5)) g Z hZ hZ9 k (by omega)) (by decide) (hZ.1) rfl rfl rfl (Nat.le_of_ble_eq_true rfl) (Nat.le_of_ble_eq_true rfl) (Nat.le_of_ble_eq_true rfl) (pk_I ?_)
        refine r_if_eq (tgt := 34) C dX5_settle_27 (by decide) (fun c27 => ?_) (fun c27 => ?_)
        ·
          have hm27 : M (Z + 1) k = 0 := by have h9 := of_decide_eq_false (b2i_0.mp c27); rw [mR_o (by omega)] at h9; exact Classical.byContradiction (fun z => h9 (Or.inr z))
          refine r_aload_n C dX5_settle_34 1 rfl ?_
          refine r_aload_n C dX5_settle_35 2 rfl ?_
          refine r_iload_n C dX5_settle_36 0 rfl ?_
          refine r_callVI (As := [.ref (mA G 2), .int (nI k)]) (rest := []) C dX5_settle_37 s_X5_46 (c_X5_headAbove l G hG (mR M Z (nI (vN V)) (f2) (f3) (f4) (f5)) g V hT (hVg f2 f3 f4 f5) Z hZ hZ9 k (hdF V (M (Z + 1)) (vP V k)) hk0 hlt (by rw [mR_2]; exact h2 _ (hpar k hk0 hlt).2) (by have := (hpar k hk0 hlt).2; have := hdF_le hT (M (Z + 1)) _ (vP V k) (Nat.le_refl _) (by omega); omega)) (by decide) (hZ.1) rfl rfl rfl (Nat.le_of_ble_eq_true rfl) (Nat.le_of_ble_eq_true rfl) (Nat.le_of_ble_eq_true rfl) (pk_I ?_)
          refine r_valI (y := nI (hdF V (M (Z + 1)) k)) (by rw [hdF_s V (M (Z + 1)) hk0 (hpar k hk0 hlt).2, if_pos hm27]) ?_
          refine r_istore_n (L' := [(3, .int (nI (hdF V (M (Z + 1)) k))), (2, .int (nI k)), (0, .ref (mA G Z)), (1, .ref (mA G 2))]) C dX5_settle_40 (by decide) rfl ?_
          refine r_aload_n C dX5_settle_41 2 rfl ?_
          refine r_getr (q2 := (Z + 2)) C dX5_settle_42 1 f_X5_15 (hZ.1) rfl ?_
          refine r_iload_n C dX5_settle_45 1 rfl ?_
          refine r_iload_n C dX5_settle_46 0 rfl ?_
          refine r_iastN (j := k) C dX5_settle_47 ((hZ).2.2.1) (rfl) (by omega) (by decide) ?_
          refine r_mem (M' := mR M Z (nI (vN V)) (upd f2 k (nI (hdF V (M (Z + 1)) k))) (f3) (f4) (f5)) (mR_s2) ?_
          refine r_aload_n C dX5_settle_48 2 rfl ?_
          refine r_getr (q2 := (Z + 4)) C dX5_settle_49 3 f_X5_21 (hZ.1) rfl ?_
          refine r_iload_n C dX5_settle_52 0 rfl ?_
          refine r_dup2 C dX5_settle_53 rfl rfl ?_
          refine r_ialdN (j := (hdF V (M (Z + 1)) k)) (v := f4 (hdF V (M (Z + 1)) k)) C dX5_settle_54 ((hZ).2.2.2.2.1) (rfl) (by omega) (by decide) (by rw [mR_4]) ?_
          refine r_iconst (v := 1) C dX5_settle_55 rfl ?_
          refine r_iadd C dX5_settle_56 ?_
          refine r_iastN (j := (hdF V (M (Z + 1)) k)) C dX5_settle_57 ((hZ).2.2.2.2.1) (rfl) (by omega) (by decide) ?_
          refine r_mem (M' := mR M Z (nI (vN V)) (upd f2 k (nI (hdF V (M (Z + 1)) k))) (f3) (upd f4 (hdF V (M (Z + 1)) k) (f4 (hdF V (M (Z + 1)) k) + 1)) (f5)) (mR_s4) ?_
          refine r_aload_n C dX5_settle_58 2 rfl ?_
          refine r_getr (q2 := (Z + 5)) C dX5_settle_59 4 f_X5_24 (hZ.1) rfl ?_
          refine r_iload_n C dX5_settle_62 0 rfl ?_
          refine r_dup2 C dX5_settle_63 rfl rfl ?_
          refine r_ialdN (j := (hdF V (M (Z + 1)) k)) (v := f5 (hdF V (M (Z + 1)) k)) C dX5_settle_64 ((hZ).2.2.2.2.2) (rfl) (by omega) (by decide) (by rw [mR_5]) ?_
          refine r_aload_n C dX5_settle_65 3 rfl ?_
          refine r_getr (q2 := 8) C dX5_settle_66 5 f_X5_50 rfl rfl ?_
          refine r_iload_n C dX5_settle_69 1 rfl ?_
          refine r_ialdN (j := k) (v := vD V 5 k) C dX5_settle_70 rfl (rfl) (by omega) (by decide) ((hVg _ _ _ _).at 5 (by decide) hlt) ?_
          refine r_iadd C dX5_settle_71 ?_
          refine r_iastN (j := (hdF V (M (Z + 1)) k)) C dX5_settle_72 ((hZ).2.2.2.2.2) (rfl) (by omega) (by decide) ?_
          refine r_mem (M' := mR M Z (nI (vN V)) (upd f2 k (nI (hdF V (M (Z + 1)) k))) (f3) (upd f4 (hdF V (M (Z + 1)) k) (f4 (hdF V (M (Z + 1)) k) + 1)) (upd f5 (hdF V (M (Z + 1)) k) (f5 (hdF V (M (Z + 1)) k) + vD V 5 k))) (mR_s5) ?_
          refine r_iinc (v := nI (k + 1)) (L' := [(2, .int (nI (k + 1))), (3, .int (nI (hdF V (M (Z + 1)) k))), (0, .ref (mA G Z)), (1, .ref (mA G 2))]) C dX5_settle_73 1 rfl (nI_inc _) (by decide) rfl ?_
          refine r_goto (tgt := 14) C dX5_settle_76 (by decide) ?_
          refine r_sub (L' := [(2, .int (nI (k + 1))), (0, .ref (mA G Z)), (1, .ref (mA G 2))]) [0, 2, 3] rfl ?_
          exact ih14 (k + 1) _ _ _ (by omega) (by omega) (fun j hj => by rcases Nat.lt_or_ge j k with q | q; (rw [upd_ne (by omega)]; exact h2 j q); (have e9 : j = k := by omega); subst e9; rw [upd_at]) (fun t ht => by unfold szR; rw [sumP_s _ hk0]; by_cases e9 : t = (hdF V (M (Z + 1)) k); (subst e9; rw [upd_at, h4 _ ht]; simp [szR, b2i]); (rw [upd_ne e9, h4 t ht]; simp [szR, b2i, Ne.symm e9])) (fun t ht => by unfold lkR; rw [sumP_s _ hk0]; by_cases e9 : t = (hdF V (M (Z + 1)) k); (subst e9; rw [upd_at, h5 _ ht]; simp [lkR]); (rw [upd_ne e9, h5 t ht]; simp [lkR, Ne.symm e9])) (by omega)
        ·
          have hm27 : ¬ M (Z + 1) k = 0 := by have h9 := of_decide_eq_true (b2i_1.mp c27); rw [mR_o (by omega)] at h9; exact h9.resolve_left (by omega)
          refine r_iload_n C dX5_settle_30 0 rfl ?_
          refine r_goto (tgt := 40) C dX5_settle_31 (by decide) ?_
          refine r_valI (y := nI (hdF V (M (Z + 1)) k)) (by rw [hdF_s V (M (Z + 1)) hk0 (hpar k hk0 hlt).2, if_neg hm27]) ?_
          refine r_istore_n (L' := [(3, .int (nI (hdF V (M (Z + 1)) k))), (2, .int (nI k)), (0, .ref (mA G Z)), (1, .ref (mA G 2))]) C dX5_settle_40 (by decide) rfl ?_
          refine r_aload_n C dX5_settle_41 2 rfl ?_
          refine r_getr (q2 := (Z + 2)) C dX5_settle_42 1 f_X5_15 (hZ.1) rfl ?_
          refine r_iload_n C dX5_settle_45 1 rfl ?_
          refine r_iload_n C dX5_settle_46 0 rfl ?_
          refine r_iastN (j := k) C dX5_settle_47 ((hZ).2.2.1) (rfl) (by omega) (by decide) ?_
          refine r_mem (M' := mR M Z (nI (vN V)) (upd f2 k (nI (hdF V (M (Z + 1)) k))) (f3) (f4) (f5)) (mR_s2) ?_
          refine r_aload_n C dX5_settle_48 2 rfl ?_
          refine r_getr (q2 := (Z + 4)) C dX5_settle_49 3 f_X5_21 (hZ.1) rfl ?_
          refine r_iload_n C dX5_settle_52 0 rfl ?_
          refine r_dup2 C dX5_settle_53 rfl rfl ?_
          refine r_ialdN (j := (hdF V (M (Z + 1)) k)) (v := f4 (hdF V (M (Z + 1)) k)) C dX5_settle_54 ((hZ).2.2.2.2.1) (rfl) (by omega) (by decide) (by rw [mR_4]) ?_
          refine r_iconst (v := 1) C dX5_settle_55 rfl ?_
          refine r_iadd C dX5_settle_56 ?_
          refine r_iastN (j := (hdF V (M (Z + 1)) k)) C dX5_settle_57 ((hZ).2.2.2.2.1) (rfl) (by omega) (by decide) ?_
          refine r_mem (M' := mR M Z (nI (vN V)) (upd f2 k (nI (hdF V (M (Z + 1)) k))) (f3) (upd f4 (hdF V (M (Z + 1)) k) (f4 (hdF V (M (Z + 1)) k) + 1)) (f5)) (mR_s4) ?_
          refine r_aload_n C dX5_settle_58 2 rfl ?_
          refine r_getr (q2 := (Z + 5)) C dX5_settle_59 4 f_X5_24 (hZ.1) rfl ?_
          refine r_iload_n C dX5_settle_62 0 rfl ?_
          refine r_dup2 C dX5_settle_63 rfl rfl ?_
          refine r_ialdN (j := (hdF V (M (Z + 1)) k)) (v := f5 (hdF V (M (Z + 1)) k)) C dX5_settle_64 ((hZ).2.2.2.2.2) (rfl) (by omega) (by decide) (by rw [mR_5]) ?_
          refine r_aload_n C dX5_settle_65 3 rfl ?_
          refine r_getr (q2 := 8) C dX5_settle_66 5 f_X5_50 rfl rfl ?_
          refine r_iload_n C dX5_settle_69 1 rfl ?_
          refine r_ialdN (j := k) (v := vD V 5 k) C dX5_settle_70 rfl (rfl) (by omega) (by decide) ((hVg _ _ _ _).at 5 (by decide) hlt) ?_
          refine r_iadd C dX5_settle_71 ?_
          refine r_iastN (j := (hdF V (M (Z + 1)) k)) C dX5_settle_72 ((hZ).2.2.2.2.2) (rfl) (by omega) (by decide) ?_
          refine r_mem (M' := mR M Z (nI (vN V)) (upd f2 k (nI (hdF V (M (Z + 1)) k))) (f3) (upd f4 (hdF V (M (Z + 1)) k) (f4 (hdF V (M (Z + 1)) k) + 1)) (upd f5 (hdF V (M (Z + 1)) k) (f5 (hdF V (M (Z + 1)) k) + vD V 5 k))) (mR_s5) ?_
          refine r_iinc (v := nI (k + 1)) (L' := [(2, .int (nI (k + 1))), (3, .int (nI (hdF V (M (Z + 1)) k))), (0, .ref (mA G Z)), (1, .ref (mA G 2))]) C dX5_settle_73 1 rfl (nI_inc _) (by decide) rfl ?_
          refine r_goto (tgt := 14) C dX5_settle_76 (by decide) ?_
          refine r_sub (L' := [(2, .int (nI (k + 1))), (0, .ref (mA G Z)), (1, .ref (mA G 2))]) [0, 2, 3] rfl ?_
          exact ih14 (k + 1) _ _ _ (by omega) (by omega) (fun j hj => by rcases Nat.lt_or_ge j k with q | q; (rw [upd_ne (by omega)]; exact h2 j q); (have e9 : j = k := by omega); subst e9; rw [upd_at]) (fun t ht => by unfold szR; rw [sumP_s _ hk0]; by_cases e9 : t = (hdF V (M (Z + 1)) k); (subst e9; rw [upd_at, h4 _ ht]; simp [szR, b2i]); (rw [upd_ne e9, h4 t ht]; simp [szR, b2i, Ne.symm e9])) (fun t ht => by unfold lkR; rw [sumP_s _ hk0]; by_cases e9 : t = (hdF V (M (Z + 1)) k); (subst e9; rw [upd_at, h5 _ ht]; simp [lkR]); (rw [upd_ne e9, h5 t ht]; simp [lkR, Ne.symm e9])) (by omega)
  refine r_sub (L' := [(2, .int (nI 1)), (0, .ref (mA G Z)), (1, .ref (mA G 2))]) [0, 1, 2] rfl ?_
  exact lp14 _ 1 f2 f4 f5 (by omega) hn1 (fun j hj => by (have e9 : j = 0 := by omega); subst e9; rw [hf2]; rfl) (fun t ht => by rw [(hf t ht).2.1]; exact (sumP_1 _).symm) (fun t ht => by rw [(hf t ht).2.2]; exact (sumP_1 _).symm) (Nat.lt_succ_self _)
