set_option maxRecDepth 20000 in
set_option maxHeartbeats 1000000 in
theorem c_X8_childMany (l : Launch) (G : mG) (hG : mInj G) (M : Mem) (g : Glo) (V : View) (hW : wfV V) (hV : rV (M 108) V) (j : Nat) (hj : j < vN V) : mcI l G yX8_childMany cX8_childMany 4 .int 2 [.ref (mA G 107), .int (nI j)] M g (fun r M' g' => r = sumP (fun k => b2i (decide (vD V 0 k = nI j))) (vN V) ∧ M' = M ∧ g' = g) := by
  refine mcI_of (L0 := [(0, .ref (mA G 107)), (1, .int (nI j))]) hG (by decide) (Nat.le_of_ble_eq_true rfl) rfl ?_
  intro p e s m args below meth c Q C hend
  have hT := hW.1
  obtain ⟨hn1, hn16, hb4, ⟨hd0, hd3, hd5, hd6⟩, hpar⟩ := id hT
  refine r_iconst (v := 0) C dX8_childMany_0 rfl ?_
  refine r_istore_n (L' := [(2, .int 0), (0, .ref (mA G 107)), (1, .int (nI j))]) C dX8_childMany_1 (by decide) rfl ?_
  refine r_iconst (v := nI 1) C dX8_childMany_2 rfl ?_
  refine r_istore_n (L' := [(3, .int (nI 1)), (2, .int 0), (0, .ref (mA G 107)), (1, .int (nI j))]) C dX8_childMany_3 (by decide) rfl ?_
  have lp4 : ∀ (fu : Nat) (k : Nat) (a : Int32), (0 < k) → (k ≤ vN V) → (a = sumP (fun k => b2i (decide (vD V 0 k = nI j))) k) → (vN V - k) < fu → At p l e (rmD 2 0 0) s m args below meth c G 4 0 0 Q M g [(3, .int (nI k)), (2, .int a), (0, .ref (mA G 107)), (1, .int (nI j))] 4 [] := by
    intro fu
    induction fu with
    | zero => intro k a hk0 hkn ha hfu; exact absurd hfu (Nat.not_lt_zero _)
    | succ fu ih4 =>
      intro k a hk0 hkn ha hfu4
      refine r_iload_n C dX8_childMany_4 0 rfl ?_
      refine r_aload_n C dX8_childMany_5 2 rfl ?_
      refine r_getr (q2 := 108) C dX8_childMany_6 0 f_X8_7 rfl rfl ?_
      refine r_iconst (v := 5) C dX8_childMany_9 rfl ?_
      refine r_ialdN (j := 5) (v := nI (vN V)) C dX8_childMany_10 rfl (rfl) (by omega) (by decide) (hV.1.1) ?_
      refine r_icmp_ge (tgt := 38) C dX8_childMany_11 (by decide) (fun c11 => ?_) (fun c11 => ?_)
      ·
        have hkn2 : k = vN V := by have := le_of_le (by omega) (by omega) c11; omega
        refine r_iload_n C dX8_childMany_38 1 rfl ?_
        exact hend _ _ _ _ _ dX8_childMany_39 (rfl) (⟨by rw [ha, hkn2], rfl, rfl⟩)
      ·
        have hlt : k < vN V := lt_of_nle (by omega) c11
        refine r_iload_n C dX8_childMany_14 1 rfl ?_
        refine r_aload_n C dX8_childMany_15 2 rfl ?_
        refine r_iload_n C dX8_childMany_16 0 rfl ?_
        refine r_iconst (v := 0) C dX8_childMany_17 rfl ?_
        refine r_callVI (As := [.int (nI k), .int 0]) (rest := [.int a]) C dX8_childMany_18 s_X8_48 (c_X8_of l G hG M g V hW hV k hlt 0 (by decide)) (by decide) rfl rfl rfl rfl (Nat.le_of_ble_eq_true rfl) (Nat.le_of_ble_eq_true rfl) (Nat.le_of_ble_eq_true rfl) (pk_I ?_)
        refine r_iload_n C dX8_childMany_21 3 rfl ?_
        refine r_icmp_ne (tgt := 29) C dX8_childMany_22 (by decide) (fun c22 => ?_) (fun c22 => ?_)
        ·
          refine r_iconst (v := 0) C dX8_childMany_29 rfl ?_
          refine r_iadd C dX8_childMany_30 ?_
          refine r_istore_n (L' := [(2, .int (a + 0)), (3, .int (nI k)), (0, .ref (mA G 107)), (1, .int (nI j))]) C dX8_childMany_31 (by decide) rfl ?_
          refine r_iinc (v := nI (k + 1)) (L' := [(3, .int (nI (k + 1))), (2, .int (a + 0)), (0, .ref (mA G 107)), (1, .int (nI j))]) C dX8_childMany_32 1 rfl (nI_inc _) (by decide) rfl ?_
          refine r_goto (tgt := 4) C dX8_childMany_35 (by decide) ?_
          refine r_sub (L' := [(3, .int (nI (k + 1))), (2, .int (a + 0)), (0, .ref (mA G 107)), (1, .int (nI j))]) [0, 1, 2, 3] rfl ?_
          exact ih4 (k + 1) _ (by omega) (by omega) (by rw [ha, sumP_s _ hk0]; show sumP _ k + 0 = sumP _ k + b2i (decide (vD V 0 k = nI j)); rw [decide_eq_false c22]; rfl) (by omega)
        ·
          refine r_iconst (v := 1) C dX8_childMany_25 rfl ?_
          refine r_goto (tgt := 30) C dX8_childMany_26 (by decide) ?_
          refine r_iadd C dX8_childMany_30 ?_
          refine r_istore_n (L' := [(2, .int (a + 1)), (3, .int (nI k)), (0, .ref (mA G 107)), (1, .int (nI j))]) C dX8_childMany_31 (by decide) rfl ?_
          refine r_iinc (v := nI (k + 1)) (L' := [(3, .int (nI (k + 1))), (2, .int (a + 1)), (0, .ref (mA G 107)), (1, .int (nI j))]) C dX8_childMany_32 1 rfl (nI_inc _) (by decide) rfl ?_
          refine r_goto (tgt := 4) C dX8_childMany_35 (by decide) ?_
          refine r_sub (L' := [(3, .int (nI (k + 1))), (2, .int (a + 1)), (0, .ref (mA G 107)), (1, .int (nI j))]) [0, 1, 2, 3] rfl ?_
          exact ih4 (k + 1) _ (by omega) (by omega) (by rw [ha, sumP_s _ hk0]; show sumP _ k + 1 = sumP _ k + b2i (decide (vD V 0 k = nI j)); rw [decide_eq_true c22]; rfl) (by omega)
  refine r_sub (L' := [(3, .int (nI 1)), (2, .int 0), (0, .ref (mA G 107)), (1, .int (nI j))]) [0, 1, 2, 3] rfl ?_
  exact lp4 _ 1 0 (by omega) hn1 (sumP_1 _).symm (Nat.lt_succ_self _)

set_option maxRecDepth 20000 in
set_option maxHeartbeats 1000000 in
theorem c_X8_branchMany (l : Launch) (G : mG) (hG : mInj G) (M : Mem) (g : Glo) (V : View) (hW : wfV V) (hV : rV (M 108) V) (j : Nat) (hj : j < vN V) : mcI l G yX8_branchMany cX8_branchMany 4 .int 3 [.ref (mA G 107), .int (nI j)] M g (fun r M' g' => r = sumA (fun t => b2i (belF V j t)) (vN V) ∧ M' = M ∧ g' = g) := by
  refine mcI_of (L0 := [(0, .ref (mA G 107)), (1, .int (nI j))]) hG (by decide) (Nat.le_of_ble_eq_true rfl) rfl ?_
  intro p e s m args below meth c Q C hend
  have hT := hW.1
  obtain ⟨hn1, hn16, hb4, ⟨hd0, hd3, hd5, hd6⟩, hpar⟩ := id hT
  refine r_iconst (v := 0) C dX8_branchMany_0 rfl ?_
  refine r_istore_n (L' := [(2, .int 0), (0, .ref (mA G 107)), (1, .int (nI j))]) C dX8_branchMany_1 (by decide) rfl ?_
  refine r_iconst (v := nI 0) C dX8_branchMany_2 rfl ?_
  refine r_istore_n (L' := [(3, .int (nI 0)), (2, .int 0), (0, .ref (mA G 107)), (1, .int (nI j))]) C dX8_branchMany_3 (by decide) rfl ?_
  have lp4 : ∀ (fu : Nat) (k : Nat) (a : Int32), (k ≤ vN V) → (a = sumA (fun t => b2i (belF V j t)) k) → (vN V - k) < fu → At p l e (rmD 3 0 0) s m args below meth c G 4 0 0 Q M g [(3, .int (nI k)), (2, .int a), (0, .ref (mA G 107)), (1, .int (nI j))] 4 [] := by
    intro fu
    induction fu with
    | zero => intro k a hkn ha hfu; exact absurd hfu (Nat.not_lt_zero _)
    | succ fu ih4 =>
      intro k a hkn ha hfu4
      refine r_iload_n C dX8_branchMany_4 0 rfl ?_
      refine r_aload_n C dX8_branchMany_5 2 rfl ?_
      refine r_getr (q2 := 108) C dX8_branchMany_6 0 f_X8_7 rfl rfl ?_
      refine r_iconst (v := 5) C dX8_branchMany_9 rfl ?_
      refine r_ialdN (j := 5) (v := nI (vN V)) C dX8_branchMany_10 rfl (rfl) (by omega) (by decide) (hV.1.1) ?_
      refine r_icmp_ge (tgt := 37) C dX8_branchMany_11 (by decide) (fun c11 => ?_) (fun c11 => ?_)
      ·
        have hkn2 : k = vN V := by have := le_of_le (by omega) (by omega) c11; omega
        refine r_iload_n C dX8_branchMany_37 1 rfl ?_
        exact hend _ _ _ _ _ dX8_branchMany_38 (rfl) (⟨by rw [ha, hkn2], rfl, rfl⟩)
      ·
        have hlt : k < vN V := lt_of_nle (by omega) c11
        refine r_iload_n C dX8_branchMany_14 1 rfl ?_
        refine r_aload_n C dX8_branchMany_15 2 rfl ?_
        refine r_iload_n C dX8_branchMany_16 0 rfl ?_
        refine r_iload_n C dX8_branchMany_17 3 rfl ?_
        refine r_callVI (As := [.int (nI k), .int (nI j)]) (rest := [.int a]) C dX8_branchMany_18 s_X8_117 (c_X8_isBelow l G hG M g V hW hV k j hlt hj) (by decide) rfl rfl rfl rfl (Nat.le_of_ble_eq_true rfl) (Nat.le_of_ble_eq_true rfl) (Nat.le_of_ble_eq_true rfl) (pk_I ?_)
        refine r_if_eq (tgt := 28) C dX8_branchMany_21 (by decide) (fun c21 => ?_) (fun c21 => ?_)
        ·
          refine r_iconst (v := 0) C dX8_branchMany_28 rfl ?_
          refine r_iadd C dX8_branchMany_29 ?_
          refine r_istore_n (L' := [(2, .int (a + 0)), (3, .int (nI k)), (0, .ref (mA G 107)), (1, .int (nI j))]) C dX8_branchMany_30 (by decide) rfl ?_
          refine r_iinc (v := nI (k + 1)) (L' := [(3, .int (nI (k + 1))), (2, .int (a + 0)), (0, .ref (mA G 107)), (1, .int (nI j))]) C dX8_branchMany_31 1 rfl (nI_inc _) (by decide) rfl ?_
          refine r_goto (tgt := 4) C dX8_branchMany_34 (by decide) ?_
          refine r_sub (L' := [(3, .int (nI (k + 1))), (2, .int (a + 0)), (0, .ref (mA G 107)), (1, .int (nI j))]) [0, 1, 2, 3] rfl ?_
          exact ih4 (k + 1) _ (by omega) (by rw [ha]; show sumA _ k + 0 = sumA _ k + b2i (belF V j k); rw [c21]) (by omega)
        ·
          refine r_iconst (v := 1) C dX8_branchMany_24 rfl ?_
          refine r_goto (tgt := 29) C dX8_branchMany_25 (by decide) ?_
          refine r_iadd C dX8_branchMany_29 ?_
          refine r_istore_n (L' := [(2, .int (a + 1)), (3, .int (nI k)), (0, .ref (mA G 107)), (1, .int (nI j))]) C dX8_branchMany_30 (by decide) rfl ?_
          refine r_iinc (v := nI (k + 1)) (L' := [(3, .int (nI (k + 1))), (2, .int (a + 1)), (0, .ref (mA G 107)), (1, .int (nI j))]) C dX8_branchMany_31 1 rfl (nI_inc _) (by decide) rfl ?_
          refine r_goto (tgt := 4) C dX8_branchMany_34 (by decide) ?_
          refine r_sub (L' := [(3, .int (nI (k + 1))), (2, .int (a + 1)), (0, .ref (mA G 107)), (1, .int (nI j))]) [0, 1, 2, 3] rfl ?_
          exact ih4 (k + 1) _ (by omega) (by rw [ha]; show sumA _ k + 1 = sumA _ k + b2i (belF V j k); rw [b2i_1.mp c21]; rw [show b2i true = 1 from rfl]) (by omega)
  refine r_sub (L' := [(3, .int (nI 0)), (2, .int 0), (0, .ref (mA G 107)), (1, .int (nI j))]) [0, 1, 2, 3] rfl ?_
  exact lp4 _ 0 0 (by omega) rfl (Nat.lt_succ_self _)

set_option maxRecDepth 20000 in
set_option maxHeartbeats 1000000 in
theorem c_X8_balanceOf (l : Launch) (G : mG) (hG : mInj G) (M : Mem) (g : Glo) (V : View) (hW : wfV V) (hV : rV (M 108) V) (j : Nat) (hj : j < vN V) : mcI l G yX8_balanceOf cX8_balanceOf 4 .int 3 [.ref (mA G 107), .int (nI j)] M g (fun r M' g' => r = balF (vD V 6) (lkF V (vD V 6)) j ∧ M' = M ∧ g' = g) := by
  refine mcI_of (L0 := [(0, .ref (mA G 107)), (1, .int (nI j))]) hG (by decide) (Nat.le_of_ble_eq_true rfl) rfl ?_
  intro p e s m args below meth c Q C hend
  have hT := hW.1
  obtain ⟨hn1, hn16, hb4, ⟨hd0, hd3, hd5, hd6⟩, hpar⟩ := id hT
  refine r_aload_n C dX8_balanceOf_0 0 rfl ?_
  refine r_iload_n C dX8_balanceOf_1 1 rfl ?_
  refine r_callVI (As := [.int (nI j)]) (rest := []) C dX8_balanceOf_2 s_X8_154 (c_X8_hasMeter l G hG M g V hW hV j hj) (by decide) rfl rfl rfl rfl (Nat.le_of_ble_eq_true rfl) (Nat.le_of_ble_eq_true rfl) (Nat.le_of_ble_eq_true rfl) (fun r2 M2 g2 hp2 => ?_)
  obtain ⟨hy2, eM2, eg2⟩ := hp2
  rw [eg2]
  rw [eM2]
  refine r_if_ne (tgt := 10) C dX8_balanceOf_5 (by decide) (fun c5 => ?_) (fun c5 => ?_)
  ·
    refine r_iconst (v := 0) C dX8_balanceOf_10 rfl ?_
    refine r_istore_n (L' := [(2, .int 0), (0, .ref (mA G 107)), (1, .int (nI j))]) C dX8_balanceOf_11 (by decide) rfl ?_
    refine r_iconst (v := nI 1) C dX8_balanceOf_12 rfl ?_
    refine r_istore_n (L' := [(3, .int (nI 1)), (2, .int 0), (0, .ref (mA G 107)), (1, .int (nI j))]) C dX8_balanceOf_13 (by decide) rfl ?_
    have lp14 : ∀ (fu : Nat) (k : Nat) (a : Int32), (0 < k) → (k ≤ vN V) → (a = lkR V (vD V 6) k j) → (vN V - k) < fu → At p l e (rmD 3 0 0) s m args below meth c G 4 0 0 Q M g [(3, .int (nI k)), (2, .int a), (0, .ref (mA G 107)), (1, .int (nI j))] 14 [] := by
      intro fu
      induction fu with
      | zero => intro k a hk0 hkn ha hfu; exact absurd hfu (Nat.not_lt_zero _)
      | succ fu ih14 =>
        intro k a hk0 hkn ha hfu14
        refine r_iload_n C dX8_balanceOf_14 0 rfl ?_
        refine r_aload_n C dX8_balanceOf_15 2 rfl ?_
        refine r_getr (q2 := 108) C dX8_balanceOf_16 0 f_X8_7 rfl rfl ?_
        refine r_iconst (v := 5) C dX8_balanceOf_19 rfl ?_
        refine r_ialdN (j := 5) (v := nI (vN V)) C dX8_balanceOf_20 rfl (rfl) (by omega) (by decide) (hV.1.1) ?_
        refine r_icmp_ge (tgt := 52) C dX8_balanceOf_21 (by decide) (fun c21 => ?_) (fun c21 => ?_)
        ·
          have hkn2 : k = vN V := by have := le_of_le (by omega) (by omega) c21; omega
          refine r_iload_n C dX8_balanceOf_52 1 rfl ?_
          exact hend _ _ _ _ _ dX8_balanceOf_53 (rfl) (⟨by rw [ha, hkn2]; exact (if_pos (hy2.t c5)).symm, rfl, rfl⟩)
        ·
          have hlt : k < vN V := lt_of_nle (by omega) c21
          have hdl := hdF_le hT (vD V 6) k k (Nat.le_refl _) hlt
          refine r_iload_n C dX8_balanceOf_24 1 rfl ?_
          refine r_aload_n C dX8_balanceOf_25 2 rfl ?_
          refine r_iload_n C dX8_balanceOf_26 0 rfl ?_
          refine r_callVI (As := [.int (nI k)]) (rest := [.int a]) C dX8_balanceOf_27 s_X8_157 (c_X8_meterAt l G hG M g V hW hV k hlt) (by decide) rfl rfl rfl rfl (Nat.le_of_ble_eq_true rfl) (Nat.le_of_ble_eq_true rfl) (Nat.le_of_ble_eq_true rfl) (pk_I ?_)
          refine r_iload_n C dX8_balanceOf_30 3 rfl ?_
          refine r_icmp_ne (tgt := 43) C dX8_balanceOf_31 (by decide) (fun c31 => ?_) (fun c31 => ?_)
          ·
            refine r_iconst (v := 0) C dX8_balanceOf_43 rfl ?_
            refine r_iadd C dX8_balanceOf_44 ?_
            refine r_istore_n (L' := [(2, .int (a + 0)), (3, .int (nI k)), (0, .ref (mA G 107)), (1, .int (nI j))]) C dX8_balanceOf_45 (by decide) rfl ?_
            refine r_iinc (v := nI (k + 1)) (L' := [(3, .int (nI (k + 1))), (2, .int (a + 0)), (0, .ref (mA G 107)), (1, .int (nI j))]) C dX8_balanceOf_46 1 rfl (nI_inc _) (by decide) rfl ?_
            refine r_goto (tgt := 14) C dX8_balanceOf_49 (by decide) ?_
            refine r_sub (L' := [(3, .int (nI (k + 1))), (2, .int (a + 0)), (0, .ref (mA G 107)), (1, .int (nI j))]) [0, 1, 2, 3] rfl ?_
            exact ih14 (k + 1) _ (by omega) (by omega) (by rw [ha]; unfold lkR; rw [sumP_s _ hk0]; show sumP _ k + 0 = sumP _ k + (if hdF V (vD V 6) k = j then vD V 5 k else 0); rw [if_neg (fun z => c31 (by rw [z]))]) (by omega)
          ·
            refine r_aload_n C dX8_balanceOf_34 2 rfl ?_
            refine r_iload_n C dX8_balanceOf_35 0 rfl ?_
            refine r_iconst (v := 5) C dX8_balanceOf_36 rfl ?_
            refine r_callVI (As := [.int (nI k), .int 5]) (rest := [.int a]) C dX8_balanceOf_37 s_X8_48 (c_X8_of l G hG M g V hW hV k hlt 5 (by decide)) (by decide) rfl rfl rfl rfl (Nat.le_of_ble_eq_true rfl) (Nat.le_of_ble_eq_true rfl) (Nat.le_of_ble_eq_true rfl) (pk_I ?_)
            refine r_goto (tgt := 44) C dX8_balanceOf_40 (by decide) ?_
            refine r_iadd C dX8_balanceOf_44 ?_
            refine r_istore_n (L' := [(2, .int (a + (vD V 5 k))), (3, .int (nI k)), (0, .ref (mA G 107)), (1, .int (nI j))]) C dX8_balanceOf_45 (by decide) rfl ?_
            refine r_iinc (v := nI (k + 1)) (L' := [(3, .int (nI (k + 1))), (2, .int (a + (vD V 5 k))), (0, .ref (mA G 107)), (1, .int (nI j))]) C dX8_balanceOf_46 1 rfl (nI_inc _) (by decide) rfl ?_
            refine r_goto (tgt := 14) C dX8_balanceOf_49 (by decide) ?_
            refine r_sub (L' := [(3, .int (nI (k + 1))), (2, .int (a + (vD V 5 k))), (0, .ref (mA G 107)), (1, .int (nI j))]) [0, 1, 2, 3] rfl ?_
            exact ih14 (k + 1) _ (by omega) (by omega) (by rw [ha]; unfold lkR; rw [sumP_s _ hk0]; show sumP _ k + vD V 5 k = sumP _ k + (if hdF V (vD V 6) k = j then vD V 5 k else 0); rw [if_pos ((nI_eq (by omega) (by omega)).mp c31)]) (by omega)
    refine r_sub (L' := [(3, .int (nI 1)), (2, .int 0), (0, .ref (mA G 107)), (1, .int (nI j))]) [0, 1, 2, 3] rfl ?_
    exact lp14 _ 1 0 (by omega) hn1 (sumP_1 _).symm (Nat.lt_succ_self _)
  ·
    refine r_iconst (v := (-1)) C dX8_balanceOf_8 rfl ?_
    exact hend _ _ _ _ _ dX8_balanceOf_9 (rfl) (⟨(if_neg (hy2.f c5)).symm, rfl, rfl⟩)

set_option maxRecDepth 20000 in
set_option maxHeartbeats 1000000 in
theorem c_X8_regionOf (l : Launch) (G : mG) (hG : mInj G) (M : Mem) (g : Glo) (V : View) (hW : wfV V) (hV : rV (M 108) V) (j : Nat) (hj : j < vN V) : mcI l G yX8_regionOf cX8_regionOf 4 .int 3 [.ref (mA G 107), .int (nI j)] M g (fun r M' g' => r = balF (vD V 6) (szF V (vD V 6)) j ∧ M' = M ∧ g' = g) := by
  refine mcI_of (L0 := [(0, .ref (mA G 107)), (1, .int (nI j))]) hG (by decide) (Nat.le_of_ble_eq_true rfl) rfl ?_
  intro p e s m args below meth c Q C hend
  have hT := hW.1
  obtain ⟨hn1, hn16, hb4, ⟨hd0, hd3, hd5, hd6⟩, hpar⟩ := id hT
  refine r_aload_n C dX8_regionOf_0 0 rfl ?_
  refine r_iload_n C dX8_regionOf_1 1 rfl ?_
  refine r_callVI (As := [.int (nI j)]) (rest := []) C dX8_regionOf_2 s_X8_154 (c_X8_hasMeter l G hG M g V hW hV j hj) (by decide) rfl rfl rfl rfl (Nat.le_of_ble_eq_true rfl) (Nat.le_of_ble_eq_true rfl) (Nat.le_of_ble_eq_true rfl) (fun r2 M2 g2 hp2 => ?_)
  obtain ⟨hy2, eM2, eg2⟩ := hp2
  rw [eg2]
  rw [eM2]
  refine r_if_ne (tgt := 10) C dX8_regionOf_5 (by decide) (fun c5 => ?_) (fun c5 => ?_)
  ·
    refine r_iconst (v := 0) C dX8_regionOf_10 rfl ?_
    refine r_istore_n (L' := [(2, .int 0), (0, .ref (mA G 107)), (1, .int (nI j))]) C dX8_regionOf_11 (by decide) rfl ?_
    refine r_iconst (v := nI 1) C dX8_regionOf_12 rfl ?_
    refine r_istore_n (L' := [(3, .int (nI 1)), (2, .int 0), (0, .ref (mA G 107)), (1, .int (nI j))]) C dX8_regionOf_13 (by decide) rfl ?_
    have lp14 : ∀ (fu : Nat) (k : Nat) (a : Int32), (0 < k) → (k ≤ vN V) → (a = szR V (vD V 6) k j) → (vN V - k) < fu → At p l e (rmD 3 0 0) s m args below meth c G 4 0 0 Q M g [(3, .int (nI k)), (2, .int a), (0, .ref (mA G 107)), (1, .int (nI j))] 14 [] := by
      intro fu
      induction fu with
      | zero => intro k a hk0 hkn ha hfu; exact absurd hfu (Nat.not_lt_zero _)
      | succ fu ih14 =>
        intro k a hk0 hkn ha hfu14
        refine r_iload_n C dX8_regionOf_14 0 rfl ?_
        refine r_aload_n C dX8_regionOf_15 2 rfl ?_
        refine r_getr (q2 := 108) C dX8_regionOf_16 0 f_X8_7 rfl rfl ?_
        refine r_iconst (v := 5) C dX8_regionOf_19 rfl ?_
        refine r_ialdN (j := 5) (v := nI (vN V)) C dX8_regionOf_20 rfl (rfl) (by omega) (by decide) (hV.1.1) ?_
        refine r_icmp_ge (tgt := 47) C dX8_regionOf_21 (by decide) (fun c21 => ?_) (fun c21 => ?_)
        ·
          have hkn2 : k = vN V := by have := le_of_le (by omega) (by omega) c21; omega
          refine r_iload_n C dX8_regionOf_47 1 rfl ?_
          exact hend _ _ _ _ _ dX8_regionOf_48 (rfl) (⟨by rw [ha, hkn2]; exact (if_pos (hy2.t c5)).symm, rfl, rfl⟩)
        ·
          have hlt : k < vN V := lt_of_nle (by omega) c21
          have hdl := hdF_le hT (vD V 6) k k (Nat.le_refl _) hlt
          refine r_iload_n C dX8_regionOf_24 1 rfl ?_
          refine r_aload_n C dX8_regionOf_25 2 rfl ?_
          refine r_iload_n C dX8_regionOf_26 0 rfl ?_
          refine r_callVI (As := [.int (nI k)]) (rest := [.int a]) C dX8_regionOf_27 s_X8_157 (c_X8_meterAt l G hG M g V hW hV k hlt) (by decide) rfl rfl rfl rfl (Nat.le_of_ble_eq_true rfl) (Nat.le_of_ble_eq_true rfl) (Nat.le_of_ble_eq_true rfl) (pk_I ?_)
          refine r_iload_n C dX8_regionOf_30 3 rfl ?_
          refine r_icmp_ne (tgt := 38) C dX8_regionOf_31 (by decide) (fun c31 => ?_) (fun c31 => ?_)
          ·
            refine r_iconst (v := 0) C dX8_regionOf_38 rfl ?_
            refine r_iadd C dX8_regionOf_39 ?_
            refine r_istore_n (L' := [(2, .int (a + 0)), (3, .int (nI k)), (0, .ref (mA G 107)), (1, .int (nI j))]) C dX8_regionOf_40 (by decide) rfl ?_
            refine r_iinc (v := nI (k + 1)) (L' := [(3, .int (nI (k + 1))), (2, .int (a + 0)), (0, .ref (mA G 107)), (1, .int (nI j))]) C dX8_regionOf_41 1 rfl (nI_inc _) (by decide) rfl ?_
            refine r_goto (tgt := 14) C dX8_regionOf_44 (by decide) ?_
            refine r_sub (L' := [(3, .int (nI (k + 1))), (2, .int (a + 0)), (0, .ref (mA G 107)), (1, .int (nI j))]) [0, 1, 2, 3] rfl ?_
            exact ih14 (k + 1) _ (by omega) (by omega) (by rw [ha]; unfold szR; rw [sumP_s _ hk0]; show sumP _ k + 0 = sumP _ k + b2i (decide (hdF V (vD V 6) k = j)); rw [decide_eq_false (fun z => c31 (by rw [z])), show b2i false = 0 from rfl]) (by omega)
          ·
            refine r_iconst (v := 1) C dX8_regionOf_34 rfl ?_
            refine r_goto (tgt := 39) C dX8_regionOf_35 (by decide) ?_
            refine r_iadd C dX8_regionOf_39 ?_
            refine r_istore_n (L' := [(2, .int (a + 1)), (3, .int (nI k)), (0, .ref (mA G 107)), (1, .int (nI j))]) C dX8_regionOf_40 (by decide) rfl ?_
            refine r_iinc (v := nI (k + 1)) (L' := [(3, .int (nI (k + 1))), (2, .int (a + 1)), (0, .ref (mA G 107)), (1, .int (nI j))]) C dX8_regionOf_41 1 rfl (nI_inc _) (by decide) rfl ?_
            refine r_goto (tgt := 14) C dX8_regionOf_44 (by decide) ?_
            refine r_sub (L' := [(3, .int (nI (k + 1))), (2, .int (a + 1)), (0, .ref (mA G 107)), (1, .int (nI j))]) [0, 1, 2, 3] rfl ?_
            exact ih14 (k + 1) _ (by omega) (by omega) (by rw [ha]; unfold szR; rw [sumP_s _ hk0]; show sumP _ k + 1 = sumP _ k + b2i (decide (hdF V (vD V 6) k = j)); rw [decide_eq_true ((nI_eq (by omega) (by omega)).mp c31), show b2i true = 1 from rfl]) (by omega)
    refine r_sub (L' := [(3, .int (nI 1)), (2, .int 0), (0, .ref (mA G 107)), (1, .int (nI j))]) [0, 1, 2, 3] rfl ?_
    exact lp14 _ 1 0 (by omega) hn1 (sumP_1 _).symm (Nat.lt_succ_self _)
  ·
    refine r_iconst (v := (-1)) C dX8_regionOf_8 rfl ?_
    exact hend _ _ _ _ _ dX8_regionOf_9 (rfl) (⟨(if_neg (hy2.f c5)).symm, rfl, rfl⟩)

set_option maxRecDepth 20000 in
set_option maxHeartbeats 1000000 in
theorem c_X8_suspectMany (l : Launch) (G : mG) (hG : mInj G) (M : Mem) (g : Glo) (V : View) (hW : wfV V) (hV : rV (M 108) V) : mcI l G yX8_suspectMany cX8_suspectMany 3 .int 4 [.ref (mA G 107)] M g (fun r M' g' => r = susF V (vD V 6) ∧ M' = M ∧ g' = g) := by
  refine mcI_of (L0 := [(0, .ref (mA G 107))]) hG (by decide) (Nat.le_of_ble_eq_true rfl) rfl ?_
  intro p e s m args below meth c Q C hend
  have hT := hW.1
  obtain ⟨hn1, hn16, hb4, ⟨hd0, hd3, hd5, hd6⟩, hpar⟩ := id hT
  refine r_iconst (v := 0) C dX8_suspectMany_0 rfl ?_
  refine r_istore_n (L' := [(1, .int 0), (0, .ref (mA G 107))]) C dX8_suspectMany_1 (by decide) rfl ?_
  refine r_iconst (v := nI 0) C dX8_suspectMany_2 rfl ?_
  refine r_istore_n (L' := [(2, .int (nI 0)), (1, .int 0), (0, .ref (mA G 107))]) C dX8_suspectMany_3 (by decide) rfl ?_
  have lp4 : ∀ (fu : Nat) (k : Nat) (a : Int32), (k ≤ vN V) → (a = sumA (fun j => b2i (decide (0 < balF (vD V 6) (lkF V (vD V 6)) j))) k) → (vN V - k) < fu → At p l e (rmD 4 0 0) s m args below meth c G 3 0 0 Q M g [(2, .int (nI k)), (1, .int a), (0, .ref (mA G 107))] 4 [] := by
    intro fu
    induction fu with
    | zero => intro k a hkn ha hfu; exact absurd hfu (Nat.not_lt_zero _)
    | succ fu ih4 =>
      intro k a hkn ha hfu4
      refine r_iload_n C dX8_suspectMany_4 0 rfl ?_
      refine r_aload_n C dX8_suspectMany_5 2 rfl ?_
      refine r_getr (q2 := 108) C dX8_suspectMany_6 0 f_X8_7 rfl rfl ?_
      refine r_iconst (v := 5) C dX8_suspectMany_9 rfl ?_
      refine r_ialdN (j := 5) (v := nI (vN V)) C dX8_suspectMany_10 rfl (rfl) (by omega) (by decide) (hV.1.1) ?_
      refine r_icmp_ge (tgt := 36) C dX8_suspectMany_11 (by decide) (fun c11 => ?_) (fun c11 => ?_)
      ·
        have hkn2 : k = vN V := by have := le_of_le (by omega) (by omega) c11; omega
        refine r_iload_n C dX8_suspectMany_36 1 rfl ?_
        exact hend _ _ _ _ _ dX8_suspectMany_37 (rfl) (⟨by rw [ha, hkn2]; rfl, rfl, rfl⟩)
      ·
        have hlt : k < vN V := lt_of_nle (by omega) c11
        refine r_iload_n C dX8_suspectMany_14 1 rfl ?_
        refine r_aload_n C dX8_suspectMany_15 2 rfl ?_
        refine r_iload_n C dX8_suspectMany_16 0 rfl ?_
        refine r_callVI (As := [.int (nI k)]) (rest := [.int a]) C dX8_suspectMany_17 s_X8_160 (c_X8_balanceOf l G hG M g V hW hV k hlt) (by decide) rfl rfl rfl rfl (Nat.le_of_ble_eq_true rfl) (Nat.le_of_ble_eq_true rfl) (Nat.le_of_ble_eq_true rfl) (pk_I ?_)
        refine r_if_le (tgt := 27) C dX8_suspectMany_20 (by decide) (fun c20 => ?_) (fun c20 => ?_)
        ·
          refine r_iconst (v := 0) C dX8_suspectMany_27 rfl ?_
          refine r_iadd C dX8_suspectMany_28 ?_
          refine r_istore_n (L' := [(1, .int (a + 0)), (2, .int (nI k)), (0, .ref (mA G 107))]) C dX8_suspectMany_29 (by decide) rfl ?_
          refine r_iinc (v := nI (k + 1)) (L' := [(2, .int (nI (k + 1))), (1, .int (a + 0)), (0, .ref (mA G 107))]) C dX8_suspectMany_30 1 rfl (nI_inc _) (by decide) rfl ?_
          refine r_goto (tgt := 4) C dX8_suspectMany_33 (by decide) ?_
          refine r_sub (L' := [(2, .int (nI (k + 1))), (1, .int (a + 0)), (0, .ref (mA G 107))]) [0, 1, 2] rfl ?_
          exact ih4 (k + 1) _ (by omega) (by rw [ha]; show sumA _ k + 0 = sumA _ k + b2i (decide (0 < balF (vD V 6) (lkF V (vD V 6)) k)); rw [decide_eq_false (i32_nlt.mpr c20), show b2i false = 0 from rfl]) (by omega)
        ·
          refine r_iconst (v := 1) C dX8_suspectMany_23 rfl ?_
          refine r_goto (tgt := 28) C dX8_suspectMany_24 (by decide) ?_
          refine r_iadd C dX8_suspectMany_28 ?_
          refine r_istore_n (L' := [(1, .int (a + 1)), (2, .int (nI k)), (0, .ref (mA G 107))]) C dX8_suspectMany_29 (by decide) rfl ?_
          refine r_iinc (v := nI (k + 1)) (L' := [(2, .int (nI (k + 1))), (1, .int (a + 1)), (0, .ref (mA G 107))]) C dX8_suspectMany_30 1 rfl (nI_inc _) (by decide) rfl ?_
          refine r_goto (tgt := 4) C dX8_suspectMany_33 (by decide) ?_
          refine r_sub (L' := [(2, .int (nI (k + 1))), (1, .int (a + 1)), (0, .ref (mA G 107))]) [0, 1, 2] rfl ?_
          exact ih4 (k + 1) _ (by omega) (by rw [ha]; show sumA _ k + 1 = sumA _ k + b2i (decide (0 < balF (vD V 6) (lkF V (vD V 6)) k)); rw [decide_eq_true (i32_nle.mp c20), show b2i true = 1 from rfl]) (by omega)
  refine r_sub (L' := [(2, .int (nI 0)), (1, .int 0), (0, .ref (mA G 107))]) [0, 1, 2] rfl ?_
  exact lp4 _ 0 0 (by omega) rfl (Nat.lt_succ_self _)
