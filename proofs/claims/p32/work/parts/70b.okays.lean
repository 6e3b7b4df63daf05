set_option maxRecDepth 20000 in
set_option maxHeartbeats 1000000 in
theorem c_X7_requireNode_ok (l : Launch) (G : mG) (hG : mInj G) (M : Mem) (g : Glo) (V : View) (hn : vN V ≤ 16) (hcnt : M 2 8 = nI (vN V)) (j : Nat) (hj : j < vN V) : mcV l G yX7_requireNode cX7_requireNode 2 1 [.ref (mA G 0), .int (nI j)] M g (fun M' g' => M' = M ∧ g' = g) := by
  refine mcV_of (L0 := [(0, .ref (mA G 0)), (1, .int (nI j))]) hG (by decide) (Nat.le_of_ble_eq_true rfl) rfl ?_
  intro p e s m args below meth c Q C hend
  refine r_iload_n C dX7_requireNode_0 1 rfl ?_
  refine r_if_lt (tgt := 18) C dX7_requireNode_1 (by decide) (fun h => absurd h (nI_pos (by omega))) (fun _ => ?_)
  refine r_iload_n C dX7_requireNode_4 1 rfl ?_
  refine r_aload_n C dX7_requireNode_5 0 rfl ?_
  refine r_getr (q2 := 1) C dX7_requireNode_6 0 f_X7_10 rfl rfl ?_
  refine r_getr (q2 := 2) C dX7_requireNode_9 0 f_X7_72 rfl rfl ?_
  refine r_geti C dX7_requireNode_12 8 f_X7_75 rfl rfl ?_
  refine r_valI (y := nI (vN V)) (hcnt) ?_
  refine r_icmp_lt (tgt := 29) C dX7_requireNode_15 (by decide) (fun _ => ?_) (fun h => absurd (nI_lt hj (by omega)) h)
  exact hend _ _ _ _ dX7_requireNode_29 (⟨rfl, rfl⟩)

set_option maxRecDepth 20000 in
set_option maxHeartbeats 1000000 in
theorem c_X7_requirePipe_ok (l : Launch) (G : mG) (hG : mInj G) (M : Mem) (g : Glo) (V : View) (hn : vN V ≤ 16) (hcnt : M 2 8 = nI (vN V)) (j : Nat) (h0 : 0 < j) (hj : j < vN V) : mcV l G yX7_requirePipe cX7_requirePipe 2 1 [.ref (mA G 0), .int (nI j)] M g (fun M' g' => M' = M ∧ g' = g) := by
  refine mcV_of (L0 := [(0, .ref (mA G 0)), (1, .int (nI j))]) hG (by decide) (Nat.le_of_ble_eq_true rfl) rfl ?_
  intro p e s m args below meth c Q C hend
  refine r_iload_n C dX7_requirePipe_0 1 rfl ?_
  refine r_iconst (v := 1) C dX7_requirePipe_1 rfl ?_
  refine r_icmp_lt (tgt := 19) C dX7_requirePipe_2 (by decide) (fun h => absurd h (nI_nlt (a := j) (b := 1) h0 (by omega))) (fun _ => ?_)
  refine r_iload_n C dX7_requirePipe_5 1 rfl ?_
  refine r_aload_n C dX7_requirePipe_6 0 rfl ?_
  refine r_getr (q2 := 1) C dX7_requirePipe_7 0 f_X7_10 rfl rfl ?_
  refine r_getr (q2 := 2) C dX7_requirePipe_10 0 f_X7_72 rfl rfl ?_
  refine r_geti C dX7_requirePipe_13 8 f_X7_75 rfl rfl ?_
  refine r_valI (y := nI (vN V)) (hcnt) ?_
  refine r_icmp_lt (tgt := 30) C dX7_requirePipe_16 (by decide) (fun _ => ?_) (fun h => absurd (nI_lt hj (by omega)) h)
  exact hend _ _ _ _ dX7_requirePipe_30 (⟨rfl, rfl⟩)

set_option maxRecDepth 20000 in
set_option maxHeartbeats 1000000 in
theorem c_X7_requireBoiler_ok (l : Launch) (G : mG) (hG : mInj G) (M : Mem) (g : Glo) (V : View) (hn : vB V ≤ 4) (hcnt : M 11 3 = nI (vB V)) (j : Nat) (hj : j < vB V) : mcV l G yX7_requireBoiler cX7_requireBoiler 2 1 [.ref (mA G 0), .int (nI j)] M g (fun M' g' => M' = M ∧ g' = g) := by
  refine mcV_of (L0 := [(0, .ref (mA G 0)), (1, .int (nI j))]) hG (by decide) (Nat.le_of_ble_eq_true rfl) rfl ?_
  intro p e s m args below meth c Q C hend
  refine r_iload_n C dX7_requireBoiler_0 1 rfl ?_
  refine r_if_lt (tgt := 18) C dX7_requireBoiler_1 (by decide) (fun h => absurd h (nI_pos (by omega))) (fun _ => ?_)
  refine r_iload_n C dX7_requireBoiler_4 1 rfl ?_
  refine r_aload_n C dX7_requireBoiler_5 0 rfl ?_
  refine r_getr (q2 := 1) C dX7_requireBoiler_6 0 f_X7_10 rfl rfl ?_
  refine r_getr (q2 := 11) C dX7_requireBoiler_9 1 f_X7_127 rfl rfl ?_
  refine r_geti C dX7_requireBoiler_12 3 f_X7_131 rfl rfl ?_
  refine r_valI (y := nI (vB V)) (hcnt) ?_
  refine r_icmp_lt (tgt := 29) C dX7_requireBoiler_15 (by decide) (fun _ => ?_) (fun h => absurd (nI_lt hj (by omega)) h)
  exact hend _ _ _ _ dX7_requireBoiler_29 (⟨rfl, rfl⟩)

set_option maxRecDepth 20000 in
set_option maxHeartbeats 1000000 in
theorem c_X7_requireWithin_ok (l : Launch) (G : mG) (hG : mInj G) (M : Mem) (g : Glo) (w b : Nat) (hw : w ≤ b) (hb : b < 2 ^ 31) : mcV l G yX7_requireWithin cX7_requireWithin 3 1 [.int (nI w), .int 0, .int (nI b)] M g (fun M' g' => M' = M ∧ g' = g) := by
  refine mcV_of (L0 := [(0, .int (nI w)), (1, .int 0), (2, .int (nI b))]) hG (by decide) (Nat.le_of_ble_eq_true rfl) rfl ?_
  intro p e s m args below meth c Q C hend
  refine r_iload_n C dX7_requireWithin_0 0 rfl ?_
  refine r_iload_n C dX7_requireWithin_1 1 rfl ?_
  refine r_icmp_lt (tgt := 10) C dX7_requireWithin_2 (by decide) (fun h => absurd h (nI_pos (by omega))) (fun _ => ?_)
  refine r_iload_n C dX7_requireWithin_5 0 rfl ?_
  refine r_iload_n C dX7_requireWithin_6 2 rfl ?_
  refine r_icmp_le (tgt := 21) C dX7_requireWithin_7 (by decide) (fun _ => ?_) (fun h => absurd (nI_le hw hb) h)
  exact hend _ _ _ _ dX7_requireWithin_21 (⟨rfl, rfl⟩)

set_option maxRecDepth 20000 in
set_option maxHeartbeats 1000000 in
theorem c_X7_node_ok (l : Launch) (G : mG) (hG : mInj G) (M : Mem) (g : Glo) (V : View) (Hs : List View) (len : Nat) (T : Nat → Int32) (hI : cINV M V Hs len T) (j w : Nat) (hj : j < vN V) (hw : w < 12) : mcI l G yX7_node cX7_node 3 .int 5 [.ref (mA G 0), .int (nI j), .int (nI w)] M g (fun r M' g' => r = nodeF V j w ∧ M' = M ∧ g' = g) := by
  refine mcI_of (L0 := [(0, .ref (mA G 0)), (1, .int (nI j)), (2, .int (nI w))]) hG (by decide) (Nat.le_of_ble_eq_true rfl) rfl ?_
  intro p e s m args below meth c Q C hend
  obtain ⟨hC, hW, hH, hHs, hTx, hP0⟩ := id hI
  have hT := hW.1
  obtain ⟨hn1, hn16, hb4, ⟨hd0, hd3, hd5, hd6⟩, hpar⟩ := id hT
  refine r_aload_n C dX7_node_0 0 rfl ?_
  refine r_iload_n C dX7_node_1 1 rfl ?_
  refine r_callVV (As := [.int (nI j)]) (rest := []) C dX7_node_2 s_X7_64 (c_X7_requireNode_ok l G hG M g V hn16 hC.net.1 j hj) (by decide) rfl rfl rfl rfl (Nat.le_of_ble_eq_true rfl) (Nat.le_of_ble_eq_true rfl) (Nat.le_of_ble_eq_true rfl) (pk_V ?_)
  refine r_iload_n C dX7_node_5 2 rfl ?_
  refine r_iconst (v := 0) C dX7_node_6 rfl ?_
  refine r_bipush (v := 11) C dX7_node_7 rfl ?_
  refine r_callSV (As := [.int (nI w), .int 0, .int 11]) (rest := []) C dX7_node_9 s_X7_68 (c_X7_requireWithin_ok l G hG M g w 11 (by omega) (by decide)) (by decide) rfl rfl (Nat.le_of_ble_eq_true rfl) (Nat.le_of_ble_eq_true rfl) (Nat.le_of_ble_eq_true rfl) (pk_V ?_)
  refine r_aload_n C dX7_node_12 0 rfl ?_
  refine r_iload_n C dX7_node_13 1 rfl ?_
  refine r_iload_n C dX7_node_14 2 rfl ?_
  refine r_callVI (As := [.int (nI j), .int (nI w)]) (rest := []) C dX7_node_15 s_X7_112 (c_X7_nodeFact l G hG M g V hT hC j hj w hw) (by decide) rfl rfl rfl rfl (Nat.le_of_ble_eq_true rfl) (Nat.le_of_ble_eq_true rfl) (Nat.le_of_ble_eq_true rfl) (pk_I ?_)
  exact hend _ _ _ _ _ dX7_node_18 (rfl) (⟨rfl, rfl, rfl⟩)

set_option maxRecDepth 20000 in
set_option maxHeartbeats 1000000 in
theorem c_X7_heat_ok (l : Launch) (G : mG) (hG : mInj G) (M : Mem) (g : Glo) (V : View) (Hs : List View) (len : Nat) (T : Nat → Int32) (hI : cINV M V Hs len T) (j w : Nat) (h0 : 0 < j) (hj : j < vN V) (hw : w < 6) : mcI l G yX7_heat cX7_heat 3 .int 5 [.ref (mA G 0), .int (nI j), .int (nI w)] M g (fun r M' g' => r = heatF V j w ∧ M' = M ∧ g' = g) := by
  refine mcI_of (L0 := [(0, .ref (mA G 0)), (1, .int (nI j)), (2, .int (nI w))]) hG (by decide) (Nat.le_of_ble_eq_true rfl) rfl ?_
  intro p e s m args below meth c Q C hend
  obtain ⟨hC, hW, hH, hHs, hTx, hP0⟩ := id hI
  have hT := hW.1
  obtain ⟨hn1, hn16, hb4, ⟨hd0, hd3, hd5, hd6⟩, hpar⟩ := id hT
  refine r_aload_n C dX7_heat_0 0 rfl ?_
  refine r_iload_n C dX7_heat_1 1 rfl ?_
  refine r_callVV (As := [.int (nI j)]) (rest := []) C dX7_heat_2 s_X7_94 (c_X7_requirePipe_ok l G hG M g V hn16 hC.net.1 j h0 hj) (by decide) rfl rfl rfl rfl (Nat.le_of_ble_eq_true rfl) (Nat.le_of_ble_eq_true rfl) (Nat.le_of_ble_eq_true rfl) (pk_V ?_)
  refine r_iload_n C dX7_heat_5 2 rfl ?_
  refine r_iconst (v := 0) C dX7_heat_6 rfl ?_
  refine r_iconst (v := 5) C dX7_heat_7 rfl ?_
  refine r_callSV (As := [.int (nI w), .int 0, .int 5]) (rest := []) C dX7_heat_8 s_X7_68 (c_X7_requireWithin_ok l G hG M g w 5 (by omega) (by decide)) (by decide) rfl rfl (Nat.le_of_ble_eq_true rfl) (Nat.le_of_ble_eq_true rfl) (Nat.le_of_ble_eq_true rfl) (pk_V ?_)
  refine r_aload_n C dX7_heat_11 0 rfl ?_
  refine r_iload_n C dX7_heat_12 1 rfl ?_
  refine r_iload_n C dX7_heat_13 2 rfl ?_
  refine r_callVI (As := [.int (nI j), .int (nI w)]) (rest := []) C dX7_heat_14 s_X7_116 (c_X7_heatOf l G hG M g V hT hC j h0 hj w hw) (by decide) rfl rfl rfl rfl (Nat.le_of_ble_eq_true rfl) (Nat.le_of_ble_eq_true rfl) (Nat.le_of_ble_eq_true rfl) (pk_I ?_)
  exact hend _ _ _ _ _ dX7_heat_17 (rfl) (⟨rfl, rfl, rfl⟩)

set_option maxRecDepth 20000 in
set_option maxHeartbeats 1000000 in
theorem c_X7_value_ok (l : Launch) (G : mG) (hG : mInj G) (M : Mem) (g : Glo) (V : View) (Hs : List View) (len : Nat) (T : Nat → Int32) (hI : cINV M V Hs len T) (w : Nat) (hw : w < 15) : mcI l G yX7_value cX7_value 2 .int 5 [.ref (mA G 0), .int (nI w)] M g (fun r M' g' => r = valF V w ∧ M' = M ∧ g' = g) := by
  refine mcI_of (L0 := [(0, .ref (mA G 0)), (1, .int (nI w))]) hG (by decide) (Nat.le_of_ble_eq_true rfl) rfl ?_
  intro p e s m args below meth c Q C hend
  obtain ⟨hC, hW, hH, hHs, hTx, hP0⟩ := id hI
  have hT := hW.1
  obtain ⟨hn1, hn16, hb4, ⟨hd0, hd3, hd5, hd6⟩, hpar⟩ := id hT
  refine r_iload_n C dX7_value_0 1 rfl ?_
  refine r_iconst (v := 0) C dX7_value_1 rfl ?_
  refine r_bipush (v := 14) C dX7_value_2 rfl ?_
  refine r_callSV (As := [.int (nI w), .int 0, .int 14]) (rest := []) C dX7_value_4 s_X7_68 (c_X7_requireWithin_ok l G hG M g w 14 (by omega) (by decide)) (by decide) rfl rfl (Nat.le_of_ble_eq_true rfl) (Nat.le_of_ble_eq_true rfl) (Nat.le_of_ble_eq_true rfl) (pk_V ?_)
  refine r_aload_n C dX7_value_7 0 rfl ?_
  refine r_iload_n C dX7_value_8 1 rfl ?_
  refine r_callVI (As := [.int (nI w)]) (rest := []) C dX7_value_9 s_X7_119 (c_X7_number l G hG M g V hT hC w hw) (by decide) rfl rfl rfl rfl (Nat.le_of_ble_eq_true rfl) (Nat.le_of_ble_eq_true rfl) (Nat.le_of_ble_eq_true rfl) (pk_I ?_)
  exact hend _ _ _ _ _ dX7_value_12 (rfl) (⟨rfl, rfl, rfl⟩)

set_option maxRecDepth 20000 in
set_option maxHeartbeats 1000000 in
theorem c_X7_sum_ok (l : Launch) (G : mG) (hG : mInj G) (M : Mem) (g : Glo) (V : View) (Hs : List View) (len : Nat) (T : Nat → Int32) (hI : cINV M V Hs len T) (w : Nat) (hw : w < 3) : mcI l G yX7_sum cX7_sum 2 .int 6 [.ref (mA G 0), .int (nI w)] M g (fun r M' g' => r = sumF V w ∧ M' = M ∧ g' = g) := by
  refine mcI_of (L0 := [(0, .ref (mA G 0)), (1, .int (nI w))]) hG (by decide) (Nat.le_of_ble_eq_true rfl) rfl ?_
  intro p e s m args below meth c Q C hend
  obtain ⟨hC, hW, hH, hHs, hTx, hP0⟩ := id hI
  have hT := hW.1
  obtain ⟨hn1, hn16, hb4, ⟨hd0, hd3, hd5, hd6⟩, hpar⟩ := id hT
  refine r_iload_n C dX7_sum_0 1 rfl ?_
  refine r_iconst (v := 0) C dX7_sum_1 rfl ?_
  refine r_iconst (v := 2) C dX7_sum_2 rfl ?_
  refine r_callSV (As := [.int (nI w), .int 0, .int 2]) (rest := []) C dX7_sum_3 s_X7_68 (c_X7_requireWithin_ok l G hG M g w 2 (by omega) (by decide)) (by decide) rfl rfl (Nat.le_of_ble_eq_true rfl) (Nat.le_of_ble_eq_true rfl) (Nat.le_of_ble_eq_true rfl) (pk_V ?_)
  refine r_aload_n C dX7_sum_6 0 rfl ?_
  refine r_iload_n C dX7_sum_7 1 rfl ?_
  refine r_callVI (As := [.int (nI w)]) (rest := []) C dX7_sum_8 s_X7_123 (c_X7_sumOfHeats l G hG M g V hT hC w (by omega)) (by decide) rfl rfl rfl rfl (Nat.le_of_ble_eq_true rfl) (Nat.le_of_ble_eq_true rfl) (Nat.le_of_ble_eq_true rfl) (pk_I ?_)
  exact hend _ _ _ _ _ dX7_sum_11 (rfl) (⟨rfl, rfl, rfl⟩)

set_option maxRecDepth 20000 in
set_option maxHeartbeats 1000000 in
theorem c_X7_boiler_ok (l : Launch) (G : mG) (hG : mInj G) (M : Mem) (g : Glo) (V : View) (Hs : List View) (len : Nat) (T : Nat → Int32) (hI : cINV M V Hs len T) (j w : Nat) (hj : j < vB V) (hw : w < 5) : mcI l G yX7_boiler cX7_boiler 3 .int 5 [.ref (mA G 0), .int (nI j), .int (nI w)] M g (fun r M' g' => r = boiF V j w ∧ M' = M ∧ g' = g) := by
  refine mcI_of (L0 := [(0, .ref (mA G 0)), (1, .int (nI j)), (2, .int (nI w))]) hG (by decide) (Nat.le_of_ble_eq_true rfl) rfl ?_
  intro p e s m args below meth c Q C hend
  obtain ⟨hC, hW, hH, hHs, hTx, hP0⟩ := id hI
  have hT := hW.1
  obtain ⟨hn1, hn16, hb4, ⟨hd0, hd3, hd5, hd6⟩, hpar⟩ := id hT
  refine r_aload_n C dX7_boiler_0 0 rfl ?_
  refine r_iload_n C dX7_boiler_1 1 rfl ?_
  refine r_callVV (As := [.int (nI j)]) (rest := []) C dX7_boiler_2 s_X7_140 (c_X7_requireBoiler_ok l G hG M g V hb4 hC.boi.1 j hj) (by decide) rfl rfl rfl rfl (Nat.le_of_ble_eq_true rfl) (Nat.le_of_ble_eq_true rfl) (Nat.le_of_ble_eq_true rfl) (pk_V ?_)
  refine r_iload_n C dX7_boiler_5 2 rfl ?_
  refine r_iconst (v := 0) C dX7_boiler_6 rfl ?_
  refine r_iconst (v := 4) C dX7_boiler_7 rfl ?_
  refine r_callSV (As := [.int (nI w), .int 0, .int 4]) (rest := []) C dX7_boiler_8 s_X7_68 (c_X7_requireWithin_ok l G hG M g w 4 (by omega) (by decide)) (by decide) rfl rfl (Nat.le_of_ble_eq_true rfl) (Nat.le_of_ble_eq_true rfl) (Nat.le_of_ble_eq_true rfl) (pk_V ?_)
  refine r_aload_n C dX7_boiler_11 0 rfl ?_
  refine r_iload_n C dX7_boiler_12 1 rfl ?_
  refine r_iload_n C dX7_boiler_13 2 rfl ?_
  refine r_callVI (As := [.int (nI j), .int (nI w)]) (rest := []) C dX7_boiler_14 s_X7_146 (c_X7_boilerFact l G hG M g V hT hC j hj w hw) (by decide) rfl rfl rfl rfl (Nat.le_of_ble_eq_true rfl) (Nat.le_of_ble_eq_true rfl) (Nat.le_of_ble_eq_true rfl) (pk_I ?_)
  exact hend _ _ _ _ _ dX7_boiler_17 (rfl) (⟨rfl, rfl, rfl⟩)
