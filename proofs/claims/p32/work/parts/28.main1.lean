set_option maxRecDepth 20000 in
set_option maxHeartbeats 1000000 in
theorem c_X7_requireNode (l : Launch) (G : mG) (hG : mInj G) (M : Mem) (g : Glo) (hfl : l.stackTraces = false) (V : View) (hn : vN V ≤ 16) (hcnt : M 2 8 = nI (vN V)) (x : Int32) : mcXV l G yX7_requireNode cX7_requireNode 2 6 1 6 [.ref (mA G 0), .int x] M g (fun M' g' => (M' = M ∧ g' = g) ∧ isNd V x) (fun E => E = IOO ∧ ¬ isNd V x) := by
  refine mcXV_of (L0 := [(0, .ref (mA G 0)), (1, .int x)]) hG (by decide) (Nat.le_of_ble_eq_true rfl) rfl ?_
  intro p e s m args below meth c Q C hno hend hqw hqx
  refine r_iload_n C dX7_requireNode_0 1 rfl ?_
  refine r_if_lt (tgt := 18) C dX7_requireNode_1 (by decide) (fun c1 => ?_) (fun c1 => ?_)
  ·
    exact r_throwW (st := []) C hno (by decide) hqw hfl t_X7_258 (⟨rfl, fun h => i32_nlt.mpr h.1 c1⟩) dX7_requireNode_18 dX7_requireNode_21 dX7_requireNode_22 dX7_requireNode_25 dX7_requireNode_28 (Nat.le_of_ble_eq_true rfl) (Nat.le_of_ble_eq_true rfl) (Nat.le_of_ble_eq_true rfl)
  ·
    refine r_iload_n C dX7_requireNode_4 1 rfl ?_
    refine r_aload_n C dX7_requireNode_5 0 rfl ?_
    refine r_getr (q2 := 1) C dX7_requireNode_6 0 f_X7_10 rfl rfl ?_
    refine r_getr (q2 := 2) C dX7_requireNode_9 0 f_X7_72 rfl rfl ?_
    refine r_geti C dX7_requireNode_12 8 f_X7_75 rfl rfl ?_
    refine r_valI (y := nI (vN V)) (hcnt) ?_
    refine r_icmp_lt (tgt := 29) C dX7_requireNode_15 (by decide) (fun c15 => ?_) (fun c15 => ?_)
    ·
      exact hend _ _ _ _ _ _ (Nat.le_of_ble_eq_true rfl) (Nat.le_of_ble_eq_true rfl) dX7_requireNode_29 (⟨⟨rfl, rfl⟩, i32_nlt.mp c1, c15⟩)
    ·
      exact r_throwW (st := []) C hno (by decide) hqw hfl t_X7_258 (⟨rfl, fun h => c15 h.2⟩) dX7_requireNode_18 dX7_requireNode_21 dX7_requireNode_22 dX7_requireNode_25 dX7_requireNode_28 (Nat.le_of_ble_eq_true rfl) (Nat.le_of_ble_eq_true rfl) (Nat.le_of_ble_eq_true rfl)

set_option maxRecDepth 20000 in
set_option maxHeartbeats 1000000 in
theorem c_X7_requirePipe (l : Launch) (G : mG) (hG : mInj G) (M : Mem) (g : Glo) (hfl : l.stackTraces = false) (V : View) (hn : vN V ≤ 16) (hcnt : M 2 8 = nI (vN V)) (x : Int32) : mcXV l G yX7_requirePipe cX7_requirePipe 2 6 1 6 [.ref (mA G 0), .int x] M g (fun M' g' => (M' = M ∧ g' = g) ∧ isPp V x) (fun E => E = IOO ∧ ¬ isPp V x) := by
  refine mcXV_of (L0 := [(0, .ref (mA G 0)), (1, .int x)]) hG (by decide) (Nat.le_of_ble_eq_true rfl) rfl ?_
  intro p e s m args below meth c Q C hno hend hqw hqx
  refine r_iload_n C dX7_requirePipe_0 1 rfl ?_
  refine r_iconst (v := 1) C dX7_requirePipe_1 rfl ?_
  refine r_icmp_lt (tgt := 19) C dX7_requirePipe_2 (by decide) (fun c2 => ?_) (fun c2 => ?_)
  ·
    exact r_throwW (st := []) C hno (by decide) hqw hfl t_X7_261 (⟨rfl, fun h => i32_nlt.mpr h.1 c2⟩) dX7_requirePipe_19 dX7_requirePipe_22 dX7_requirePipe_23 dX7_requirePipe_26 dX7_requirePipe_29 (Nat.le_of_ble_eq_true rfl) (Nat.le_of_ble_eq_true rfl) (Nat.le_of_ble_eq_true rfl)
  ·
    refine r_iload_n C dX7_requirePipe_5 1 rfl ?_
    refine r_aload_n C dX7_requirePipe_6 0 rfl ?_
    refine r_getr (q2 := 1) C dX7_requirePipe_7 0 f_X7_10 rfl rfl ?_
    refine r_getr (q2 := 2) C dX7_requirePipe_10 0 f_X7_72 rfl rfl ?_
    refine r_geti C dX7_requirePipe_13 8 f_X7_75 rfl rfl ?_
    refine r_valI (y := nI (vN V)) (hcnt) ?_
    refine r_icmp_lt (tgt := 30) C dX7_requirePipe_16 (by decide) (fun c16 => ?_) (fun c16 => ?_)
    ·
      exact hend _ _ _ _ _ _ (Nat.le_of_ble_eq_true rfl) (Nat.le_of_ble_eq_true rfl) dX7_requirePipe_30 (⟨⟨rfl, rfl⟩, i32_nlt.mp c2, c16⟩)
    ·
      exact r_throwW (st := []) C hno (by decide) hqw hfl t_X7_261 (⟨rfl, fun h => c16 h.2⟩) dX7_requirePipe_19 dX7_requirePipe_22 dX7_requirePipe_23 dX7_requirePipe_26 dX7_requirePipe_29 (Nat.le_of_ble_eq_true rfl) (Nat.le_of_ble_eq_true rfl) (Nat.le_of_ble_eq_true rfl)

set_option maxRecDepth 20000 in
set_option maxHeartbeats 1000000 in
theorem c_X7_requireBoiler (l : Launch) (G : mG) (hG : mInj G) (M : Mem) (g : Glo) (hfl : l.stackTraces = false) (V : View) (hn : vB V ≤ 4) (hcnt : M 11 3 = nI (vB V)) (x : Int32) : mcXV l G yX7_requireBoiler cX7_requireBoiler 2 6 1 6 [.ref (mA G 0), .int x] M g (fun M' g' => (M' = M ∧ g' = g) ∧ isBo V x) (fun E => E = IOO ∧ ¬ isBo V x) := by
  refine mcXV_of (L0 := [(0, .ref (mA G 0)), (1, .int x)]) hG (by decide) (Nat.le_of_ble_eq_true rfl) rfl ?_
  intro p e s m args below meth c Q C hno hend hqw hqx
  refine r_iload_n C dX7_requireBoiler_0 1 rfl ?_
  refine r_if_lt (tgt := 18) C dX7_requireBoiler_1 (by decide) (fun c1 => ?_) (fun c1 => ?_)
  ·
    exact r_throwW (st := []) C hno (by decide) hqw hfl t_X7_263 (⟨rfl, fun h => i32_nlt.mpr h.1 c1⟩) dX7_requireBoiler_18 dX7_requireBoiler_21 dX7_requireBoiler_22 dX7_requireBoiler_25 dX7_requireBoiler_28 (Nat.le_of_ble_eq_true rfl) (Nat.le_of_ble_eq_true rfl) (Nat.le_of_ble_eq_true rfl)
  ·
    refine r_iload_n C dX7_requireBoiler_4 1 rfl ?_
    refine r_aload_n C dX7_requireBoiler_5 0 rfl ?_
    refine r_getr (q2 := 1) C dX7_requireBoiler_6 0 f_X7_10 rfl rfl ?_
    refine r_getr (q2 := 11) C dX7_requireBoiler_9 1 f_X7_127 rfl rfl ?_
    refine r_geti C dX7_requireBoiler_12 3 f_X7_131 rfl rfl ?_
    refine r_valI (y := nI (vB V)) (hcnt) ?_
    refine r_icmp_lt (tgt := 29) C dX7_requireBoiler_15 (by decide) (fun c15 => ?_) (fun c15 => ?_)
    ·
      exact hend _ _ _ _ _ _ (Nat.le_of_ble_eq_true rfl) (Nat.le_of_ble_eq_true rfl) dX7_requireBoiler_29 (⟨⟨rfl, rfl⟩, i32_nlt.mp c1, c15⟩)
    ·
      exact r_throwW (st := []) C hno (by decide) hqw hfl t_X7_263 (⟨rfl, fun h => c15 h.2⟩) dX7_requireBoiler_18 dX7_requireBoiler_21 dX7_requireBoiler_22 dX7_requireBoiler_25 dX7_requireBoiler_28 (Nat.le_of_ble_eq_true rfl) (Nat.le_of_ble_eq_true rfl) (Nat.le_of_ble_eq_true rfl)

set_option maxRecDepth 20000 in
set_option maxHeartbeats 1000000 in
theorem c_X7_requireWithin (l : Launch) (G : mG) (hG : mInj G) (M : Mem) (g : Glo) (hfl : l.stackTraces = false) (x a b : Int32) : mcXV l G yX7_requireWithin cX7_requireWithin 3 6 1 6 [.int x, .int a, .int b] M g (fun M' g' => (M' = M ∧ g' = g) ∧ inW x a b) (fun E => E = IAE ∧ ¬ inW x a b) := by
  refine mcXV_of (L0 := [(0, .int x), (1, .int a), (2, .int b)]) hG (by decide) (Nat.le_of_ble_eq_true rfl) rfl ?_
  intro p e s m args below meth c Q C hno hend hqw hqx
  refine r_iload_n C dX7_requireWithin_0 0 rfl ?_
  refine r_iload_n C dX7_requireWithin_1 1 rfl ?_
  refine r_icmp_lt (tgt := 10) C dX7_requireWithin_2 (by decide) (fun c2 => ?_) (fun c2 => ?_)
  ·
    exact r_throwW (st := []) C hno (by decide) hqw hfl t_X7_267 (⟨rfl, fun h => i32_nlt.mpr h.1 c2⟩) dX7_requireWithin_10 dX7_requireWithin_13 dX7_requireWithin_14 dX7_requireWithin_17 dX7_requireWithin_20 (Nat.le_of_ble_eq_true rfl) (Nat.le_of_ble_eq_true rfl) (Nat.le_of_ble_eq_true rfl)
  ·
    refine r_iload_n C dX7_requireWithin_5 0 rfl ?_
    refine r_iload_n C dX7_requireWithin_6 2 rfl ?_
    refine r_icmp_le (tgt := 21) C dX7_requireWithin_7 (by decide) (fun c7 => ?_) (fun c7 => ?_)
    ·
      exact hend _ _ _ _ _ _ (Nat.le_of_ble_eq_true rfl) (Nat.le_of_ble_eq_true rfl) dX7_requireWithin_21 (⟨⟨rfl, rfl⟩, i32_nlt.mp c2, c7⟩)
    ·
      exact r_throwW (st := []) C hno (by decide) hqw hfl t_X7_267 (⟨rfl, fun h => c7 h.2⟩) dX7_requireWithin_10 dX7_requireWithin_13 dX7_requireWithin_14 dX7_requireWithin_17 dX7_requireWithin_20 (Nat.le_of_ble_eq_true rfl) (Nat.le_of_ble_eq_true rfl) (Nat.le_of_ble_eq_true rfl)

set_option maxRecDepth 20000 in
set_option maxHeartbeats 1000000 in
theorem c_X7_settle (l : Launch) (G : mG) (hG : mInj G) (M : Mem) (g : Glo) (V : View) (hT : wfT V) (hS : cSt M 1 V) (hz : wfZ V) : mcV l G yX7_settle cX7_settle 1 5 [.ref (mA G 0)] M g (fun M' g' => (cOK M' V ∧ offR M M' 75 85) ∧ g' = g) := by
  refine mcV_of (L0 := [(0, .ref (mA G 0))]) hG (by decide) (Nat.le_of_ble_eq_true rfl) rfl ?_
  intro p e s m args below meth c Q C hend
  have hT0 := hT
  obtain ⟨hn1, hn16, hb4, ⟨hd0, hd3, hd5, hd6⟩, hpar⟩ := hT0
  refine r_aload_n C dX7_settle_0 0 rfl ?_
  refine r_getr (q2 := 75) C dX7_settle_1 3 f_X7_33 rfl rfl ?_
  refine r_aload_n C dX7_settle_4 0 rfl ?_
  refine r_getr (q2 := 1) C dX7_settle_5 0 f_X7_10 rfl rfl ?_
  refine r_aload_n C dX7_settle_8 0 rfl ?_
  refine r_getr (q2 := 1) C dX7_settle_9 0 f_X7_10 rfl rfl ?_
  refine r_geti C dX7_settle_12 2 f_X7_106 rfl rfl ?_
  refine r_valI (y := vSup V) (hS.2.2.1) ?_
  refine r_callVV (As := [.ref (mA G 1), .int (vSup V)]) (rest := []) C dX7_settle_15 s_X7_210 (c_X2_settle l G hG M g V hT hS.1 hS.2.1 75 isHour_75 (by decide) (vSup V) hS.2.2.2.1 hz) (by decide) rfl rfl rfl rfl (Nat.le_of_ble_eq_true rfl) (Nat.le_of_ble_eq_true rfl) (Nat.le_of_ble_eq_true rfl) (fun M15 g15 hp15 => ?_)
  obtain ⟨⟨h15, o15⟩, eg15⟩ := hp15
  rw [eg15]
  refine r_aload_n C dX7_settle_18 0 rfl ?_
  refine r_getr (q2 := 80) C dX7_settle_19 4 f_X7_40 rfl rfl ?_
  refine r_aload_n C dX7_settle_22 0 rfl ?_
  refine r_getr (q2 := 1) C dX7_settle_23 0 f_X7_10 rfl rfl ?_
  refine r_getr (q2 := 2) C dX7_settle_26 0 f_X7_72 rfl rfl ?_
  refine r_callVV (As := [.ref (mA G 2)]) (rest := []) C dX7_settle_29 s_X7_195 (c_X5_takeMeters l G hG M15 g 80 isRegs_80 (by decide)) (by decide) rfl rfl rfl rfl (Nat.le_of_ble_eq_true rfl) (Nat.le_of_ble_eq_true rfl) (Nat.le_of_ble_eq_true rfl) (fun M29 g29 hp29 => ?_)
  obtain ⟨⟨f29, rfl, hf29⟩, eg29⟩ := hp29
  rw [eg29]
  have o29 : offR M15 (mrow M15 (80 + 1) f29) 81 81 := fun q hq => mrow_ne (by omega) _
  have hS2 : cSt (mrow M15 (80 + 1) f29) 1 V := (hS.off o15 (by decide)).off o29 (by decide)
  have hm29 : ∀ j, j < vN V → (mrow M15 (80 + 1) f29) (80 + 1) j = vD V 6 j := fun j hj => by rw [mrow_at, hf29 j (by omega), o15 9 (by decide)]; exact hS.1.2 6 (by decide) j hj
  refine r_aload_n C dX7_settle_32 0 rfl ?_
  refine r_getr (q2 := 80) C dX7_settle_33 4 f_X7_40 rfl rfl ?_
  refine r_aload_n C dX7_settle_36 0 rfl ?_
  refine r_getr (q2 := 1) C dX7_settle_37 0 f_X7_10 rfl rfl ?_
  refine r_getr (q2 := 2) C dX7_settle_40 0 f_X7_72 rfl rfl ?_
  refine r_callVV (As := [.ref (mA G 2)]) (rest := []) C dX7_settle_43 s_X7_199 (c_X5_settle l G hG (mrow M15 (80 + 1) f29) g V hT hS2.1 80 isRegs_80 (by decide)) (by decide) rfl rfl rfl rfl (Nat.le_of_ble_eq_true rfl) (Nat.le_of_ble_eq_true rfl) (Nat.le_of_ble_eq_true rfl) (fun M43 g43 hp43 => ?_)
  obtain ⟨⟨h43, o43⟩, eg43⟩ := hp43
  rw [eg43]
  exact hend _ _ _ _ dX7_settle_46 (⟨⟨⟨hS2.off o43 (by decide), (h15.off o29 (by decide)).off o43 (by decide), h43.mt hT hm29⟩, (o15.tr o29 (by decide) (by decide) (by decide) (by decide) : offR M _ 75 85).tr o43 (by decide) (by decide) (by decide) (by decide)⟩, rfl⟩)

set_option maxRecDepth 20000 in
set_option maxHeartbeats 1000000 in
theorem c_X7_deliveredBy (l : Launch) (G : mG) (hG : mInj G) (M : Mem) (g : Glo) (V : View) (hT : wfT V) (hC : cOK M V) (j : Nat) (h0 : 0 < j) (hj : j < vN V) : mcI l G yX7_deliveredBy cX7_deliveredBy 2 .int 2 [.ref (mA G 0), .int (nI j)] M g (fun r M' g' => r = heatF V j 0 ∧ M' = M ∧ g' = g) := by
  refine mcI_of (L0 := [(0, .ref (mA G 0)), (1, .int (nI j))]) hG (by decide) (Nat.le_of_ble_eq_true rfl) rfl ?_
  intro p e s m args below meth c Q C hend
  have hT0 := hT
  obtain ⟨hn1, hn16, hb4, ⟨hd0, hd3, hd5, hd6⟩, hpar⟩ := hT0
  refine r_aload_n C dX7_deliveredBy_0 0 rfl ?_
  refine r_getr (q2 := 1) C dX7_deliveredBy_1 0 f_X7_10 rfl rfl ?_
  refine r_getr (q2 := 2) C dX7_deliveredBy_4 0 f_X7_72 rfl rfl ?_
  refine r_getr (q2 := 6) C dX7_deliveredBy_7 3 f_X7_97 rfl rfl ?_
  refine r_iload_n C dX7_deliveredBy_10 1 rfl ?_
  refine r_ialdN (j := j) (v := vD V 3 j) C dX7_deliveredBy_11 rfl (rfl) (by omega) (by decide) (hC.net.at 3 (by decide) hj) ?_
  refine r_aload_n C dX7_deliveredBy_12 0 rfl ?_
  refine r_getr (q2 := 75) C dX7_deliveredBy_13 3 f_X7_33 rfl rfl ?_
  refine r_getr (q2 := 77) C dX7_deliveredBy_16 1 f_X7_278 rfl rfl ?_
  refine r_iload_n C dX7_deliveredBy_19 1 rfl ?_
  refine r_ialdN (j := j) (v := warmF V (vSup V) j) C dX7_deliveredBy_20 rfl (rfl) (by omega) (by decide) (hC.wm hj) ?_
  refine r_aload_n C dX7_deliveredBy_21 0 rfl ?_
  refine r_getr (q2 := 75) C dX7_deliveredBy_22 3 f_X7_33 rfl rfl ?_
  refine r_aload_n C dX7_deliveredBy_25 0 rfl ?_
  refine r_getr (q2 := 1) C dX7_deliveredBy_26 0 f_X7_10 rfl rfl ?_
  refine r_getr (q2 := 2) C dX7_deliveredBy_29 0 f_X7_72 rfl rfl ?_
  refine r_iload_n C dX7_deliveredBy_32 1 rfl ?_
  refine r_callVI (As := [.ref (mA G 2), .int (nI j)]) (rest := [.int (warmF V (vSup V) j), .int (vD V 3 j)]) C dX7_deliveredBy_33 s_X7_281 (c_X2_returnOf l G hG M g V hT hC.net 75 isHour_75 (by decide) j hj) (by decide) rfl rfl rfl rfl (Nat.le_of_ble_eq_true rfl) (Nat.le_of_ble_eq_true rfl) (Nat.le_of_ble_eq_true rfl) (pk_I ?_)
  refine r_valI (y := rF V (vSup V) j) (by rw [hC.wm hj]; rfl) ?_
  refine r_isub C dX7_deliveredBy_36 ?_
  refine r_imul C dX7_deliveredBy_37 ?_
  exact hend _ _ _ _ _ dX7_deliveredBy_38 (rfl) (⟨rfl, rfl, rfl⟩)

set_option maxRecDepth 20000 in
set_option maxHeartbeats 1000000 in
theorem c_X7_billOf (l : Launch) (G : mG) (hG : mInj G) (M : Mem) (g : Glo) (V : View) (hT : wfT V) (hC : cOK M V) (j : Nat) (h0 : 0 < j) (hj : j < vN V) : mcI l G yX7_billOf cX7_billOf 3 .int 3 [.ref (mA G 0), .int (nI j)] M g (fun r M' g' => r = billF V j ∧ M' = M ∧ g' = g) := by
  refine mcI_of (L0 := [(0, .ref (mA G 0)), (1, .int (nI j))]) hG (by decide) (Nat.le_of_ble_eq_true rfl) rfl ?_
  intro p e s m args below meth c Q C hend
  have hT0 := hT
  obtain ⟨hn1, hn16, hb4, ⟨hd0, hd3, hd5, hd6⟩, hpar⟩ := hT0
  refine r_aload_n C dX7_billOf_0 0 rfl ?_
  refine r_getr (q2 := 75) C dX7_billOf_1 3 f_X7_33 rfl rfl ?_
  refine r_aload_n C dX7_billOf_4 0 rfl ?_
  refine r_getr (q2 := 1) C dX7_billOf_5 0 f_X7_10 rfl rfl ?_
  refine r_getr (q2 := 2) C dX7_billOf_8 0 f_X7_72 rfl rfl ?_
  refine r_iload_n C dX7_billOf_11 1 rfl ?_
  refine r_callVI (As := [.ref (mA G 2), .int (nI j)]) (rest := []) C dX7_billOf_12 s_X7_281 (c_X2_returnOf l G hG M g V hT hC.net 75 isHour_75 (by decide) j hj) (by decide) rfl rfl rfl rfl (Nat.le_of_ble_eq_true rfl) (Nat.le_of_ble_eq_true rfl) (Nat.le_of_ble_eq_true rfl) (pk_I ?_)
  refine r_valI (y := rF V (vSup V) j) (by rw [hC.wm hj]; rfl) ?_
  refine r_aload_n C dX7_billOf_15 0 rfl ?_
  refine r_getr (q2 := 1) C dX7_billOf_16 0 f_X7_10 rfl rfl ?_
  refine r_geti C dX7_billOf_19 5 f_X7_152 rfl rfl ?_
  refine r_valI (y := vS V 3) (hC.1.2.2.2.2.2.1) ?_
  refine r_isub C dX7_billOf_22 ?_
  refine r_istore_n (L' := [(2, .int ((rF V (vSup V) j) - (vS V 3))), (0, .ref (mA G 0)), (1, .int (nI j))]) C dX7_billOf_23 (by decide) rfl ?_
  refine r_aload_n C dX7_billOf_24 1 rfl ?_
  refine r_iload_n C dX7_billOf_25 2 rfl ?_
  refine r_callVI (As := [.int (nI j)]) (rest := []) C dX7_billOf_26 s_X7_291 (c_X7_deliveredBy l G hG M g V hT hC j h0 hj) (by decide) rfl rfl rfl rfl (Nat.le_of_ble_eq_true rfl) (Nat.le_of_ble_eq_true rfl) (Nat.le_of_ble_eq_true rfl) (pk_I ?_)
  refine r_aload_n C dX7_billOf_29 1 rfl ?_
  refine r_getr (q2 := 1) C dX7_billOf_30 0 f_X7_10 rfl rfl ?_
  refine r_geti C dX7_billOf_33 4 f_X7_149 rfl rfl ?_
  refine r_valI (y := vS V 2) (hC.1.2.2.2.2.1) ?_
  refine r_imul C dX7_billOf_36 ?_
  refine r_sipush (v := 1000) C dX7_billOf_37 rfl ?_
  refine r_idiv C dX7_billOf_40 (by decide) ?_
  refine r_aload_n C dX7_billOf_41 1 rfl ?_
  refine r_getr (q2 := 1) C dX7_billOf_42 0 f_X7_10 rfl rfl ?_
  refine r_getr (q2 := 2) C dX7_billOf_45 0 f_X7_72 rfl rfl ?_
  refine r_getr (q2 := 6) C dX7_billOf_48 3 f_X7_97 rfl rfl ?_
  refine r_iload_n C dX7_billOf_51 2 rfl ?_
  refine r_ialdN (j := j) (v := vD V 3 j) C dX7_billOf_52 rfl (rfl) (by omega) (by decide) (hC.net.at 3 (by decide) hj) ?_
  refine r_iload_n C dX7_billOf_53 0 rfl ?_
  refine r_imul C dX7_billOf_54 ?_
  refine r_aload_n C dX7_billOf_55 1 rfl ?_
  refine r_getr (q2 := 1) C dX7_billOf_56 0 f_X7_10 rfl rfl ?_
  refine r_geti C dX7_billOf_59 6 f_X7_155 rfl rfl ?_
  refine r_valI (y := vS V 4) (hC.1.2.2.2.2.2.2.1) ?_
  refine r_imul C dX7_billOf_62 ?_
  refine r_sipush (v := 1000) C dX7_billOf_63 rfl ?_
  refine r_idiv C dX7_billOf_66 (by decide) ?_
  refine r_iadd C dX7_billOf_67 ?_
  exact hend _ _ _ _ _ dX7_billOf_68 (rfl) (⟨rfl, rfl, rfl⟩)

set_option maxRecDepth 20000 in
set_option maxHeartbeats 1000000 in
theorem c_X7_heatOf_0 (l : Launch) (G : mG) (hG : mInj G) (M : Mem) (g : Glo) (V : View) (hT : wfT V) (hC : cOK M V) (j : Nat) (h0 : 0 < j) (hj : j < vN V) : mcI l G yX7_heatOf cX7_heatOf 4 .int 4 [.ref (mA G 0), .int (nI j), .int 0] M g (fun r M' g' => r = heatF V j 0 ∧ M' = M ∧ g' = g) := by
  refine mcI_of (L0 := [(0, .ref (mA G 0)), (1, .int (nI j)), (2, .int 0)]) hG (by decide) (Nat.le_of_ble_eq_true rfl) rfl ?_
  intro p e s m args below meth c Q C hend
  have hT0 := hT
  obtain ⟨hn1, hn16, hb4, ⟨hd0, hd3, hd5, hd6⟩, hpar⟩ := hT0
  refine r_aload_n C dX7_heatOf_0 0 rfl ?_
  refine r_getr (q2 := 1) C dX7_heatOf_1 0 f_X7_10 rfl rfl ?_
  refine r_getr (q2 := 2) C dX7_heatOf_4 0 f_X7_72 rfl rfl ?_
  refine r_astore_n (L' := [(3, .ref (mA G 2)), (0, .ref (mA G 0)), (1, .int (nI j)), (2, .int 0)]) C dX7_heatOf_7 (by decide) rfl ?_
  refine r_iload_n C dX7_heatOf_8 3 rfl ?_
  refine r_tableIn (off := 35) (tgt := 44) C dX7_heatOf_9 (by decide) (by decide) (by decide) (by decide) ?_
  refine r_aload_n C dX7_heatOf_44 1 rfl ?_
  refine r_iload_n C dX7_heatOf_45 2 rfl ?_
  refine r_callVI (As := [.int (nI j)]) (rest := []) C dX7_heatOf_46 s_X7_291 (c_X7_deliveredBy l G hG M g V hT hC j h0 hj) (by decide) rfl rfl rfl rfl (Nat.le_of_ble_eq_true rfl) (Nat.le_of_ble_eq_true rfl) (Nat.le_of_ble_eq_true rfl) (pk_I ?_)
  exact hend _ _ _ _ _ dX7_heatOf_49 (rfl) (⟨rfl, rfl, rfl⟩)

set_option maxRecDepth 20000 in
set_option maxHeartbeats 1000000 in
theorem c_X7_heatOf_1 (l : Launch) (G : mG) (hG : mInj G) (M : Mem) (g : Glo) (V : View) (hT : wfT V) (hC : cOK M V) (j : Nat) (h0 : 0 < j) (hj : j < vN V) : mcI l G yX7_heatOf cX7_heatOf 4 .int 4 [.ref (mA G 0), .int (nI j), .int 1] M g (fun r M' g' => r = heatF V j 1 ∧ M' = M ∧ g' = g) := by
  refine mcI_of (L0 := [(0, .ref (mA G 0)), (1, .int (nI j)), (2, .int 1)]) hG (by decide) (Nat.le_of_ble_eq_true rfl) rfl ?_
  intro p e s m args below meth c Q C hend
  have hT0 := hT
  obtain ⟨hn1, hn16, hb4, ⟨hd0, hd3, hd5, hd6⟩, hpar⟩ := hT0
  refine r_aload_n C dX7_heatOf_0 0 rfl ?_
  refine r_getr (q2 := 1) C dX7_heatOf_1 0 f_X7_10 rfl rfl ?_
  refine r_getr (q2 := 2) C dX7_heatOf_4 0 f_X7_72 rfl rfl ?_
  refine r_astore_n (L' := [(3, .ref (mA G 2)), (0, .ref (mA G 0)), (1, .int (nI j)), (2, .int 1)]) C dX7_heatOf_7 (by decide) rfl ?_
  refine r_iload_n C dX7_heatOf_8 3 rfl ?_
  refine r_tableIn (off := 41) (tgt := 50) C dX7_heatOf_9 (by decide) (by decide) (by decide) (by decide) ?_
  refine r_aload_n C dX7_heatOf_50 1 rfl ?_
  refine r_getr (q2 := 75) C dX7_heatOf_51 3 f_X7_33 rfl rfl ?_
  refine r_getr (q2 := 76) C dX7_heatOf_54 0 f_X7_216 rfl rfl ?_
  refine r_iload_n C dX7_heatOf_57 2 rfl ?_
  refine r_ialdN (j := j) (v := flowF V j) C dX7_heatOf_58 rfl (rfl) (by omega) (by decide) (hC.fl hj) ?_
  refine r_aload_n C dX7_heatOf_59 1 rfl ?_
  refine r_getr (q2 := 75) C dX7_heatOf_60 3 f_X7_33 rfl rfl ?_
  refine r_aload_n C dX7_heatOf_63 0 rfl ?_
  refine r_iload_n C dX7_heatOf_64 2 rfl ?_
  refine r_callVI (As := [.ref (mA G 2), .int (nI j)]) (rest := [.int (flowF V j)]) C dX7_heatOf_65 s_X7_294 (c_X2_warmthAbove l G hG M g V hT hC.net 75 isHour_75 (by decide) j h0 hj) (by decide) rfl rfl rfl rfl (Nat.le_of_ble_eq_true rfl) (Nat.le_of_ble_eq_true rfl) (Nat.le_of_ble_eq_true rfl) (pk_I ?_)
  refine r_valI (y := warmF V (vSup V) (vP V j)) (hC.wm (by have := (hpar j h0 hj).2; omega)) ?_
  refine r_aload_n C dX7_heatOf_68 1 rfl ?_
  refine r_getr (q2 := 75) C dX7_heatOf_69 3 f_X7_33 rfl rfl ?_
  refine r_getr (q2 := 77) C dX7_heatOf_72 1 f_X7_278 rfl rfl ?_
  refine r_iload_n C dX7_heatOf_75 2 rfl ?_
  refine r_ialdN (j := j) (v := warmF V (vSup V) j) C dX7_heatOf_76 rfl (rfl) (by omega) (by decide) (hC.wm hj) ?_
  refine r_isub C dX7_heatOf_77 ?_
  refine r_imul C dX7_heatOf_78 ?_
  exact hend _ _ _ _ _ dX7_heatOf_79 (rfl) (⟨rfl, rfl, rfl⟩)

set_option maxRecDepth 20000 in
set_option maxHeartbeats 1000000 in
theorem c_X7_heatOf_2 (l : Launch) (G : mG) (hG : mInj G) (M : Mem) (g : Glo) (V : View) (hT : wfT V) (hC : cOK M V) (j : Nat) (h0 : 0 < j) (hj : j < vN V) : mcI l G yX7_heatOf cX7_heatOf 4 .int 4 [.ref (mA G 0), .int (nI j), .int 2] M g (fun r M' g' => r = heatF V j 2 ∧ M' = M ∧ g' = g) := by
  refine mcI_of (L0 := [(0, .ref (mA G 0)), (1, .int (nI j)), (2, .int 2)]) hG (by decide) (Nat.le_of_ble_eq_true rfl) rfl ?_
  intro p e s m args below meth c Q C hend
  have hT0 := hT
  obtain ⟨hn1, hn16, hb4, ⟨hd0, hd3, hd5, hd6⟩, hpar⟩ := hT0
  refine r_aload_n C dX7_heatOf_0 0 rfl ?_
  refine r_getr (q2 := 1) C dX7_heatOf_1 0 f_X7_10 rfl rfl ?_
  refine r_getr (q2 := 2) C dX7_heatOf_4 0 f_X7_72 rfl rfl ?_
  refine r_astore_n (L' := [(3, .ref (mA G 2)), (0, .ref (mA G 0)), (1, .int (nI j)), (2, .int 2)]) C dX7_heatOf_7 (by decide) rfl ?_
  refine r_iload_n C dX7_heatOf_8 3 rfl ?_
  refine r_tableIn (off := 71) (tgt := 80) C dX7_heatOf_9 (by decide) (by decide) (by decide) (by decide) ?_
  refine r_aload_n C dX7_heatOf_80 0 rfl ?_
  refine r_getr (q2 := 8) C dX7_heatOf_81 5 f_X7_103 rfl rfl ?_
  refine r_iload_n C dX7_heatOf_84 2 rfl ?_
  refine r_ialdN (j := j) (v := vD V 5 j) C dX7_heatOf_85 rfl (rfl) (by omega) (by decide) (hC.net.at 5 (by decide) hj) ?_
  refine r_aload_n C dX7_heatOf_86 1 rfl ?_
  refine r_getr (q2 := 75) C dX7_heatOf_87 3 f_X7_33 rfl rfl ?_
  refine r_getr (q2 := 77) C dX7_heatOf_90 1 f_X7_278 rfl rfl ?_
  refine r_iload_n C dX7_heatOf_93 2 rfl ?_
  refine r_ialdN (j := j) (v := warmF V (vSup V) j) C dX7_heatOf_94 rfl (rfl) (by omega) (by decide) (hC.wm hj) ?_
  refine r_imul C dX7_heatOf_95 ?_
  exact hend _ _ _ _ _ dX7_heatOf_96 (rfl) (⟨rfl, rfl, rfl⟩)

set_option maxRecDepth 20000 in
set_option maxHeartbeats 1000000 in
theorem c_X7_heatOf_3 (l : Launch) (G : mG) (hG : mInj G) (M : Mem) (g : Glo) (V : View) (hT : wfT V) (hC : cOK M V) (j : Nat) (h0 : 0 < j) (hj : j < vN V) : mcI l G yX7_heatOf cX7_heatOf 4 .int 4 [.ref (mA G 0), .int (nI j), .int 3] M g (fun r M' g' => r = heatF V j 3 ∧ M' = M ∧ g' = g) := by
  refine mcI_of (L0 := [(0, .ref (mA G 0)), (1, .int (nI j)), (2, .int 3)]) hG (by decide) (Nat.le_of_ble_eq_true rfl) rfl ?_
  intro p e s m args below meth c Q C hend
  have hT0 := hT
  obtain ⟨hn1, hn16, hb4, ⟨hd0, hd3, hd5, hd6⟩, hpar⟩ := hT0
  refine r_aload_n C dX7_heatOf_0 0 rfl ?_
  refine r_getr (q2 := 1) C dX7_heatOf_1 0 f_X7_10 rfl rfl ?_
  refine r_getr (q2 := 2) C dX7_heatOf_4 0 f_X7_72 rfl rfl ?_
  refine r_astore_n (L' := [(3, .ref (mA G 2)), (0, .ref (mA G 0)), (1, .int (nI j)), (2, .int 3)]) C dX7_heatOf_7 (by decide) rfl ?_
  refine r_iload_n C dX7_heatOf_8 3 rfl ?_
  refine r_tableIn (off := 88) (tgt := 97) C dX7_heatOf_9 (by decide) (by decide) (by decide) (by decide) ?_
  refine r_aload_n C dX7_heatOf_97 1 rfl ?_
  refine r_getr (q2 := 75) C dX7_heatOf_98 3 f_X7_33 rfl rfl ?_
  refine r_getr (q2 := 78) C dX7_heatOf_101 2 f_X7_297 rfl rfl ?_
  refine r_iload_n C dX7_heatOf_104 2 rfl ?_
  refine r_ialdN (j := j) (v := backF V (vSup V) j) C dX7_heatOf_105 rfl (rfl) (by omega) (by decide) (hC.bk hj) ?_
  exact hend _ _ _ _ _ dX7_heatOf_106 (rfl) (⟨rfl, rfl, rfl⟩)

set_option maxRecDepth 20000 in
set_option maxHeartbeats 1000000 in
theorem c_X7_heatOf_4 (l : Launch) (G : mG) (hG : mInj G) (M : Mem) (g : Glo) (V : View) (hT : wfT V) (hC : cOK M V) (j : Nat) (h0 : 0 < j) (hj : j < vN V) : mcI l G yX7_heatOf cX7_heatOf 4 .int 4 [.ref (mA G 0), .int (nI j), .int 4] M g (fun r M' g' => r = heatF V j 4 ∧ M' = M ∧ g' = g) := by
  refine mcI_of (L0 := [(0, .ref (mA G 0)), (1, .int (nI j)), (2, .int 4)]) hG (by decide) (Nat.le_of_ble_eq_true rfl) rfl ?_
  intro p e s m args below meth c Q C hend
  have hT0 := hT
  obtain ⟨hn1, hn16, hb4, ⟨hd0, hd3, hd5, hd6⟩, hpar⟩ := hT0
  refine r_aload_n C dX7_heatOf_0 0 rfl ?_
  refine r_getr (q2 := 1) C dX7_heatOf_1 0 f_X7_10 rfl rfl ?_
  refine r_getr (q2 := 2) C dX7_heatOf_4 0 f_X7_72 rfl rfl ?_
  refine r_astore_n (L' := [(3, .ref (mA G 2)), (0, .ref (mA G 0)), (1, .int (nI j)), (2, .int 4)]) C dX7_heatOf_7 (by decide) rfl ?_
  refine r_iload_n C dX7_heatOf_8 3 rfl ?_
  refine r_tableIn (off := 98) (tgt := 107) C dX7_heatOf_9 (by decide) (by decide) (by decide) (by decide) ?_
  refine r_aload_n C dX7_heatOf_107 1 rfl ?_
  refine r_getr (q2 := 75) C dX7_heatOf_108 3 f_X7_33 rfl rfl ?_
  refine r_getr (q2 := 76) C dX7_heatOf_111 0 f_X7_216 rfl rfl ?_
  refine r_iload_n C dX7_heatOf_114 2 rfl ?_
  refine r_ialdN (j := j) (v := flowF V j) C dX7_heatOf_115 rfl (rfl) (by omega) (by decide) (hC.fl hj) ?_
  refine r_aload_n C dX7_heatOf_116 1 rfl ?_
  refine r_getr (q2 := 75) C dX7_heatOf_117 3 f_X7_33 rfl rfl ?_
  refine r_aload_n C dX7_heatOf_120 0 rfl ?_
  refine r_iload_n C dX7_heatOf_121 2 rfl ?_
  refine r_callVI (As := [.ref (mA G 2), .int (nI j)]) (rest := [.int (flowF V j)]) C dX7_heatOf_122 s_X7_294 (c_X2_warmthAbove l G hG M g V hT hC.net 75 isHour_75 (by decide) j h0 hj) (by decide) rfl rfl rfl rfl (Nat.le_of_ble_eq_true rfl) (Nat.le_of_ble_eq_true rfl) (Nat.le_of_ble_eq_true rfl) (pk_I ?_)
  refine r_valI (y := warmF V (vSup V) (vP V j)) (hC.wm (by have := (hpar j h0 hj).2; omega)) ?_
  refine r_imul C dX7_heatOf_125 ?_
  exact hend _ _ _ _ _ dX7_heatOf_126 (rfl) (⟨rfl, rfl, rfl⟩)

set_option maxRecDepth 20000 in
set_option maxHeartbeats 1000000 in
theorem c_X7_heatOf_5 (l : Launch) (G : mG) (hG : mInj G) (M : Mem) (g : Glo) (V : View) (hT : wfT V) (hC : cOK M V) (j : Nat) (h0 : 0 < j) (hj : j < vN V) : mcI l G yX7_heatOf cX7_heatOf 4 .int 4 [.ref (mA G 0), .int (nI j), .int 5] M g (fun r M' g' => r = heatF V j 5 ∧ M' = M ∧ g' = g) := by
  refine mcI_of (L0 := [(0, .ref (mA G 0)), (1, .int (nI j)), (2, .int 5)]) hG (by decide) (Nat.le_of_ble_eq_true rfl) rfl ?_
  intro p e s m args below meth c Q C hend
  have hT0 := hT
  obtain ⟨hn1, hn16, hb4, ⟨hd0, hd3, hd5, hd6⟩, hpar⟩ := hT0
  refine r_aload_n C dX7_heatOf_0 0 rfl ?_
  refine r_getr (q2 := 1) C dX7_heatOf_1 0 f_X7_10 rfl rfl ?_
  refine r_getr (q2 := 2) C dX7_heatOf_4 0 f_X7_72 rfl rfl ?_
  refine r_astore_n (L' := [(3, .ref (mA G 2)), (0, .ref (mA G 0)), (1, .int (nI j)), (2, .int 5)]) C dX7_heatOf_7 (by decide) rfl ?_
  refine r_iload_n C dX7_heatOf_8 3 rfl ?_
  refine r_tableOut (tgt := 127) C dX7_heatOf_9 (Or.inr (by decide)) (by decide) ?_
  refine r_aload_n C dX7_heatOf_127 1 rfl ?_
  refine r_iload_n C dX7_heatOf_128 2 rfl ?_
  refine r_callVI (As := [.int (nI j)]) (rest := []) C dX7_heatOf_129 s_X7_166 (c_X7_billOf l G hG M g V hT hC j h0 hj) (by decide) rfl rfl rfl rfl (Nat.le_of_ble_eq_true rfl) (Nat.le_of_ble_eq_true rfl) (Nat.le_of_ble_eq_true rfl) (pk_I ?_)
  exact hend _ _ _ _ _ dX7_heatOf_132 (rfl) (⟨rfl, rfl, rfl⟩)

theorem c_X7_heatOf (l : Launch) (G : mG) (hG : mInj G) (M : Mem) (g : Glo) (V : View) (hT : wfT V) (hC : cOK M V) (j : Nat) (h0 : 0 < j) (hj : j < vN V) (w : Nat) (hw : w < 6) : mcI l G yX7_heatOf cX7_heatOf 4 .int 4 [.ref (mA G 0), .int (nI j), .int (nI w)] M g (fun r M' g' => r = heatF V j w ∧ M' = M ∧ g' = g) := by
  have hc : w = 0 ∨ w = 1 ∨ w = 2 ∨ w = 3 ∨ w = 4 ∨ w = 5 := by omega
  rcases hc with rfl | rfl | rfl | rfl | rfl | rfl
  · exact c_X7_heatOf_0 l G hG M g V hT hC j h0 hj
  · exact c_X7_heatOf_1 l G hG M g V hT hC j h0 hj
  · exact c_X7_heatOf_2 l G hG M g V hT hC j h0 hj
  · exact c_X7_heatOf_3 l G hG M g V hT hC j h0 hj
  · exact c_X7_heatOf_4 l G hG M g V hT hC j h0 hj
  · exact c_X7_heatOf_5 l G hG M g V hT hC j h0 hj

set_option maxRecDepth 20000 in
set_option maxHeartbeats 1000000 in
theorem c_X7_sumOfHeats (l : Launch) (G : mG) (hG : mInj G) (M : Mem) (g : Glo) (V : View) (hT : wfT V) (hC : cOK M V) (w : Nat) (hw : w < 6) : mcI l G yX7_sumOfHeats cX7_sumOfHeats 4 .int 5 [.ref (mA G 0), .int (nI w)] M g (fun r M' g' => r = sumF V w ∧ M' = M ∧ g' = g) := by
  refine mcI_of (L0 := [(0, .ref (mA G 0)), (1, .int (nI w))]) hG (by decide) (Nat.le_of_ble_eq_true rfl) rfl ?_
  intro p e s m args below meth c Q C hend
  have hT0 := hT
  obtain ⟨hn1, hn16, hb4, ⟨hd0, hd3, hd5, hd6⟩, hpar⟩ := hT0
  refine r_iconst (v := 0) C dX7_sumOfHeats_0 rfl ?_
  refine r_istore_n (L' := [(2, .int 0), (0, .ref (mA G 0)), (1, .int (nI w))]) C dX7_sumOfHeats_1 (by decide) rfl ?_
  refine r_iconst (v := nI 1) C dX7_sumOfHeats_2 rfl ?_
  refine r_istore_n (L' := [(3, .int (nI 1)), (2, .int 0), (0, .ref (mA G 0)), (1, .int (nI w))]) C dX7_sumOfHeats_3 (by decide) rfl ?_
  have lp4 : ∀ (fu : Nat) (k : Nat) (a : Int32), (0 < k) → (k ≤ vN V) → (a = sumP (fun j => heatF V j w) k) → (vN V - k) < fu → At p l e (rmD 5 0 0) s m args below meth c G 4 0 0 Q M g [(3, .int (nI k)), (2, .int a), (0, .ref (mA G 0)), (1, .int (nI w))] 4 [] := by
    intro fu
    induction fu with
    | zero => intro k a hk0 hkn ha hfu; exact absurd hfu (Nat.not_lt_zero _)
    | succ fu ih4 =>
      intro k a hk0 hkn ha hfu4
      refine r_iload_n C dX7_sumOfHeats_4 0 rfl ?_
      refine r_aload_n C dX7_sumOfHeats_5 2 rfl ?_
      refine r_getr (q2 := 1) C dX7_sumOfHeats_6 0 f_X7_10 rfl rfl ?_
      refine r_getr (q2 := 2) C dX7_sumOfHeats_9 0 f_X7_72 rfl rfl ?_
      refine r_geti C dX7_sumOfHeats_12 8 f_X7_75 rfl rfl ?_
      refine r_valI (y := nI (vN V)) (hC.net.1) ?_
      refine r_icmp_ge (tgt := 33) C dX7_sumOfHeats_15 (by decide) (fun c15 => ?_) (fun c15 => ?_)
      ·
        have hkn2 : k = vN V := by have := le_of_le (by omega) (by omega) c15; omega
        refine r_iload_n C dX7_sumOfHeats_33 1 rfl ?_
        exact hend _ _ _ _ _ dX7_sumOfHeats_34 (rfl) (⟨by rw [ha, hkn2]; rfl, rfl, rfl⟩)
      ·
        have hlt : k < vN V := lt_of_nle (by omega) c15
        refine r_iload_n C dX7_sumOfHeats_18 1 rfl ?_
        refine r_aload_n C dX7_sumOfHeats_19 2 rfl ?_
        refine r_iload_n C dX7_sumOfHeats_20 0 rfl ?_
        refine r_iload_n C dX7_sumOfHeats_21 3 rfl ?_
        refine r_callVI (As := [.int (nI k), .int (nI w)]) (rest := [.int a]) C dX7_sumOfHeats_22 s_X7_116 (c_X7_heatOf l G hG M g V hT hC k hk0 hlt w hw) (by decide) rfl rfl rfl rfl (Nat.le_of_ble_eq_true rfl) (Nat.le_of_ble_eq_true rfl) (Nat.le_of_ble_eq_true rfl) (pk_I ?_)
        refine r_iadd C dX7_sumOfHeats_25 ?_
        refine r_istore_n (L' := [(2, .int (a + (heatF V k w))), (3, .int (nI k)), (0, .ref (mA G 0)), (1, .int (nI w))]) C dX7_sumOfHeats_26 (by decide) rfl ?_
        refine r_iinc (v := nI (k + 1)) (L' := [(3, .int (nI (k + 1))), (2, .int (a + (heatF V k w))), (0, .ref (mA G 0)), (1, .int (nI w))]) C dX7_sumOfHeats_27 1 rfl (nI_inc _) (by decide) rfl ?_
        refine r_goto (tgt := 4) C dX7_sumOfHeats_30 (by decide) ?_
        refine r_sub (L' := [(3, .int (nI (k + 1))), (2, .int (a + (heatF V k w))), (0, .ref (mA G 0)), (1, .int (nI w))]) [0, 1, 2, 3] rfl ?_
        exact ih4 (k + 1) (a + heatF V k w) (by omega) (by omega) (by rw [ha, sumP_s _ hk0]) (by omega)
  refine r_sub (L' := [(3, .int (nI 1)), (2, .int 0), (0, .ref (mA G 0)), (1, .int (nI w))]) [0, 1, 2, 3] rfl ?_
  exact lp4 _ 1 0 (by omega) hn1 (sumP_1 _).symm (Nat.lt_succ_self _)

set_option maxRecDepth 20000 in
set_option maxHeartbeats 1000000 in
theorem c_X7_number_0 (l : Launch) (G : mG) (hG : mInj G) (M : Mem) (g : Glo) (V : View) (hT : wfT V) (hC : cOK M V) : mcI l G yX7_number cX7_number 2 .int 4 [.ref (mA G 0), .int 0] M g (fun r M' g' => r = valF V 0 ∧ M' = M ∧ g' = g) := by
  refine mcI_of (L0 := [(0, .ref (mA G 0)), (1, .int 0)]) hG (by decide) (Nat.le_of_ble_eq_true rfl) rfl ?_
  intro p e s m args below meth c Q C hend
  have hT0 := hT
  obtain ⟨hn1, hn16, hb4, ⟨hd0, hd3, hd5, hd6⟩, hpar⟩ := hT0
  refine r_iload_n C dX7_number_0 1 rfl ?_
  refine r_tableIn (off := 71) (tgt := 72) C dX7_number_1 (by decide) (by decide) (by decide) (by decide) ?_
  refine r_aload_n C dX7_number_72 0 rfl ?_
  refine r_getr (q2 := 1) C dX7_number_73 0 f_X7_10 rfl rfl ?_
  refine r_geti C dX7_number_76 2 f_X7_106 rfl rfl ?_
  refine r_valI (y := vS V 0) (hC.1.2.2.1) ?_
  exact hend _ _ _ _ _ dX7_number_79 (rfl) (⟨rfl, rfl, rfl⟩)

set_option maxRecDepth 20000 in
set_option maxHeartbeats 1000000 in
theorem c_X7_number_1 (l : Launch) (G : mG) (hG : mInj G) (M : Mem) (g : Glo) (V : View) (hT : wfT V) (hC : cOK M V) : mcI l G yX7_number cX7_number 2 .int 4 [.ref (mA G 0), .int 1] M g (fun r M' g' => r = valF V 1 ∧ M' = M ∧ g' = g) := by
  refine mcI_of (L0 := [(0, .ref (mA G 0)), (1, .int 1)]) hG (by decide) (Nat.le_of_ble_eq_true rfl) rfl ?_
  intro p e s m args below meth c Q C hend
  have hT0 := hT
  obtain ⟨hn1, hn16, hb4, ⟨hd0, hd3, hd5, hd6⟩, hpar⟩ := hT0
  refine r_iload_n C dX7_number_0 1 rfl ?_
  refine r_tableIn (off := 79) (tgt := 80) C dX7_number_1 (by decide) (by decide) (by decide) (by decide) ?_
  refine r_aload_n C dX7_number_80 0 rfl ?_
  refine r_getr (q2 := 1) C dX7_number_81 0 f_X7_10 rfl rfl ?_
  refine r_geti C dX7_number_84 3 f_X7_109 rfl rfl ?_
  refine r_valI (y := vS V 1) (hC.1.2.2.2.1) ?_
  exact hend _ _ _ _ _ dX7_number_87 (rfl) (⟨rfl, rfl, rfl⟩)

set_option maxRecDepth 20000 in
set_option maxHeartbeats 1000000 in
theorem c_X7_number_2 (l : Launch) (G : mG) (hG : mInj G) (M : Mem) (g : Glo) (V : View) (hT : wfT V) (hC : cOK M V) : mcI l G yX7_number cX7_number 2 .int 4 [.ref (mA G 0), .int 2] M g (fun r M' g' => r = valF V 2 ∧ M' = M ∧ g' = g) := by
  refine mcI_of (L0 := [(0, .ref (mA G 0)), (1, .int 2)]) hG (by decide) (Nat.le_of_ble_eq_true rfl) rfl ?_
  intro p e s m args below meth c Q C hend
  have hT0 := hT
  obtain ⟨hn1, hn16, hb4, ⟨hd0, hd3, hd5, hd6⟩, hpar⟩ := hT0
  refine r_iload_n C dX7_number_0 1 rfl ?_
  refine r_tableIn (off := 87) (tgt := 88) C dX7_number_1 (by decide) (by decide) (by decide) (by decide) ?_
  refine r_aload_n C dX7_number_88 0 rfl ?_
  refine r_getr (q2 := 1) C dX7_number_89 0 f_X7_10 rfl rfl ?_
  refine r_geti C dX7_number_92 4 f_X7_149 rfl rfl ?_
  refine r_valI (y := vS V 2) (hC.1.2.2.2.2.1) ?_
  exact hend _ _ _ _ _ dX7_number_95 (rfl) (⟨rfl, rfl, rfl⟩)

set_option maxRecDepth 20000 in
set_option maxHeartbeats 1000000 in
theorem c_X7_number_3 (l : Launch) (G : mG) (hG : mInj G) (M : Mem) (g : Glo) (V : View) (hT : wfT V) (hC : cOK M V) : mcI l G yX7_number cX7_number 2 .int 4 [.ref (mA G 0), .int 3] M g (fun r M' g' => r = valF V 3 ∧ M' = M ∧ g' = g) := by
  refine mcI_of (L0 := [(0, .ref (mA G 0)), (1, .int 3)]) hG (by decide) (Nat.le_of_ble_eq_true rfl) rfl ?_
  intro p e s m args below meth c Q C hend
  have hT0 := hT
  obtain ⟨hn1, hn16, hb4, ⟨hd0, hd3, hd5, hd6⟩, hpar⟩ := hT0
  refine r_iload_n C dX7_number_0 1 rfl ?_
  refine r_tableIn (off := 95) (tgt := 96) C dX7_number_1 (by decide) (by decide) (by decide) (by decide) ?_
  refine r_aload_n C dX7_number_96 0 rfl ?_
  refine r_getr (q2 := 1) C dX7_number_97 0 f_X7_10 rfl rfl ?_
  refine r_geti C dX7_number_100 5 f_X7_152 rfl rfl ?_
  refine r_valI (y := vS V 3) (hC.1.2.2.2.2.2.1) ?_
  exact hend _ _ _ _ _ dX7_number_103 (rfl) (⟨rfl, rfl, rfl⟩)

set_option maxRecDepth 20000 in
set_option maxHeartbeats 1000000 in
theorem c_X7_number_4 (l : Launch) (G : mG) (hG : mInj G) (M : Mem) (g : Glo) (V : View) (hT : wfT V) (hC : cOK M V) : mcI l G yX7_number cX7_number 2 .int 4 [.ref (mA G 0), .int 4] M g (fun r M' g' => r = valF V 4 ∧ M' = M ∧ g' = g) := by
  refine mcI_of (L0 := [(0, .ref (mA G 0)), (1, .int 4)]) hG (by decide) (Nat.le_of_ble_eq_true rfl) rfl ?_
  intro p e s m args below meth c Q C hend
  have hT0 := hT
  obtain ⟨hn1, hn16, hb4, ⟨hd0, hd3, hd5, hd6⟩, hpar⟩ := hT0
  refine r_iload_n C dX7_number_0 1 rfl ?_
  refine r_tableIn (off := 103) (tgt := 104) C dX7_number_1 (by decide) (by decide) (by decide) (by decide) ?_
  refine r_aload_n C dX7_number_104 0 rfl ?_
  refine r_getr (q2 := 1) C dX7_number_105 0 f_X7_10 rfl rfl ?_
  refine r_geti C dX7_number_108 6 f_X7_155 rfl rfl ?_
  refine r_valI (y := vS V 4) (hC.1.2.2.2.2.2.2.1) ?_
  exact hend _ _ _ _ _ dX7_number_111 (rfl) (⟨rfl, rfl, rfl⟩)

set_option maxRecDepth 20000 in
set_option maxHeartbeats 1000000 in
theorem c_X7_number_5 (l : Launch) (G : mG) (hG : mInj G) (M : Mem) (g : Glo) (V : View) (hT : wfT V) (hC : cOK M V) : mcI l G yX7_number cX7_number 2 .int 4 [.ref (mA G 0), .int 5] M g (fun r M' g' => r = valF V 5 ∧ M' = M ∧ g' = g) := by
  refine mcI_of (L0 := [(0, .ref (mA G 0)), (1, .int 5)]) hG (by decide) (Nat.le_of_ble_eq_true rfl) rfl ?_
  intro p e s m args below meth c Q C hend
  have hT0 := hT
  obtain ⟨hn1, hn16, hb4, ⟨hd0, hd3, hd5, hd6⟩, hpar⟩ := hT0
  refine r_iload_n C dX7_number_0 1 rfl ?_
  refine r_tableIn (off := 111) (tgt := 112) C dX7_number_1 (by decide) (by decide) (by decide) (by decide) ?_
  refine r_aload_n C dX7_number_112 0 rfl ?_
  refine r_getr (q2 := 1) C dX7_number_113 0 f_X7_10 rfl rfl ?_
  refine r_getr (q2 := 2) C dX7_number_116 0 f_X7_72 rfl rfl ?_
  refine r_geti C dX7_number_119 8 f_X7_75 rfl rfl ?_
  refine r_valI (y := nI (vN V)) (hC.net.1) ?_
  exact hend _ _ _ _ _ dX7_number_122 (rfl) (⟨rfl, rfl, rfl⟩)

set_option maxRecDepth 20000 in
set_option maxHeartbeats 1000000 in
theorem c_X7_number_6 (l : Launch) (G : mG) (hG : mInj G) (M : Mem) (g : Glo) (V : View) (hT : wfT V) (hC : cOK M V) : mcI l G yX7_number cX7_number 2 .int 4 [.ref (mA G 0), .int 6] M g (fun r M' g' => r = valF V 6 ∧ M' = M ∧ g' = g) := by
  refine mcI_of (L0 := [(0, .ref (mA G 0)), (1, .int 6)]) hG (by decide) (Nat.le_of_ble_eq_true rfl) rfl ?_
  intro p e s m args below meth c Q C hend
  have hT0 := hT
  obtain ⟨hn1, hn16, hb4, ⟨hd0, hd3, hd5, hd6⟩, hpar⟩ := hT0
  refine r_iload_n C dX7_number_0 1 rfl ?_
  refine r_tableIn (off := 122) (tgt := 123) C dX7_number_1 (by decide) (by decide) (by decide) (by decide) ?_
  refine r_aload_n C dX7_number_123 0 rfl ?_
  refine r_getr (q2 := 1) C dX7_number_124 0 f_X7_10 rfl rfl ?_
  refine r_getr (q2 := 11) C dX7_number_127 1 f_X7_127 rfl rfl ?_
  refine r_geti C dX7_number_130 3 f_X7_131 rfl rfl ?_
  refine r_valI (y := nI (vB V)) (hC.boi.1) ?_
  exact hend _ _ _ _ _ dX7_number_133 (rfl) (⟨rfl, rfl, rfl⟩)

set_option maxRecDepth 20000 in
set_option maxHeartbeats 1000000 in
theorem c_X7_number_7 (l : Launch) (G : mG) (hG : mInj G) (M : Mem) (g : Glo) (V : View) (hT : wfT V) (hC : cOK M V) : mcI l G yX7_number cX7_number 2 .int 4 [.ref (mA G 0), .int 7] M g (fun r M' g' => r = valF V 7 ∧ M' = M ∧ g' = g) := by
  refine mcI_of (L0 := [(0, .ref (mA G 0)), (1, .int 7)]) hG (by decide) (Nat.le_of_ble_eq_true rfl) rfl ?_
  intro p e s m args below meth c Q C hend
  have hT0 := hT
  obtain ⟨hn1, hn16, hb4, ⟨hd0, hd3, hd5, hd6⟩, hpar⟩ := hT0
  refine r_iload_n C dX7_number_0 1 rfl ?_
  refine r_tableIn (off := 133) (tgt := 134) C dX7_number_1 (by decide) (by decide) (by decide) (by decide) ?_
  refine r_aload_n C dX7_number_134 0 rfl ?_
  refine r_getr (q2 := 75) C dX7_number_135 3 f_X7_33 rfl rfl ?_
  refine r_geti C dX7_number_138 4 f_X7_300 rfl rfl ?_
  refine r_valI (y := needF V (vSup V)) (hC.2.1.2.2.1) ?_
  exact hend _ _ _ _ _ dX7_number_141 (rfl) (⟨rfl, rfl, rfl⟩)

set_option maxRecDepth 20000 in
set_option maxHeartbeats 1000000 in
theorem c_X7_number_8 (l : Launch) (G : mG) (hG : mInj G) (M : Mem) (g : Glo) (V : View) (hT : wfT V) (hC : cOK M V) : mcI l G yX7_number cX7_number 2 .int 4 [.ref (mA G 0), .int 8] M g (fun r M' g' => r = valF V 8 ∧ M' = M ∧ g' = g) := by
  refine mcI_of (L0 := [(0, .ref (mA G 0)), (1, .int 8)]) hG (by decide) (Nat.le_of_ble_eq_true rfl) rfl ?_
  intro p e s m args below meth c Q C hend
  have hT0 := hT
  obtain ⟨hn1, hn16, hb4, ⟨hd0, hd3, hd5, hd6⟩, hpar⟩ := hT0
  refine r_iload_n C dX7_number_0 1 rfl ?_
  refine r_tableIn (off := 141) (tgt := 142) C dX7_number_1 (by decide) (by decide) (by decide) (by decide) ?_
  refine r_aload_n C dX7_number_142 0 rfl ?_
  refine r_getr (q2 := 75) C dX7_number_143 3 f_X7_33 rfl rfl ?_
  refine r_geti C dX7_number_146 5 f_X7_213 rfl rfl ?_
  refine r_valI (y := unmetF V (needF V (vSup V))) (hC.2.1.2.2.2.1) ?_
  exact hend _ _ _ _ _ dX7_number_149 (rfl) (⟨rfl, rfl, rfl⟩)

set_option maxRecDepth 20000 in
set_option maxHeartbeats 1000000 in
theorem c_X7_number_9 (l : Launch) (G : mG) (hG : mInj G) (M : Mem) (g : Glo) (V : View) (hT : wfT V) (hC : cOK M V) : mcI l G yX7_number cX7_number 2 .int 4 [.ref (mA G 0), .int 9] M g (fun r M' g' => r = valF V 9 ∧ M' = M ∧ g' = g) := by
  refine mcI_of (L0 := [(0, .ref (mA G 0)), (1, .int 9)]) hG (by decide) (Nat.le_of_ble_eq_true rfl) rfl ?_
  intro p e s m args below meth c Q C hend
  have hT0 := hT
  obtain ⟨hn1, hn16, hb4, ⟨hd0, hd3, hd5, hd6⟩, hpar⟩ := hT0
  refine r_iload_n C dX7_number_0 1 rfl ?_
  refine r_tableIn (off := 149) (tgt := 150) C dX7_number_1 (by decide) (by decide) (by decide) (by decide) ?_
  refine r_aload_n C dX7_number_150 0 rfl ?_
  refine r_getr (q2 := 75) C dX7_number_151 3 f_X7_33 rfl rfl ?_
  refine r_geti C dX7_number_154 6 f_X7_172 rfl rfl ?_
  refine r_valI (y := costF V (needF V (vSup V))) (hC.2.1.2.2.2.2) ?_
  exact hend _ _ _ _ _ dX7_number_157 (rfl) (⟨rfl, rfl, rfl⟩)

set_option maxRecDepth 20000 in
set_option maxHeartbeats 1000000 in
theorem c_X7_number_10 (l : Launch) (G : mG) (hG : mInj G) (M : Mem) (g : Glo) (V : View) (hT : wfT V) (hC : cOK M V) : mcI l G yX7_number cX7_number 2 .int 4 [.ref (mA G 0), .int 10] M g (fun r M' g' => r = valF V 10 ∧ M' = M ∧ g' = g) := by
  refine mcI_of (L0 := [(0, .ref (mA G 0)), (1, .int 10)]) hG (by decide) (Nat.le_of_ble_eq_true rfl) rfl ?_
  intro p e s m args below meth c Q C hend
  have hT0 := hT
  obtain ⟨hn1, hn16, hb4, ⟨hd0, hd3, hd5, hd6⟩, hpar⟩ := hT0
  refine r_iload_n C dX7_number_0 1 rfl ?_
  refine r_tableIn (off := 157) (tgt := 158) C dX7_number_1 (by decide) (by decide) (by decide) (by decide) ?_
  refine r_aload_n C dX7_number_158 0 rfl ?_
  refine r_getr (q2 := 1) C dX7_number_159 0 f_X7_10 rfl rfl ?_
  refine r_geti C dX7_number_162 8 f_X7_169 rfl rfl ?_
  refine r_valI (y := vS V 7) (hC.1.2.2.2.2.2.2.2.2) ?_
  exact hend _ _ _ _ _ dX7_number_165 (rfl) (⟨rfl, rfl, rfl⟩)

set_option maxRecDepth 20000 in
set_option maxHeartbeats 1000000 in
theorem c_X7_number_11 (l : Launch) (G : mG) (hG : mInj G) (M : Mem) (g : Glo) (V : View) (hT : wfT V) (hC : cOK M V) : mcI l G yX7_number cX7_number 2 .int 4 [.ref (mA G 0), .int 11] M g (fun r M' g' => r = valF V 11 ∧ M' = M ∧ g' = g) := by
  refine mcI_of (L0 := [(0, .ref (mA G 0)), (1, .int 11)]) hG (by decide) (Nat.le_of_ble_eq_true rfl) rfl ?_
  intro p e s m args below meth c Q C hend
  have hT0 := hT
  obtain ⟨hn1, hn16, hb4, ⟨hd0, hd3, hd5, hd6⟩, hpar⟩ := hT0
  refine r_iload_n C dX7_number_0 1 rfl ?_
  refine r_tableIn (off := 165) (tgt := 166) C dX7_number_1 (by decide) (by decide) (by decide) (by decide) ?_
  refine r_aload_n C dX7_number_166 0 rfl ?_
  refine r_getr (q2 := 1) C dX7_number_167 0 f_X7_10 rfl rfl ?_
  refine r_geti C dX7_number_170 7 f_X7_158 rfl rfl ?_
  refine r_valI (y := vS V 8) (hC.1.2.2.2.2.2.2.2.1) ?_
  exact hend _ _ _ _ _ dX7_number_173 (rfl) (⟨rfl, rfl, rfl⟩)

set_option maxRecDepth 20000 in
set_option maxHeartbeats 1000000 in
theorem c_X7_number_12 (l : Launch) (G : mG) (hG : mInj G) (M : Mem) (g : Glo) (V : View) (hT : wfT V) (hC : cOK M V) : mcI l G yX7_number cX7_number 2 .int 4 [.ref (mA G 0), .int 12] M g (fun r M' g' => r = valF V 12 ∧ M' = M ∧ g' = g) := by
  refine mcI_of (L0 := [(0, .ref (mA G 0)), (1, .int 12)]) hG (by decide) (Nat.le_of_ble_eq_true rfl) rfl ?_
  intro p e s m args below meth c Q C hend
  have hT0 := hT
  obtain ⟨hn1, hn16, hb4, ⟨hd0, hd3, hd5, hd6⟩, hpar⟩ := hT0
  refine r_iload_n C dX7_number_0 1 rfl ?_
  refine r_tableIn (off := 173) (tgt := 174) C dX7_number_1 (by decide) (by decide) (by decide) (by decide) ?_
  refine r_aload_n C dX7_number_174 0 rfl ?_
  refine r_getr (q2 := 1) C dX7_number_175 0 f_X7_10 rfl rfl ?_
  refine r_getr (q2 := 2) C dX7_number_178 0 f_X7_72 rfl rfl ?_
  refine r_callVI (As := []) (rest := []) C dX7_number_181 s_X7_303 (c_X3_accounts l G hG M g V hT hC.net) (by decide) rfl rfl rfl rfl (Nat.le_of_ble_eq_true rfl) (Nat.le_of_ble_eq_true rfl) (Nat.le_of_ble_eq_true rfl) (pk_I ?_)
  exact hend _ _ _ _ _ dX7_number_184 (rfl) (⟨rfl, rfl, rfl⟩)

set_option maxRecDepth 20000 in
set_option maxHeartbeats 1000000 in
theorem c_X7_number_13 (l : Launch) (G : mG) (hG : mInj G) (M : Mem) (g : Glo) (V : View) (hT : wfT V) (hC : cOK M V) : mcI l G yX7_number cX7_number 2 .int 4 [.ref (mA G 0), .int 13] M g (fun r M' g' => r = valF V 13 ∧ M' = M ∧ g' = g) := by
  refine mcI_of (L0 := [(0, .ref (mA G 0)), (1, .int 13)]) hG (by decide) (Nat.le_of_ble_eq_true rfl) rfl ?_
  intro p e s m args below meth c Q C hend
  have hT0 := hT
  obtain ⟨hn1, hn16, hb4, ⟨hd0, hd3, hd5, hd6⟩, hpar⟩ := hT0
  refine r_iload_n C dX7_number_0 1 rfl ?_
  refine r_tableIn (off := 184) (tgt := 185) C dX7_number_1 (by decide) (by decide) (by decide) (by decide) ?_
  refine r_aload_n C dX7_number_185 0 rfl ?_
  refine r_getr (q2 := 75) C dX7_number_186 3 f_X7_33 rfl rfl ?_
  refine r_getr (q2 := 78) C dX7_number_189 2 f_X7_297 rfl rfl ?_
  refine r_iconst (v := 0) C dX7_number_192 rfl ?_
  refine r_ialdN (j := 0) (v := backF V (vSup V) 0) C dX7_number_193 rfl (rfl) (by omega) (by decide) (hC.bk (by omega)) ?_
  exact hend _ _ _ _ _ dX7_number_194 (rfl) (⟨rfl, rfl, rfl⟩)

set_option maxRecDepth 20000 in
set_option maxHeartbeats 1000000 in
theorem c_X7_number_14 (l : Launch) (G : mG) (hG : mInj G) (M : Mem) (g : Glo) (V : View) (hT : wfT V) (hC : cOK M V) : mcI l G yX7_number cX7_number 2 .int 4 [.ref (mA G 0), .int 14] M g (fun r M' g' => r = valF V 14 ∧ M' = M ∧ g' = g) := by
  refine mcI_of (L0 := [(0, .ref (mA G 0)), (1, .int 14)]) hG (by decide) (Nat.le_of_ble_eq_true rfl) rfl ?_
  intro p e s m args below meth c Q C hend
  have hT0 := hT
  obtain ⟨hn1, hn16, hb4, ⟨hd0, hd3, hd5, hd6⟩, hpar⟩ := hT0
  refine r_iload_n C dX7_number_0 1 rfl ?_
  refine r_tableOut (tgt := 195) C dX7_number_1 (Or.inr (by decide)) (by decide) ?_
  refine r_aload_n C dX7_number_195 0 rfl ?_
  refine r_getr (q2 := 1) C dX7_number_196 0 f_X7_10 rfl rfl ?_
  refine r_getr (q2 := 2) C dX7_number_199 0 f_X7_72 rfl rfl ?_
  refine r_callVI (As := []) (rest := []) C dX7_number_202 s_X7_176 (c_X3_meters l G hG M g V hT hC.net) (by decide) rfl rfl rfl rfl (Nat.le_of_ble_eq_true rfl) (Nat.le_of_ble_eq_true rfl) (Nat.le_of_ble_eq_true rfl) (pk_I ?_)
  exact hend _ _ _ _ _ dX7_number_205 (rfl) (⟨rfl, rfl, rfl⟩)

theorem c_X7_number (l : Launch) (G : mG) (hG : mInj G) (M : Mem) (g : Glo) (V : View) (hT : wfT V) (hC : cOK M V) (w : Nat) (hw : w < 15) : mcI l G yX7_number cX7_number 2 .int 4 [.ref (mA G 0), .int (nI w)] M g (fun r M' g' => r = valF V w ∧ M' = M ∧ g' = g) := by
  have hc : w = 0 ∨ w = 1 ∨ w = 2 ∨ w = 3 ∨ w = 4 ∨ w = 5 ∨ w = 6 ∨ w = 7 ∨ w = 8 ∨ w = 9 ∨ w = 10 ∨ w = 11 ∨ w = 12 ∨ w = 13 ∨ w = 14 := by omega
  rcases hc with rfl | rfl | rfl | rfl | rfl | rfl | rfl | rfl | rfl | rfl | rfl | rfl | rfl | rfl | rfl
  · exact c_X7_number_0 l G hG M g V hT hC
  · exact c_X7_number_1 l G hG M g V hT hC
  · exact c_X7_number_2 l G hG M g V hT hC
  · exact c_X7_number_3 l G hG M g V hT hC
  · exact c_X7_number_4 l G hG M g V hT hC
  · exact c_X7_number_5 l G hG M g V hT hC
  · exact c_X7_number_6 l G hG M g V hT hC
  · exact c_X7_number_7 l G hG M g V hT hC
  · exact c_X7_number_8 l G hG M g V hT hC
  · exact c_X7_number_9 l G hG M g V hT hC
  · exact c_X7_number_10 l G hG M g V hT hC
  · exact c_X7_number_11 l G hG M g V hT hC
  · exact c_X7_number_12 l G hG M g V hT hC
  · exact c_X7_number_13 l G hG M g V hT hC
  · exact c_X7_number_14 l G hG M g V hT hC

set_option maxRecDepth 20000 in
set_option maxHeartbeats 1000000 in
theorem c_X7_boilerFact_0 (l : Launch) (G : mG) (hG : mInj G) (M : Mem) (g : Glo) (V : View) (hT : wfT V) (hC : cOK M V) (b : Nat) (hb : b < vB V) : mcI l G yX7_boilerFact cX7_boilerFact 4 .int 4 [.ref (mA G 0), .int (nI b), .int 0] M g (fun r M' g' => r = boiF V b 0 ∧ M' = M ∧ g' = g) := by
  refine mcI_of (L0 := [(0, .ref (mA G 0)), (1, .int (nI b)), (2, .int 0)]) hG (by decide) (Nat.le_of_ble_eq_true rfl) rfl ?_
  intro p e s m args below meth c Q C hend
  have hT0 := hT
  obtain ⟨hn1, hn16, hb4, ⟨hd0, hd3, hd5, hd6⟩, hpar⟩ := hT0
  refine r_aload_n C dX7_boilerFact_0 0 rfl ?_
  refine r_getr (q2 := 1) C dX7_boilerFact_1 0 f_X7_10 rfl rfl ?_
  refine r_getr (q2 := 11) C dX7_boilerFact_4 1 f_X7_127 rfl rfl ?_
  refine r_astore_n (L' := [(3, .ref (mA G 11)), (0, .ref (mA G 0)), (1, .int (nI b)), (2, .int 0)]) C dX7_boilerFact_7 (by decide) rfl ?_
  refine r_iload_n C dX7_boilerFact_8 3 rfl ?_
  refine r_tableIn (off := 31) (tgt := 40) C dX7_boilerFact_9 (by decide) (by decide) (by decide) (by decide) ?_
  refine r_aload_n C dX7_boilerFact_40 0 rfl ?_
  refine r_getr (q2 := 12) C dX7_boilerFact_41 0 f_X7_306 rfl rfl ?_
  refine r_iload_n C dX7_boilerFact_44 2 rfl ?_
  refine r_ialdN (j := b) (v := vO V 0 b) C dX7_boilerFact_45 rfl (rfl) (by omega) (by decide) (hC.boi.at 0 (by decide) hb) ?_
  exact hend _ _ _ _ _ dX7_boilerFact_46 (rfl) (⟨rfl, rfl, rfl⟩)

set_option maxRecDepth 20000 in
set_option maxHeartbeats 1000000 in
theorem c_X7_boilerFact_1 (l : Launch) (G : mG) (hG : mInj G) (M : Mem) (g : Glo) (V : View) (hT : wfT V) (hC : cOK M V) (b : Nat) (hb : b < vB V) : mcI l G yX7_boilerFact cX7_boilerFact 4 .int 4 [.ref (mA G 0), .int (nI b), .int 1] M g (fun r M' g' => r = boiF V b 1 ∧ M' = M ∧ g' = g) := by
  refine mcI_of (L0 := [(0, .ref (mA G 0)), (1, .int (nI b)), (2, .int 1)]) hG (by decide) (Nat.le_of_ble_eq_true rfl) rfl ?_
  intro p e s m args below meth c Q C hend
  have hT0 := hT
  obtain ⟨hn1, hn16, hb4, ⟨hd0, hd3, hd5, hd6⟩, hpar⟩ := hT0
  refine r_aload_n C dX7_boilerFact_0 0 rfl ?_
  refine r_getr (q2 := 1) C dX7_boilerFact_1 0 f_X7_10 rfl rfl ?_
  refine r_getr (q2 := 11) C dX7_boilerFact_4 1 f_X7_127 rfl rfl ?_
  refine r_astore_n (L' := [(3, .ref (mA G 11)), (0, .ref (mA G 0)), (1, .int (nI b)), (2, .int 1)]) C dX7_boilerFact_7 (by decide) rfl ?_
  refine r_iload_n C dX7_boilerFact_8 3 rfl ?_
  refine r_tableIn (off := 38) (tgt := 47) C dX7_boilerFact_9 (by decide) (by decide) (by decide) (by decide) ?_
  refine r_aload_n C dX7_boilerFact_47 0 rfl ?_
  refine r_getr (q2 := 13) C dX7_boilerFact_48 1 f_X7_309 rfl rfl ?_
  refine r_iload_n C dX7_boilerFact_51 2 rfl ?_
  refine r_ialdN (j := b) (v := vO V 1 b) C dX7_boilerFact_52 rfl (rfl) (by omega) (by decide) (hC.boi.at 1 (by decide) hb) ?_
  exact hend _ _ _ _ _ dX7_boilerFact_53 (rfl) (⟨rfl, rfl, rfl⟩)

set_option maxRecDepth 20000 in
set_option maxHeartbeats 1000000 in
theorem c_X7_boilerFact_2 (l : Launch) (G : mG) (hG : mInj G) (M : Mem) (g : Glo) (V : View) (hT : wfT V) (hC : cOK M V) (b : Nat) (hb : b < vB V) : mcI l G yX7_boilerFact cX7_boilerFact 4 .int 4 [.ref (mA G 0), .int (nI b), .int 2] M g (fun r M' g' => r = boiF V b 2 ∧ M' = M ∧ g' = g) := by
  refine mcI_of (L0 := [(0, .ref (mA G 0)), (1, .int (nI b)), (2, .int 2)]) hG (by decide) (Nat.le_of_ble_eq_true rfl) rfl ?_
  intro p e s m args below meth c Q C hend
  have hT0 := hT
  obtain ⟨hn1, hn16, hb4, ⟨hd0, hd3, hd5, hd6⟩, hpar⟩ := hT0
  refine r_aload_n C dX7_boilerFact_0 0 rfl ?_
  refine r_getr (q2 := 1) C dX7_boilerFact_1 0 f_X7_10 rfl rfl ?_
  refine r_getr (q2 := 11) C dX7_boilerFact_4 1 f_X7_127 rfl rfl ?_
  refine r_astore_n (L' := [(3, .ref (mA G 11)), (0, .ref (mA G 0)), (1, .int (nI b)), (2, .int 2)]) C dX7_boilerFact_7 (by decide) rfl ?_
  refine r_iload_n C dX7_boilerFact_8 3 rfl ?_
  refine r_tableIn (off := 45) (tgt := 54) C dX7_boilerFact_9 (by decide) (by decide) (by decide) (by decide) ?_
  refine r_aload_n C dX7_boilerFact_54 0 rfl ?_
  refine r_getr (q2 := 14) C dX7_boilerFact_55 2 f_X7_143 rfl rfl ?_
  refine r_iload_n C dX7_boilerFact_58 2 rfl ?_
  refine r_ialdN (j := b) (v := vO V 2 b) C dX7_boilerFact_59 rfl (rfl) (by omega) (by decide) (hC.boi.at 2 (by decide) hb) ?_
  exact hend _ _ _ _ _ dX7_boilerFact_60 (rfl) (⟨rfl, rfl, rfl⟩)

set_option maxRecDepth 20000 in
set_option maxHeartbeats 1000000 in
theorem c_X7_boilerFact_3 (l : Launch) (G : mG) (hG : mInj G) (M : Mem) (g : Glo) (V : View) (hT : wfT V) (hC : cOK M V) (b : Nat) (hb : b < vB V) : mcI l G yX7_boilerFact cX7_boilerFact 4 .int 4 [.ref (mA G 0), .int (nI b), .int 3] M g (fun r M' g' => r = boiF V b 3 ∧ M' = M ∧ g' = g) := by
  refine mcI_of (L0 := [(0, .ref (mA G 0)), (1, .int (nI b)), (2, .int 3)]) hG (by decide) (Nat.le_of_ble_eq_true rfl) rfl ?_
  intro p e s m args below meth c Q C hend
  have hT0 := hT
  obtain ⟨hn1, hn16, hb4, ⟨hd0, hd3, hd5, hd6⟩, hpar⟩ := hT0
  refine r_aload_n C dX7_boilerFact_0 0 rfl ?_
  refine r_getr (q2 := 1) C dX7_boilerFact_1 0 f_X7_10 rfl rfl ?_
  refine r_getr (q2 := 11) C dX7_boilerFact_4 1 f_X7_127 rfl rfl ?_
  refine r_astore_n (L' := [(3, .ref (mA G 11)), (0, .ref (mA G 0)), (1, .int (nI b)), (2, .int 3)]) C dX7_boilerFact_7 (by decide) rfl ?_
  refine r_iload_n C dX7_boilerFact_8 3 rfl ?_
  refine r_tableIn (off := 52) (tgt := 61) C dX7_boilerFact_9 (by decide) (by decide) (by decide) (by decide) ?_
  refine r_aload_n C dX7_boilerFact_61 1 rfl ?_
  refine r_getr (q2 := 75) C dX7_boilerFact_62 3 f_X7_33 rfl rfl ?_
  refine r_getr (q2 := 79) C dX7_boilerFact_65 3 f_X7_312 rfl rfl ?_
  refine r_iload_n C dX7_boilerFact_68 2 rfl ?_
  refine r_ialdN (j := b) (v := loadF V (needF V (vSup V)) b) C dX7_boilerFact_69 rfl (rfl) (by omega) (by decide) (hC.ld hb) ?_
  exact hend _ _ _ _ _ dX7_boilerFact_70 (rfl) (⟨rfl, rfl, rfl⟩)

set_option maxRecDepth 20000 in
set_option maxHeartbeats 1000000 in
theorem c_X7_boilerFact_4 (l : Launch) (G : mG) (hG : mInj G) (M : Mem) (g : Glo) (V : View) (hT : wfT V) (hC : cOK M V) (b : Nat) (hb : b < vB V) : mcI l G yX7_boilerFact cX7_boilerFact 4 .int 4 [.ref (mA G 0), .int (nI b), .int 4] M g (fun r M' g' => r = boiF V b 4 ∧ M' = M ∧ g' = g) := by
  refine mcI_of (L0 := [(0, .ref (mA G 0)), (1, .int (nI b)), (2, .int 4)]) hG (by decide) (Nat.le_of_ble_eq_true rfl) rfl ?_
  intro p e s m args below meth c Q C hend
  have hT0 := hT
  obtain ⟨hn1, hn16, hb4, ⟨hd0, hd3, hd5, hd6⟩, hpar⟩ := hT0
  refine r_aload_n C dX7_boilerFact_0 0 rfl ?_
  refine r_getr (q2 := 1) C dX7_boilerFact_1 0 f_X7_10 rfl rfl ?_
  refine r_getr (q2 := 11) C dX7_boilerFact_4 1 f_X7_127 rfl rfl ?_
  refine r_astore_n (L' := [(3, .ref (mA G 11)), (0, .ref (mA G 0)), (1, .int (nI b)), (2, .int 4)]) C dX7_boilerFact_7 (by decide) rfl ?_
  refine r_iload_n C dX7_boilerFact_8 3 rfl ?_
  refine r_tableOut (tgt := 71) C dX7_boilerFact_9 (Or.inr (by decide)) (by decide) ?_
  refine r_aload_n C dX7_boilerFact_71 0 rfl ?_
  refine r_iload_n C dX7_boilerFact_72 2 rfl ?_
  refine r_callVI (As := [.int (nI b)]) (rest := []) C dX7_boilerFact_73 s_X7_315 (c_X0_placeOf l G hG M g V hT hC.boi b hb) (by decide) rfl rfl rfl rfl (Nat.le_of_ble_eq_true rfl) (Nat.le_of_ble_eq_true rfl) (Nat.le_of_ble_eq_true rfl) (pk_I ?_)
  exact hend _ _ _ _ _ dX7_boilerFact_76 (rfl) (⟨rfl, rfl, rfl⟩)

theorem c_X7_boilerFact (l : Launch) (G : mG) (hG : mInj G) (M : Mem) (g : Glo) (V : View) (hT : wfT V) (hC : cOK M V) (b : Nat) (hb : b < vB V) (w : Nat) (hw : w < 5) : mcI l G yX7_boilerFact cX7_boilerFact 4 .int 4 [.ref (mA G 0), .int (nI b), .int (nI w)] M g (fun r M' g' => r = boiF V b w ∧ M' = M ∧ g' = g) := by
  have hc : w = 0 ∨ w = 1 ∨ w = 2 ∨ w = 3 ∨ w = 4 := by omega
  rcases hc with rfl | rfl | rfl | rfl | rfl
  · exact c_X7_boilerFact_0 l G hG M g V hT hC b hb
  · exact c_X7_boilerFact_1 l G hG M g V hT hC b hb
  · exact c_X7_boilerFact_2 l G hG M g V hT hC b hb
  · exact c_X7_boilerFact_3 l G hG M g V hT hC b hb
  · exact c_X7_boilerFact_4 l G hG M g V hT hC b hb
