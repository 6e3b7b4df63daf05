theorem not_of {p : Prop} (h : p) : ¬ ¬ p := fun z => z h
def eAdd (V : View) (a l s d t : Int32) : Nat := if ¬ isNd V a then 1 else if ¬ (inW l 1 500 ∧ inW s 0 50 ∧ inW d 0 500 ∧ inW t 0 1200) then 2 else if vN V = 16 then 3 else 0
def eDraw (V : View) (n d t : Int32) : Nat := if ¬ isPp V n then 1 else if ¬ (inW d 0 500 ∧ inW t 0 1200) then 2 else 0
def eLeak (V : View) (n k : Int32) : Nat := if ¬ isPp V n then 1 else if ¬ inW k 0 100 then 2 else 0
def eTemp (s k : Int32) : Nat := if ¬ (inW s 400 1200 ∧ inW k (-200) 300) then 1 else 0
def eNode (V : View) (n w : Int32) : Nat := if ¬ isNd V n then 1 else if ¬ inW w 0 11 then 2 else 0
def eHeat (V : View) (n w : Int32) : Nat := if ¬ isPp V n then 1 else if ¬ inW w 0 5 then 2 else 0
def eIn (w a b : Int32) : Nat := if ¬ inW w a b then 1 else 0
def eBoi (V : View) (a l s : Int32) : Nat := if ¬ (inW a 1 9999999 ∧ inW l 0 a ∧ inW s 0 99) then 1 else if vB V = 4 then 2 else 0
def eCost (V : View) (b x : Int32) : Nat := if ¬ isBo V b then 1 else if ¬ inW x 0 99 then 2 else 0
def eBoiler (V : View) (b w : Int32) : Nat := if ¬ isBo V b then 1 else if ¬ inW w 0 4 then 2 else 0
def eTar (a b d : Int32) : Nat := if ¬ (inW a 0 999 ∧ inW b 0 1200 ∧ inW d 0 99) then 1 else 0
def ePass (V : View) (h : Int32) : Nat := if ¬ inW h 1 100 then 1 else if 200 < vS V 8 + h then 2 else 0
def eNd (V : View) (n : Int32) : Nat := if ¬ isNd V n then 1 else 0
def ePp (V : View) (n : Int32) : Nat := if ¬ isPp V n then 1 else 0
def eSup (V : View) (n w : Int32) : Nat := if ¬ isPp V n then 1 else if ¬ inW w (-200) 1200 then 2 else 0
def eApp (len : Nat) (x : Int32) : Nat := if ¬ inW x 0 127 then 1 else if len = 180 then 2 else 0
def eUndo (Hs : List View) : Nat := if Hs.length = 0 then 1 else 0

set_option maxRecDepth 20000 in
set_option maxHeartbeats 1000000 in
theorem c_X7_heat (l : Launch) (G : mG) (hG : mInj G) (M : Mem) (g : Glo) (hfl : l.stackTraces = false) (V : View) (Hs : List View) (len : Nat) (T : Nat → Int32) (hI : cINV M V Hs len T) (n w : Int32) : mcXI l G yX7_heat cX7_heat 3 7 2 12 [.ref (mA G 0), .int n, .int w] M g (fun r M' g' => (eHeat V n w = 0 ∧ r = heatF V n.toNatClampNeg w.toNatClampNeg) ∧ M' = M ∧ g' = g) (fun E => (E = IOO ∧ eHeat V n w = 1) ∨ (E = IAE ∧ eHeat V n w = 2)) := by
  refine mcXI_of (L0 := [(0, .ref (mA G 0)), (1, .int n), (2, .int w)]) hG (by decide) (Nat.le_of_ble_eq_true rfl) rfl ?_
  intro p e s m args below meth c Q C hno hend hqw hqx
  obtain ⟨hC, hW, hH, hHs, hTx, hP0⟩ := id hI
  have hT := hW.1
  obtain ⟨hn1, hn16, hb4, ⟨hd0, hd3, hd5, hd6⟩, hpar⟩ := id hT
  refine r_aload_n C dX7_heat_0 0 rfl ?_
  refine r_iload_n C dX7_heat_1 1 rfl ?_
  refine r_xVV (As := [.int n]) (rest := []) C dX7_heat_2 s_X7_94 (c_X7_requirePipe l G hG M g hfl V hn16 hC.net.1 n) (by decide) rfl rfl rfl rfl (Nat.le_of_ble_eq_true rfl) (Nat.le_of_ble_eq_true rfl) (Nat.le_of_ble_eq_true rfl) (fun E9 hE9 => r_outX hno hqx (Or.inl (⟨hE9.1, if_pos hE9.2⟩)) (Nat.le_of_ble_eq_true rfl) (Nat.le_of_ble_eq_true rfl)) (pk_VC (fun hc2 => ?_))
  obtain ⟨j, hj0, hj, hnj⟩ := isPp_nI (by omega) hc2
  have e9 : n.toNatClampNeg = j := by rw [hnj]; exact nI_clamp (by omega)
  refine r_iload_n C dX7_heat_5 2 rfl ?_
  refine r_iconst (v := 0) C dX7_heat_6 rfl ?_
  refine r_iconst (v := 5) C dX7_heat_7 rfl ?_
  refine r_xSV (As := [.int w, .int 0, .int 5]) (rest := []) C dX7_heat_8 s_X7_68 (c_X7_requireWithin l G hG M g hfl w 0 5) (by decide) rfl rfl (Nat.le_of_ble_eq_true rfl) (Nat.le_of_ble_eq_true rfl) (Nat.le_of_ble_eq_true rfl) (fun E9 hE9 => r_outX hno hqx (Or.inr (⟨hE9.1, (if_neg (not_of hc2)).trans (if_pos hE9.2)⟩)) (Nat.le_of_ble_eq_true rfl) (Nat.le_of_ble_eq_true rfl)) (pk_VC (fun hc8 => ?_))
  obtain ⟨k, hk, hwk⟩ := nI_of2 (x := w) (M := 5) (n := 5) (by decide) (i32_nlt.mpr hc8.1) hc8.2
  have e8 : w.toNatClampNeg = k := by rw [hwk]; exact nI_clamp (by omega)
  refine r_aload_n C dX7_heat_11 0 rfl ?_
  refine r_iload_n C dX7_heat_12 1 rfl ?_
  refine r_valI (y := nI j) (hnj) ?_
  refine r_iload_n C dX7_heat_13 2 rfl ?_
  refine r_valI (y := nI k) (hwk) ?_
  refine r_callVI (As := [.int (nI j), .int (nI k)]) (rest := []) C dX7_heat_14 s_X7_116 (c_X7_heatOf l G hG M g V hT hC j hj0 hj k (by omega)) (by decide) rfl rfl rfl rfl (Nat.le_of_ble_eq_true rfl) (Nat.le_of_ble_eq_true rfl) (Nat.le_of_ble_eq_true rfl) (pk_I ?_)
  exact hend _ _ _ _ _ _ _ (Nat.le_of_ble_eq_true rfl) (Nat.le_of_ble_eq_true rfl) dX7_heat_17 (by rw [e9, e8]; exact ⟨⟨(if_neg (not_of hc2)).trans (if_neg (not_of hc8)), rfl⟩, rfl, rfl⟩)

set_option maxRecDepth 20000 in
set_option maxHeartbeats 1000000 in
theorem c_X7_value (l : Launch) (G : mG) (hG : mInj G) (M : Mem) (g : Glo) (hfl : l.stackTraces = false) (V : View) (Hs : List View) (len : Nat) (T : Nat → Int32) (hI : cINV M V Hs len T) (w : Int32) : mcXI l G yX7_value cX7_value 2 7 1 6 [.ref (mA G 0), .int w] M g (fun r M' g' => (eIn w 0 14 = 0 ∧ r = valF V w.toNatClampNeg) ∧ M' = M ∧ g' = g) (fun E => (E = IAE ∧ eIn w 0 14 = 1)) := by
  refine mcXI_of (L0 := [(0, .ref (mA G 0)), (1, .int w)]) hG (by decide) (Nat.le_of_ble_eq_true rfl) rfl ?_
  intro p e s m args below meth c Q C hno hend hqw hqx
  obtain ⟨hC, hW, hH, hHs, hTx, hP0⟩ := id hI
  have hT := hW.1
  obtain ⟨hn1, hn16, hb4, ⟨hd0, hd3, hd5, hd6⟩, hpar⟩ := id hT
  refine r_iload_n C dX7_value_0 1 rfl ?_
  refine r_iconst (v := 0) C dX7_value_1 rfl ?_
  refine r_bipush (v := 14) C dX7_value_2 rfl ?_
  refine r_xSV (As := [.int w, .int 0, .int 14]) (rest := []) C dX7_value_4 s_X7_68 (c_X7_requireWithin l G hG M g hfl w 0 14) (by decide) rfl rfl (Nat.le_of_ble_eq_true rfl) (Nat.le_of_ble_eq_true rfl) (Nat.le_of_ble_eq_true rfl) (fun E9 hE9 => r_outX hno hqx (⟨hE9.1, if_pos hE9.2⟩) (Nat.le_of_ble_eq_true rfl) (Nat.le_of_ble_eq_true rfl)) (pk_VC (fun hc4 => ?_))
  obtain ⟨k, hk, hwk⟩ := nI_of2 (x := w) (M := 14) (n := 14) (by decide) (i32_nlt.mpr hc4.1) hc4.2
  have e8 : w.toNatClampNeg = k := by rw [hwk]; exact nI_clamp (by omega)
  refine r_aload_n C dX7_value_7 0 rfl ?_
  refine r_iload_n C dX7_value_8 1 rfl ?_
  refine r_valI (y := nI k) (hwk) ?_
  refine r_callVI (As := [.int (nI k)]) (rest := []) C dX7_value_9 s_X7_119 (c_X7_number l G hG M g V hT hC k (by omega)) (by decide) rfl rfl rfl rfl (Nat.le_of_ble_eq_true rfl) (Nat.le_of_ble_eq_true rfl) (Nat.le_of_ble_eq_true rfl) (pk_I ?_)
  exact hend _ _ _ _ _ _ _ (Nat.le_of_ble_eq_true rfl) (Nat.le_of_ble_eq_true rfl) dX7_value_12 (by rw [e8]; exact ⟨⟨if_neg (not_of hc4), rfl⟩, rfl, rfl⟩)

set_option maxRecDepth 20000 in
set_option maxHeartbeats 1000000 in
theorem c_X7_sum (l : Launch) (G : mG) (hG : mInj G) (M : Mem) (g : Glo) (hfl : l.stackTraces = false) (V : View) (Hs : List View) (len : Nat) (T : Nat → Int32) (hI : cINV M V Hs len T) (w : Int32) : mcXI l G yX7_sum cX7_sum 2 7 1 6 [.ref (mA G 0), .int w] M g (fun r M' g' => (eIn w 0 2 = 0 ∧ r = sumF V w.toNatClampNeg) ∧ M' = M ∧ g' = g) (fun E => (E = IAE ∧ eIn w 0 2 = 1)) := by
  refine mcXI_of (L0 := [(0, .ref (mA G 0)), (1, .int w)]) hG (by decide) (Nat.le_of_ble_eq_true rfl) rfl ?_
  intro p e s m args below meth c Q C hno hend hqw hqx
  obtain ⟨hC, hW, hH, hHs, hTx, hP0⟩ := id hI
  have hT := hW.1
  obtain ⟨hn1, hn16, hb4, ⟨hd0, hd3, hd5, hd6⟩, hpar⟩ := id hT
  refine r_iload_n C dX7_sum_0 1 rfl ?_
  refine r_iconst (v := 0) C dX7_sum_1 rfl ?_
  refine r_iconst (v := 2) C dX7_sum_2 rfl ?_
  refine r_xSV (As := [.int w, .int 0, .int 2]) (rest := []) C dX7_sum_3 s_X7_68 (c_X7_requireWithin l G hG M g hfl w 0 2) (by decide) rfl rfl (Nat.le_of_ble_eq_true rfl) (Nat.le_of_ble_eq_true rfl) (Nat.le_of_ble_eq_true rfl) (fun E9 hE9 => r_outX hno hqx (⟨hE9.1, if_pos hE9.2⟩) (Nat.le_of_ble_eq_true rfl) (Nat.le_of_ble_eq_true rfl)) (pk_VC (fun hc3 => ?_))
  obtain ⟨k, hk, hwk⟩ := nI_of2 (x := w) (M := 2) (n := 2) (by decide) (i32_nlt.mpr hc3.1) hc3.2
  have e8 : w.toNatClampNeg = k := by rw [hwk]; exact nI_clamp (by omega)
  refine r_aload_n C dX7_sum_6 0 rfl ?_
  refine r_iload_n C dX7_sum_7 1 rfl ?_
  refine r_valI (y := nI k) (hwk) ?_
  refine r_callVI (As := [.int (nI k)]) (rest := []) C dX7_sum_8 s_X7_123 (c_X7_sumOfHeats l G hG M g V hT hC k (by omega)) (by decide) rfl rfl rfl rfl (Nat.le_of_ble_eq_true rfl) (Nat.le_of_ble_eq_true rfl) (Nat.le_of_ble_eq_true rfl) (pk_I ?_)
  exact hend _ _ _ _ _ _ _ (Nat.le_of_ble_eq_true rfl) (Nat.le_of_ble_eq_true rfl) dX7_sum_11 (by rw [e8]; exact ⟨⟨if_neg (not_of hc3), rfl⟩, rfl, rfl⟩)

set_option maxRecDepth 20000 in
set_option maxHeartbeats 1000000 in
theorem c_X7_boiler (l : Launch) (G : mG) (hG : mInj G) (M : Mem) (g : Glo) (hfl : l.stackTraces = false) (V : View) (Hs : List View) (len : Nat) (T : Nat → Int32) (hI : cINV M V Hs len T) (n w : Int32) : mcXI l G yX7_boiler cX7_boiler 3 7 2 12 [.ref (mA G 0), .int n, .int w] M g (fun r M' g' => (eBoiler V n w = 0 ∧ r = boiF V n.toNatClampNeg w.toNatClampNeg) ∧ M' = M ∧ g' = g) (fun E => (E = IOO ∧ eBoiler V n w = 1) ∨ (E = IAE ∧ eBoiler V n w = 2)) := by
  refine mcXI_of (L0 := [(0, .ref (mA G 0)), (1, .int n), (2, .int w)]) hG (by decide) (Nat.le_of_ble_eq_true rfl) rfl ?_
  intro p e s m args below meth c Q C hno hend hqw hqx
  obtain ⟨hC, hW, hH, hHs, hTx, hP0⟩ := id hI
  have hT := hW.1
  obtain ⟨hn1, hn16, hb4, ⟨hd0, hd3, hd5, hd6⟩, hpar⟩ := id hT
  refine r_aload_n C dX7_boiler_0 0 rfl ?_
  refine r_iload_n C dX7_boiler_1 1 rfl ?_
  refine r_xVV (As := [.int n]) (rest := []) C dX7_boiler_2 s_X7_140 (c_X7_requireBoiler l G hG M g hfl V hb4 hC.boi.1 n) (by decide) rfl rfl rfl rfl (Nat.le_of_ble_eq_true rfl) (Nat.le_of_ble_eq_true rfl) (Nat.le_of_ble_eq_true rfl) (fun E9 hE9 => r_outX hno hqx (Or.inl (⟨hE9.1, if_pos hE9.2⟩)) (Nat.le_of_ble_eq_true rfl) (Nat.le_of_ble_eq_true rfl)) (pk_VC (fun hc2 => ?_))
  obtain ⟨j, hj, hnj⟩ := isBo_nI (by omega) hc2
  have e9 : n.toNatClampNeg = j := by rw [hnj]; exact nI_clamp (by omega)
  refine r_iload_n C dX7_boiler_5 2 rfl ?_
  refine r_iconst (v := 0) C dX7_boiler_6 rfl ?_
  refine r_iconst (v := 4) C dX7_boiler_7 rfl ?_
  refine r_xSV (As := [.int w, .int 0, .int 4]) (rest := []) C dX7_boiler_8 s_X7_68 (c_X7_requireWithin l G hG M g hfl w 0 4) (by decide) rfl rfl (Nat.le_of_ble_eq_true rfl) (Nat.le_of_ble_eq_true rfl) (Nat.le_of_ble_eq_true rfl) (fun E9 hE9 => r_outX hno hqx (Or.inr (⟨hE9.1, (if_neg (not_of hc2)).trans (if_pos hE9.2)⟩)) (Nat.le_of_ble_eq_true rfl) (Nat.le_of_ble_eq_true rfl)) (pk_VC (fun hc8 => ?_))
  obtain ⟨k, hk, hwk⟩ := nI_of2 (x := w) (M := 4) (n := 4) (by decide) (i32_nlt.mpr hc8.1) hc8.2
  have e8 : w.toNatClampNeg = k := by rw [hwk]; exact nI_clamp (by omega)
  refine r_aload_n C dX7_boiler_11 0 rfl ?_
  refine r_iload_n C dX7_boiler_12 1 rfl ?_
  refine r_valI (y := nI j) (hnj) ?_
  refine r_iload_n C dX7_boiler_13 2 rfl ?_
  refine r_valI (y := nI k) (hwk) ?_
  refine r_callVI (As := [.int (nI j), .int (nI k)]) (rest := []) C dX7_boiler_14 s_X7_146 (c_X7_boilerFact l G hG M g V hT hC j hj k (by omega)) (by decide) rfl rfl rfl rfl (Nat.le_of_ble_eq_true rfl) (Nat.le_of_ble_eq_true rfl) (Nat.le_of_ble_eq_true rfl) (pk_I ?_)
  exact hend _ _ _ _ _ _ _ (Nat.le_of_ble_eq_true rfl) (Nat.le_of_ble_eq_true rfl) dX7_boiler_17 (by rw [e9, e8]; exact ⟨⟨(if_neg (not_of hc2)).trans (if_neg (not_of hc8)), rfl⟩, rfl, rfl⟩)

set_option maxRecDepth 20000 in
set_option maxHeartbeats 1000000 in
theorem c_X7_balance (l : Launch) (G : mG) (hG : mInj G) (M : Mem) (g : Glo) (hfl : l.stackTraces = false) (V : View) (Hs : List View) (len : Nat) (T : Nat → Int32) (hI : cINV M V Hs len T) (n : Int32) : mcXI l G yX7_balance cX7_balance 2 7 1 6 [.ref (mA G 0), .int n] M g (fun r M' g' => (eNd V n = 0 ∧ r = balF (vD V 6) (lkF V (vD V 6)) n.toNatClampNeg) ∧ M' = M ∧ g' = g) (fun E => (E = IOO ∧ eNd V n = 1)) := by
  refine mcXI_of (L0 := [(0, .ref (mA G 0)), (1, .int n)]) hG (by decide) (Nat.le_of_ble_eq_true rfl) rfl ?_
  intro p e s m args below meth c Q C hno hend hqw hqx
  obtain ⟨hC, hW, hH, hHs, hTx, hP0⟩ := id hI
  have hT := hW.1
  obtain ⟨hn1, hn16, hb4, ⟨hd0, hd3, hd5, hd6⟩, hpar⟩ := id hT
  refine r_aload_n C dX7_balance_0 0 rfl ?_
  refine r_iload_n C dX7_balance_1 1 rfl ?_
  refine r_xVV (As := [.int n]) (rest := []) C dX7_balance_2 s_X7_64 (c_X7_requireNode l G hG M g hfl V hn16 hC.net.1 n) (by decide) rfl rfl rfl rfl (Nat.le_of_ble_eq_true rfl) (Nat.le_of_ble_eq_true rfl) (Nat.le_of_ble_eq_true rfl) (fun E9 hE9 => r_outX hno hqx (⟨hE9.1, if_pos hE9.2⟩) (Nat.le_of_ble_eq_true rfl) (Nat.le_of_ble_eq_true rfl)) (pk_VC (fun hc2 => ?_))
  obtain ⟨j, hj, hnj⟩ := isNd_nI (by omega) hc2
  have e9 : n.toNatClampNeg = j := by rw [hnj]; exact nI_clamp (by omega)
  refine r_aload_n C dX7_balance_5 0 rfl ?_
  refine r_getr (q2 := 80) C dX7_balance_6 4 f_X7_40 rfl rfl ?_
  refine r_iload_n C dX7_balance_9 1 rfl ?_
  refine r_valI (y := nI j) (hnj) ?_
  refine r_callVI (As := [.int (nI j)]) (rest := []) C dX7_balance_10 s_X7_180 (c_X5_balanceAt l G hG M g 80 isRegs_80 (by decide) j (by omega)) (by decide) rfl rfl rfl rfl (Nat.le_of_ble_eq_true rfl) (Nat.le_of_ble_eq_true rfl) (Nat.le_of_ble_eq_true rfl) (pk_I ?_)
  refine r_valI (y := balF (vD V 6) (lkF V (vD V 6)) j) (rg_bal hC.2.2 hj) ?_
  exact hend _ _ _ _ _ _ _ (Nat.le_of_ble_eq_true rfl) (Nat.le_of_ble_eq_true rfl) dX7_balance_13 (by rw [e9]; exact ⟨⟨if_neg (not_of hc2), rfl⟩, rfl, rfl⟩)

set_option maxRecDepth 20000 in
set_option maxHeartbeats 1000000 in
theorem c_X7_region (l : Launch) (G : mG) (hG : mInj G) (M : Mem) (g : Glo) (hfl : l.stackTraces = false) (V : View) (Hs : List View) (len : Nat) (T : Nat → Int32) (hI : cINV M V Hs len T) (n : Int32) : mcXI l G yX7_region cX7_region 2 7 1 6 [.ref (mA G 0), .int n] M g (fun r M' g' => (eNd V n = 0 ∧ r = balF (vD V 6) (szF V (vD V 6)) n.toNatClampNeg) ∧ M' = M ∧ g' = g) (fun E => (E = IOO ∧ eNd V n = 1)) := by
  refine mcXI_of (L0 := [(0, .ref (mA G 0)), (1, .int n)]) hG (by decide) (Nat.le_of_ble_eq_true rfl) rfl ?_
  intro p e s m args below meth c Q C hno hend hqw hqx
  obtain ⟨hC, hW, hH, hHs, hTx, hP0⟩ := id hI
  have hT := hW.1
  obtain ⟨hn1, hn16, hb4, ⟨hd0, hd3, hd5, hd6⟩, hpar⟩ := id hT
  refine r_aload_n C dX7_region_0 0 rfl ?_
  refine r_iload_n C dX7_region_1 1 rfl ?_
  refine r_xVV (As := [.int n]) (rest := []) C dX7_region_2 s_X7_64 (c_X7_requireNode l G hG M g hfl V hn16 hC.net.1 n) (by decide) rfl rfl rfl rfl (Nat.le_of_ble_eq_true rfl) (Nat.le_of_ble_eq_true rfl) (Nat.le_of_ble_eq_true rfl) (fun E9 hE9 => r_outX hno hqx (⟨hE9.1, if_pos hE9.2⟩) (Nat.le_of_ble_eq_true rfl) (Nat.le_of_ble_eq_true rfl)) (pk_VC (fun hc2 => ?_))
  obtain ⟨j, hj, hnj⟩ := isNd_nI (by omega) hc2
  have e9 : n.toNatClampNeg = j := by rw [hnj]; exact nI_clamp (by omega)
  refine r_aload_n C dX7_region_5 0 rfl ?_
  refine r_getr (q2 := 80) C dX7_region_6 4 f_X7_40 rfl rfl ?_
  refine r_iload_n C dX7_region_9 1 rfl ?_
  refine r_valI (y := nI j) (hnj) ?_
  refine r_callVI (As := [.int (nI j)]) (rest := []) C dX7_region_10 s_X7_183 (c_X5_sizeAt l G hG M g 80 isRegs_80 (by decide) j (by omega)) (by decide) rfl rfl rfl rfl (Nat.le_of_ble_eq_true rfl) (Nat.le_of_ble_eq_true rfl) (Nat.le_of_ble_eq_true rfl) (pk_I ?_)
  refine r_valI (y := balF (vD V 6) (szF V (vD V 6)) j) (rg_siz hC.2.2 hj) ?_
  exact hend _ _ _ _ _ _ _ (Nat.le_of_ble_eq_true rfl) (Nat.le_of_ble_eq_true rfl) dX7_region_13 (by rw [e9]; exact ⟨⟨if_neg (not_of hc2), rfl⟩, rfl, rfl⟩)

set_option maxRecDepth 20000 in
set_option maxHeartbeats 1000000 in
theorem c_X7_meterOf (l : Launch) (G : mG) (hG : mInj G) (M : Mem) (g : Glo) (hfl : l.stackTraces = false) (V : View) (Hs : List View) (len : Nat) (T : Nat → Int32) (hI : cINV M V Hs len T) (n : Int32) : mcXI l G yX7_meterOf cX7_meterOf 2 7 1 6 [.ref (mA G 0), .int n] M g (fun r M' g' => (ePp V n = 0 ∧ r = nI (hdF V (vD V 6) n.toNatClampNeg)) ∧ M' = M ∧ g' = g) (fun E => (E = IOO ∧ ePp V n = 1)) := by
  refine mcXI_of (L0 := [(0, .ref (mA G 0)), (1, .int n)]) hG (by decide) (Nat.le_of_ble_eq_true rfl) rfl ?_
  intro p e s m args below meth c Q C hno hend hqw hqx
  obtain ⟨hC, hW, hH, hHs, hTx, hP0⟩ := id hI
  have hT := hW.1
  obtain ⟨hn1, hn16, hb4, ⟨hd0, hd3, hd5, hd6⟩, hpar⟩ := id hT
  refine r_aload_n C dX7_meterOf_0 0 rfl ?_
  refine r_iload_n C dX7_meterOf_1 1 rfl ?_
  refine r_xVV (As := [.int n]) (rest := []) C dX7_meterOf_2 s_X7_94 (c_X7_requirePipe l G hG M g hfl V hn16 hC.net.1 n) (by decide) rfl rfl rfl rfl (Nat.le_of_ble_eq_true rfl) (Nat.le_of_ble_eq_true rfl) (Nat.le_of_ble_eq_true rfl) (fun E9 hE9 => r_outX hno hqx (⟨hE9.1, if_pos hE9.2⟩) (Nat.le_of_ble_eq_true rfl) (Nat.le_of_ble_eq_true rfl)) (pk_VC (fun hc2 => ?_))
  obtain ⟨j, hj0, hj, hnj⟩ := isPp_nI (by omega) hc2
  have e9 : n.toNatClampNeg = j := by rw [hnj]; exact nI_clamp (by omega)
  refine r_aload_n C dX7_meterOf_5 0 rfl ?_
  refine r_getr (q2 := 80) C dX7_meterOf_6 4 f_X7_40 rfl rfl ?_
  refine r_getr (q2 := 82) C dX7_meterOf_9 1 f_X7_186 rfl rfl ?_
  refine r_iload_n C dX7_meterOf_12 1 rfl ?_
  refine r_ialdN (j := j) (v := nI (hdF V (vD V 6) j)) C dX7_meterOf_13 rfl (hnj) (by omega) (by decide) ((hC.2.2.2.2 j hj).1) ?_
  exact hend _ _ _ _ _ _ _ (Nat.le_of_ble_eq_true rfl) (Nat.le_of_ble_eq_true rfl) dX7_meterOf_14 (by rw [e9]; exact ⟨⟨if_neg (not_of hc2), rfl⟩, rfl, rfl⟩)

set_option maxRecDepth 20000 in
set_option maxHeartbeats 1000000 in
theorem c_X7_nextMeter (l : Launch) (G : mG) (hG : mInj G) (M : Mem) (g : Glo) (hfl : l.stackTraces = false) (V : View) (Hs : List View) (len : Nat) (T : Nat → Int32) (hI : cINV M V Hs len T) (n : Int32) : mcXI l G yX7_nextMeter cX7_nextMeter 2 7 1 6 [.ref (mA G 0), .int n] M g (fun r M' g' => (eNd V n = 0 ∧ r = nextF V (vD V 6) n.toNatClampNeg) ∧ M' = M ∧ g' = g) (fun E => (E = IOO ∧ eNd V n = 1)) := by
  refine mcXI_of (L0 := [(0, .ref (mA G 0)), (1, .int n)]) hG (by decide) (Nat.le_of_ble_eq_true rfl) rfl ?_
  intro p e s m args below meth c Q C hno hend hqw hqx
  obtain ⟨hC, hW, hH, hHs, hTx, hP0⟩ := id hI
  have hT := hW.1
  obtain ⟨hn1, hn16, hb4, ⟨hd0, hd3, hd5, hd6⟩, hpar⟩ := id hT
  refine r_aload_n C dX7_nextMeter_0 0 rfl ?_
  refine r_iload_n C dX7_nextMeter_1 1 rfl ?_
  refine r_xVV (As := [.int n]) (rest := []) C dX7_nextMeter_2 s_X7_64 (c_X7_requireNode l G hG M g hfl V hn16 hC.net.1 n) (by decide) rfl rfl rfl rfl (Nat.le_of_ble_eq_true rfl) (Nat.le_of_ble_eq_true rfl) (Nat.le_of_ble_eq_true rfl) (fun E9 hE9 => r_outX hno hqx (⟨hE9.1, if_pos hE9.2⟩) (Nat.le_of_ble_eq_true rfl) (Nat.le_of_ble_eq_true rfl)) (pk_VC (fun hc2 => ?_))
  obtain ⟨j, hj, hnj⟩ := isNd_nI (by omega) hc2
  have e9 : n.toNatClampNeg = j := by rw [hnj]; exact nI_clamp (by omega)
  refine r_aload_n C dX7_nextMeter_5 0 rfl ?_
  refine r_getr (q2 := 80) C dX7_nextMeter_6 4 f_X7_40 rfl rfl ?_
  refine r_iload_n C dX7_nextMeter_9 1 rfl ?_
  refine r_valI (y := nI j) (hnj) ?_
  refine r_callVI (As := [.int (nI j)]) (rest := []) C dX7_nextMeter_10 s_X7_189 (c_X5_nextPlace l G hG M g 80 isRegs_80 (by decide) (vN V) j hn1 hn16 hj hC.2.2.1 (hdF V (vD V 6)) (rg_hd hT hC.2.2)) (by decide) rfl rfl rfl rfl (Nat.le_of_ble_eq_true rfl) (Nat.le_of_ble_eq_true rfl) (Nat.le_of_ble_eq_true rfl) (pk_I ?_)
  refine r_valI (y := nextF V (vD V 6) j) (rg_next hC.2.2 hj) ?_
  exact hend _ _ _ _ _ _ _ (Nat.le_of_ble_eq_true rfl) (Nat.le_of_ble_eq_true rfl) dX7_nextMeter_13 (by rw [e9]; exact ⟨⟨if_neg (not_of hc2), rfl⟩, rfl, rfl⟩)

set_option maxRecDepth 20000 in
set_option maxHeartbeats 1000000 in
theorem c_X7_suspects (l : Launch) (G : mG) (hG : mInj G) (M : Mem) (g : Glo) (V : View) (Hs : List View) (len : Nat) (T : Nat → Int32) (hI : cINV M V Hs len T) : mcI l G yX7_suspects cX7_suspects 1 .int 4 [.ref (mA G 0)] M g (fun r M' g' => r = susF V (vD V 6) ∧ M' = M ∧ g' = g) := by
  refine mcI_of (L0 := [(0, .ref (mA G 0))]) hG (by decide) (Nat.le_of_ble_eq_true rfl) rfl ?_
  intro p e s m args below meth c Q C hend
  obtain ⟨hC, hW, hH, hHs, hTx, hP0⟩ := id hI
  have hT := hW.1
  obtain ⟨hn1, hn16, hb4, ⟨hd0, hd3, hd5, hd6⟩, hpar⟩ := id hT
  refine r_aload_n C dX7_suspects_0 0 rfl ?_
  refine r_getr (q2 := 80) C dX7_suspects_1 4 f_X7_40 rfl rfl ?_
  refine r_callVI (As := []) (rest := []) C dX7_suspects_4 s_X7_192 (c_X5_suspectCount l G hG M g 80 isRegs_80 (by decide) (vN V) hn16 hC.2.2.1) (by decide) rfl rfl rfl rfl (Nat.le_of_ble_eq_true rfl) (Nat.le_of_ble_eq_true rfl) (Nat.le_of_ble_eq_true rfl) (pk_I ?_)
  refine r_valI (y := susF V (vD V 6)) (rg_sus hC.2.2) ?_
  exact hend _ _ _ _ _ dX7_suspects_7 (rfl) (⟨rfl, rfl, rfl⟩)

set_option maxRecDepth 20000 in
set_option maxHeartbeats 1000000 in
theorem c_X7_setDraw (l : Launch) (G : mG) (hG : mInj G) (M : Mem) (g : Glo) (hfl : l.stackTraces = false) (V : View) (Hs : List View) (len : Nat) (T : Nat → Int32) (hI : cINV M V Hs len T) (n d t : Int32) : mcXI l G yX7_setDraw cX7_setDraw 5 7 3 18 [.ref (mA G 0), .int n, .int d, .int t] M g (fun r M' g' => (eDraw V n d t = 0 ∧ r = vD V 3 n.toNatClampNeg ∧ cINV M' (vSet (vSet V 3 n.toNatClampNeg d) 4 n.toNatClampNeg t) (hPush Hs V) len T ∧ offC M M') ∧ g' = g) (fun E => (E = IOO ∧ eDraw V n d t = 1) ∨ (E = IAE ∧ eDraw V n d t = 2)) := by
  refine mcXI_of (L0 := [(0, .ref (mA G 0)), (1, .int n), (2, .int d), (3, .int t)]) hG (by decide) (Nat.le_of_ble_eq_true rfl) rfl ?_
  intro p e s m args below meth c Q C hno hend hqw hqx
  obtain ⟨hC, hW, hH, hHs, hTx, hP0⟩ := id hI
  have hT := hW.1
  obtain ⟨hn1, hn16, hb4, ⟨hd0, hd3, hd5, hd6⟩, hpar⟩ := id hT
  refine r_aload_n C dX7_setDraw_0 0 rfl ?_
  refine r_iload_n C dX7_setDraw_1 1 rfl ?_
  refine r_xVV (As := [.int n]) (rest := []) C dX7_setDraw_2 s_X7_94 (c_X7_requirePipe l G hG M g hfl V hn16 hC.net.1 n) (by decide) rfl rfl rfl rfl (Nat.le_of_ble_eq_true rfl) (Nat.le_of_ble_eq_true rfl) (Nat.le_of_ble_eq_true rfl) (fun E9 hE9 => r_outX hno hqx (Or.inl (⟨hE9.1, if_pos hE9.2⟩)) (Nat.le_of_ble_eq_true rfl) (Nat.le_of_ble_eq_true rfl)) (pk_VC (fun hc2 => ?_))
  obtain ⟨j, hj0, hj, hnj⟩ := isPp_nI (by omega) hc2
  have e9 : n.toNatClampNeg = j := by rw [hnj]; exact nI_clamp (by omega)
  refine r_iload_n C dX7_setDraw_5 2 rfl ?_
  refine r_iconst (v := 0) C dX7_setDraw_6 rfl ?_
  refine r_sipush (v := 500) C dX7_setDraw_7 rfl ?_
  refine r_xSV (As := [.int d, .int 0, .int 500]) (rest := []) C dX7_setDraw_10 s_X7_68 (c_X7_requireWithin l G hG M g hfl d 0 500) (by decide) rfl rfl (Nat.le_of_ble_eq_true rfl) (Nat.le_of_ble_eq_true rfl) (Nat.le_of_ble_eq_true rfl) (fun E9 hE9 => r_outX hno hqx (Or.inr (⟨hE9.1, (if_neg (not_of hc2)).trans (if_pos (fun z => hE9.2 z.1))⟩)) (Nat.le_of_ble_eq_true rfl) (Nat.le_of_ble_eq_true rfl)) (pk_VC (fun hc10 => ?_))
  refine r_iload_n C dX7_setDraw_13 3 rfl ?_
  refine r_iconst (v := 0) C dX7_setDraw_14 rfl ?_
  refine r_sipush (v := 1200) C dX7_setDraw_15 rfl ?_
  refine r_xSV (As := [.int t, .int 0, .int 1200]) (rest := []) C dX7_setDraw_18 s_X7_68 (c_X7_requireWithin l G hG M g hfl t 0 1200) (by decide) rfl rfl (Nat.le_of_ble_eq_true rfl) (Nat.le_of_ble_eq_true rfl) (Nat.le_of_ble_eq_true rfl) (fun E9 hE9 => r_outX hno hqx (Or.inr (⟨hE9.1, (if_neg (not_of hc2)).trans (if_pos (fun z => hE9.2 z.2))⟩)) (Nat.le_of_ble_eq_true rfl) (Nat.le_of_ble_eq_true rfl)) (pk_VC (fun hc18 => ?_))
  have hw2 : wfV (vSet (vSet V 3 j d) 4 j t) := wf_set4 (wf_set3 hW hj0 (inR_of hc10)) hj0 (inR_of hc18)
  refine r_aload_n C dX7_setDraw_21 0 rfl ?_
  refine r_getr (q2 := 15) C dX7_setDraw_22 1 f_X7_19 rfl rfl ?_
  refine r_aload_n C dX7_setDraw_25 0 rfl ?_
  refine r_getr (q2 := 1) C dX7_setDraw_26 0 f_X7_10 rfl rfl ?_
  refine r_callVV (As := [.ref (mA G 1)]) (rest := []) C dX7_setDraw_29 s_X7_86 (c_X1_keep l G hG M g Hs hH V hC.1 hn16 hb4) (by decide) rfl rfl rfl rfl (Nat.le_of_ble_eq_true rfl) (Nat.le_of_ble_eq_true rfl) (Nat.le_of_ble_eq_true rfl) (fun M1 g1 hp29 => ?_)
  obtain ⟨⟨hk1, ok1⟩, eg29⟩ := hp29
  rw [eg29]
  have hS1 : cSt M1 1 V := hC.1.off ok1 (by decide)
  refine r_aload_n C dX7_setDraw_32 0 rfl ?_
  refine r_getr (q2 := 1) C dX7_setDraw_33 0 f_X7_10 rfl rfl ?_
  refine r_getr (q2 := 2) C dX7_setDraw_36 0 f_X7_72 rfl rfl ?_
  refine r_getr (q2 := 6) C dX7_setDraw_39 3 f_X7_97 rfl rfl ?_
  refine r_iload_n C dX7_setDraw_42 1 rfl ?_
  refine r_ialdN (j := j) (v := vD V 3 j) C dX7_setDraw_43 rfl (hnj) (by omega) (by decide) (hS1.1.at 3 (by decide) hj) ?_
  refine r_istore (L' := [(4, .int (vD V 3 j)), (0, .ref (mA G 0)), (1, .int n), (2, .int d), (3, .int t)]) C dX7_setDraw_44 (by decide) rfl ?_
  refine r_aload_n C dX7_setDraw_46 1 rfl ?_
  refine r_getr (q2 := 1) C dX7_setDraw_47 0 f_X7_10 rfl rfl ?_
  refine r_getr (q2 := 2) C dX7_setDraw_50 0 f_X7_72 rfl rfl ?_
  refine r_getr (q2 := 6) C dX7_setDraw_53 3 f_X7_97 rfl rfl ?_
  refine r_iload_n C dX7_setDraw_56 2 rfl ?_
  refine r_iload_n C dX7_setDraw_57 3 rfl ?_
  refine r_iastN (j := j) C dX7_setDraw_58 rfl (hnj) (by omega) (by decide) ?_
  refine r_aload_n C dX7_setDraw_59 1 rfl ?_
  refine r_getr (q2 := 1) C dX7_setDraw_60 0 f_X7_10 rfl rfl ?_
  refine r_getr (q2 := 2) C dX7_setDraw_63 0 f_X7_72 rfl rfl ?_
  refine r_getr (q2 := 7) C dX7_setDraw_66 4 f_X7_100 rfl rfl ?_
  refine r_iload_n C dX7_setDraw_69 2 rfl ?_
  refine r_iload_n C dX7_setDraw_70 4 rfl ?_
  refine r_iastN (j := j) C dX7_setDraw_71 rfl (hnj) (by omega) (by decide) ?_
  refine r_aload_n C dX7_setDraw_72 1 rfl ?_
  refine r_callVV (As := []) (rest := []) C dX7_setDraw_73 s_X7_61 (c_X7_settle l G hG (mset (mset M1 6 j d) 7 j t) g (vSet (vSet V 3 j d) 4 j t) hw2.1 (cSt_set (w := 4) (by decide) (cSt_set (w := 3) (by decide) hS1)) (wfZ_of hw2)) (by decide) rfl rfl rfl rfl (Nat.le_of_ble_eq_true rfl) (Nat.le_of_ble_eq_true rfl) (Nat.le_of_ble_eq_true rfl) (fun M3 g3 hp73 => ?_)
  obtain ⟨⟨hc3, oc3⟩, eg73⟩ := hp73
  rw [eg73]
  refine r_iload C dX7_setDraw_76 0 rfl ?_
  exact hend _ _ _ _ _ _ _ (Nat.le_of_ble_eq_true rfl) (Nat.le_of_ble_eq_true rfl) dX7_setDraw_78 (by rw [e9]; exact ⟨⟨(if_neg (not_of hc2)).trans (if_neg (not_of ⟨hc10, hc18⟩)), rfl, cINV_mut hI hk1 ok1 (fun q hq => by rw [mset_ne (by omega), mset_ne (by omega)]) hc3 oc3 hw2⟩, rfl⟩)

set_option maxRecDepth 20000 in
set_option maxHeartbeats 1000000 in
theorem c_X7_setLeak (l : Launch) (G : mG) (hG : mInj G) (M : Mem) (g : Glo) (hfl : l.stackTraces = false) (V : View) (Hs : List View) (len : Nat) (T : Nat → Int32) (hI : cINV M V Hs len T) (n k : Int32) : mcXI l G yX7_setLeak cX7_setLeak 4 7 2 12 [.ref (mA G 0), .int n, .int k] M g (fun r M' g' => (eLeak V n k = 0 ∧ r = vD V 5 n.toNatClampNeg ∧ cINV M' (vSet V 5 n.toNatClampNeg k) (hPush Hs V) len T ∧ offC M M') ∧ g' = g) (fun E => (E = IOO ∧ eLeak V n k = 1) ∨ (E = IAE ∧ eLeak V n k = 2)) := by
  refine mcXI_of (L0 := [(0, .ref (mA G 0)), (1, .int n), (2, .int k)]) hG (by decide) (Nat.le_of_ble_eq_true rfl) rfl ?_
  intro p e s m args below meth c Q C hno hend hqw hqx
  obtain ⟨hC, hW, hH, hHs, hTx, hP0⟩ := id hI
  have hT := hW.1
  obtain ⟨hn1, hn16, hb4, ⟨hd0, hd3, hd5, hd6⟩, hpar⟩ := id hT
  refine r_aload_n C dX7_setLeak_0 0 rfl ?_
  refine r_iload_n C dX7_setLeak_1 1 rfl ?_
  refine r_xVV (As := [.int n]) (rest := []) C dX7_setLeak_2 s_X7_94 (c_X7_requirePipe l G hG M g hfl V hn16 hC.net.1 n) (by decide) rfl rfl rfl rfl (Nat.le_of_ble_eq_true rfl) (Nat.le_of_ble_eq_true rfl) (Nat.le_of_ble_eq_true rfl) (fun E9 hE9 => r_outX hno hqx (Or.inl (⟨hE9.1, if_pos hE9.2⟩)) (Nat.le_of_ble_eq_true rfl) (Nat.le_of_ble_eq_true rfl)) (pk_VC (fun hc2 => ?_))
  obtain ⟨j, hj0, hj, hnj⟩ := isPp_nI (by omega) hc2
  have e9 : n.toNatClampNeg = j := by rw [hnj]; exact nI_clamp (by omega)
  refine r_iload_n C dX7_setLeak_5 2 rfl ?_
  refine r_iconst (v := 0) C dX7_setLeak_6 rfl ?_
  refine r_bipush (v := 100) C dX7_setLeak_7 rfl ?_
  refine r_xSV (As := [.int k, .int 0, .int 100]) (rest := []) C dX7_setLeak_9 s_X7_68 (c_X7_requireWithin l G hG M g hfl k 0 100) (by decide) rfl rfl (Nat.le_of_ble_eq_true rfl) (Nat.le_of_ble_eq_true rfl) (Nat.le_of_ble_eq_true rfl) (fun E9 hE9 => r_outX hno hqx (Or.inr (⟨hE9.1, (if_neg (not_of hc2)).trans (if_pos hE9.2)⟩)) (Nat.le_of_ble_eq_true rfl) (Nat.le_of_ble_eq_true rfl)) (pk_VC (fun hc9 => ?_))
  have hw2 : wfV (vSet V 5 j k) := wf_set5 hW hj0 (inR_of hc9)
  refine r_aload_n C dX7_setLeak_12 0 rfl ?_
  refine r_getr (q2 := 15) C dX7_setLeak_13 1 f_X7_19 rfl rfl ?_
  refine r_aload_n C dX7_setLeak_16 0 rfl ?_
  refine r_getr (q2 := 1) C dX7_setLeak_17 0 f_X7_10 rfl rfl ?_
  refine r_callVV (As := [.ref (mA G 1)]) (rest := []) C dX7_setLeak_20 s_X7_86 (c_X1_keep l G hG M g Hs hH V hC.1 hn16 hb4) (by decide) rfl rfl rfl rfl (Nat.le_of_ble_eq_true rfl) (Nat.le_of_ble_eq_true rfl) (Nat.le_of_ble_eq_true rfl) (fun M1 g1 hp20 => ?_)
  obtain ⟨⟨hk1, ok1⟩, eg20⟩ := hp20
  rw [eg20]
  have hS1 : cSt M1 1 V := hC.1.off ok1 (by decide)
  refine r_aload_n C dX7_setLeak_23 0 rfl ?_
  refine r_getr (q2 := 1) C dX7_setLeak_24 0 f_X7_10 rfl rfl ?_
  refine r_getr (q2 := 2) C dX7_setLeak_27 0 f_X7_72 rfl rfl ?_
  refine r_getr (q2 := 8) C dX7_setLeak_30 5 f_X7_103 rfl rfl ?_
  refine r_iload_n C dX7_setLeak_33 1 rfl ?_
  refine r_ialdN (j := j) (v := vD V 5 j) C dX7_setLeak_34 rfl (hnj) (by omega) (by decide) (hS1.1.at 5 (by decide) hj) ?_
  refine r_istore_n (L' := [(3, .int (vD V 5 j)), (0, .ref (mA G 0)), (1, .int n), (2, .int k)]) C dX7_setLeak_35 (by decide) rfl ?_
  refine r_aload_n C dX7_setLeak_36 1 rfl ?_
  refine r_getr (q2 := 1) C dX7_setLeak_37 0 f_X7_10 rfl rfl ?_
  refine r_getr (q2 := 2) C dX7_setLeak_40 0 f_X7_72 rfl rfl ?_
  refine r_getr (q2 := 8) C dX7_setLeak_43 5 f_X7_103 rfl rfl ?_
  refine r_iload_n C dX7_setLeak_46 2 rfl ?_
  refine r_iload_n C dX7_setLeak_47 3 rfl ?_
  refine r_iastN (j := j) C dX7_setLeak_48 rfl (hnj) (by omega) (by decide) ?_
  refine r_aload_n C dX7_setLeak_49 1 rfl ?_
  refine r_callVV (As := []) (rest := []) C dX7_setLeak_50 s_X7_61 (c_X7_settle l G hG (mset M1 8 j k) g (vSet V 5 j k) hw2.1 (cSt_set (w := 5) (by decide) hS1) (wfZ_of hw2)) (by decide) rfl rfl rfl rfl (Nat.le_of_ble_eq_true rfl) (Nat.le_of_ble_eq_true rfl) (Nat.le_of_ble_eq_true rfl) (fun M3 g3 hp50 => ?_)
  obtain ⟨⟨hc3, oc3⟩, eg50⟩ := hp50
  rw [eg50]
  refine r_iload_n C dX7_setLeak_53 0 rfl ?_
  exact hend _ _ _ _ _ _ _ (Nat.le_of_ble_eq_true rfl) (Nat.le_of_ble_eq_true rfl) dX7_setLeak_54 (by rw [e9]; exact ⟨⟨(if_neg (not_of hc2)).trans (if_neg (not_of hc9)), rfl, cINV_mut hI hk1 ok1 (fun q hq => by rw [mset_ne (by omega)]) hc3 oc3 hw2⟩, rfl⟩)

set_option maxRecDepth 20000 in
set_option maxHeartbeats 1000000 in
theorem c_X7_setTemperatures (l : Launch) (G : mG) (hG : mInj G) (M : Mem) (g : Glo) (hfl : l.stackTraces = false) (V : View) (Hs : List View) (len : Nat) (T : Nat → Int32) (hI : cINV M V Hs len T) (s9 k : Int32) : mcXI l G yX7_setTemperatures cX7_setTemperatures 4 7 2 12 [.ref (mA G 0), .int s9, .int k] M g (fun r M' g' => (eTemp s9 k = 0 ∧ r = vS V 0 ∧ cINV M' (vSc (vSc V 0 s9) 1 k) (hPush Hs V) len T ∧ offC M M') ∧ g' = g) (fun E => (E = IAE ∧ eTemp s9 k = 1)) := by
  refine mcXI_of (L0 := [(0, .ref (mA G 0)), (1, .int s9), (2, .int k)]) hG (by decide) (Nat.le_of_ble_eq_true rfl) rfl ?_
  intro p e s m args below meth c Q C hno hend hqw hqx
  obtain ⟨hC, hW, hH, hHs, hTx, hP0⟩ := id hI
  have hT := hW.1
  obtain ⟨hn1, hn16, hb4, ⟨hd0, hd3, hd5, hd6⟩, hpar⟩ := id hT
  refine r_iload_n C dX7_setTemperatures_0 1 rfl ?_
  refine r_sipush (v := 400) C dX7_setTemperatures_1 rfl ?_
  refine r_sipush (v := 1200) C dX7_setTemperatures_4 rfl ?_
  refine r_xSV (As := [.int s9, .int 400, .int 1200]) (rest := []) C dX7_setTemperatures_7 s_X7_68 (c_X7_requireWithin l G hG M g hfl s9 400 1200) (by decide) rfl rfl (Nat.le_of_ble_eq_true rfl) (Nat.le_of_ble_eq_true rfl) (Nat.le_of_ble_eq_true rfl) (fun E9 hE9 => r_outX hno hqx (⟨hE9.1, if_pos (fun z => hE9.2 z.1)⟩) (Nat.le_of_ble_eq_true rfl) (Nat.le_of_ble_eq_true rfl)) (pk_VC (fun hc7 => ?_))
  refine r_iload_n C dX7_setTemperatures_10 2 rfl ?_
  refine r_sipush (v := (-200)) C dX7_setTemperatures_11 rfl ?_
  refine r_sipush (v := 300) C dX7_setTemperatures_14 rfl ?_
  refine r_xSV (As := [.int k, .int (-200), .int 300]) (rest := []) C dX7_setTemperatures_17 s_X7_68 (c_X7_requireWithin l G hG M g hfl k (-200) 300) (by decide) rfl rfl (Nat.le_of_ble_eq_true rfl) (Nat.le_of_ble_eq_true rfl) (Nat.le_of_ble_eq_true rfl) (fun E9 hE9 => r_outX hno hqx (⟨hE9.1, if_pos (fun z => hE9.2 z.2)⟩) (Nat.le_of_ble_eq_true rfl) (Nat.le_of_ble_eq_true rfl)) (pk_VC (fun hc17 => ?_))
  have hw2 : wfV (vSc (vSc V 0 s9) 1 k) := wf_sc1 (wf_sc0 hW (inR_of hc7)) (inR_of hc17)
  refine r_aload_n C dX7_setTemperatures_20 0 rfl ?_
  refine r_getr (q2 := 15) C dX7_setTemperatures_21 1 f_X7_19 rfl rfl ?_
  refine r_aload_n C dX7_setTemperatures_24 0 rfl ?_
  refine r_getr (q2 := 1) C dX7_setTemperatures_25 0 f_X7_10 rfl rfl ?_
  refine r_callVV (As := [.ref (mA G 1)]) (rest := []) C dX7_setTemperatures_28 s_X7_86 (c_X1_keep l G hG M g Hs hH V hC.1 hn16 hb4) (by decide) rfl rfl rfl rfl (Nat.le_of_ble_eq_true rfl) (Nat.le_of_ble_eq_true rfl) (Nat.le_of_ble_eq_true rfl) (fun M1 g1 hp28 => ?_)
  obtain ⟨⟨hk1, ok1⟩, eg28⟩ := hp28
  rw [eg28]
  have hS1 : cSt M1 1 V := hC.1.off ok1 (by decide)
  refine r_aload_n C dX7_setTemperatures_31 0 rfl ?_
  refine r_getr (q2 := 1) C dX7_setTemperatures_32 0 f_X7_10 rfl rfl ?_
  refine r_geti C dX7_setTemperatures_35 2 f_X7_106 rfl rfl ?_
  refine r_valI (y := vS V 0) (hS1.2.2.1) ?_
  refine r_istore_n (L' := [(3, .int (vS V 0)), (0, .ref (mA G 0)), (1, .int s9), (2, .int k)]) C dX7_setTemperatures_38 (by decide) rfl ?_
  refine r_aload_n C dX7_setTemperatures_39 1 rfl ?_
  refine r_getr (q2 := 1) C dX7_setTemperatures_40 0 f_X7_10 rfl rfl ?_
  refine r_iload_n C dX7_setTemperatures_43 2 rfl ?_
  refine r_puti C dX7_setTemperatures_44 2 fi_X7_106 rfl rfl ?_
  refine r_aload_n C dX7_setTemperatures_47 1 rfl ?_
  refine r_getr (q2 := 1) C dX7_setTemperatures_48 0 f_X7_10 rfl rfl ?_
  refine r_iload_n C dX7_setTemperatures_51 3 rfl ?_
  refine r_puti C dX7_setTemperatures_52 3 fi_X7_109 rfl rfl ?_
  refine r_aload_n C dX7_setTemperatures_55 1 rfl ?_
  refine r_callVV (As := []) (rest := []) C dX7_setTemperatures_56 s_X7_61 (c_X7_settle l G hG (mset (mset M1 1 2 s9) 1 3 k) g (vSc (vSc V 0 s9) 1 k) hw2.1 (cSt_sc 1 (by decide) (cSt_sc 0 (by decide) hS1)) (wfZ_of hw2)) (by decide) rfl rfl rfl rfl (Nat.le_of_ble_eq_true rfl) (Nat.le_of_ble_eq_true rfl) (Nat.le_of_ble_eq_true rfl) (fun M3 g3 hp56 => ?_)
  obtain ⟨⟨hc3, oc3⟩, eg56⟩ := hp56
  rw [eg56]
  refine r_iload_n C dX7_setTemperatures_59 0 rfl ?_
  exact hend _ _ _ _ _ _ _ (Nat.le_of_ble_eq_true rfl) (Nat.le_of_ble_eq_true rfl) dX7_setTemperatures_60 (by exact ⟨⟨if_neg (not_of ⟨hc7, hc17⟩), rfl, cINV_mut hI hk1 ok1 (fun q hq => by rw [mset_ne (by omega), mset_ne (by omega)]) hc3 oc3 hw2⟩, rfl⟩)

set_option maxRecDepth 20000 in
set_option maxHeartbeats 1000000 in
theorem c_X7_addNode (l : Launch) (G : mG) (hG : mInj G) (M : Mem) (g : Glo) (hfl : l.stackTraces = false) (V : View) (Hs : List View) (len : Nat) (T : Nat → Int32) (hI : cINV M V Hs len T) (a l9 s9 d t : Int32) : mcXI l G yX7_addNode cX7_addNode 7 7 6 36 [.ref (mA G 0), .int a, .int l9, .int s9, .int d, .int t] M g (fun r M' g' => (eAdd V a l9 s9 d t = 0 ∧ r = nI (vN V) ∧ cINV M' (vAdd V a l9 s9 d t) (hPush Hs V) len T ∧ offC M M') ∧ g' = g) (fun E => (E = IOO ∧ eAdd V a l9 s9 d t = 1) ∨ (E = IAE ∧ eAdd V a l9 s9 d t = 2) ∨ (E = ISE ∧ eAdd V a l9 s9 d t = 3)) := by
  refine mcXI_of (L0 := [(0, .ref (mA G 0)), (1, .int a), (2, .int l9), (3, .int s9), (4, .int d), (5, .int t)]) hG (by decide) (Nat.le_of_ble_eq_true rfl) rfl ?_
  intro p e s m args below meth c Q C hno hend hqw hqx
  obtain ⟨hC, hW, hH, hHs, hTx, hP0⟩ := id hI
  have hT := hW.1
  obtain ⟨hn1, hn16, hb4, ⟨hd0, hd3, hd5, hd6⟩, hpar⟩ := id hT
  refine r_aload_n C dX7_addNode_0 0 rfl ?_
  refine r_iload_n C dX7_addNode_1 1 rfl ?_
  refine r_xVV (As := [.int a]) (rest := []) C dX7_addNode_2 s_X7_64 (c_X7_requireNode l G hG M g hfl V hn16 hC.net.1 a) (by decide) rfl rfl rfl rfl (Nat.le_of_ble_eq_true rfl) (Nat.le_of_ble_eq_true rfl) (Nat.le_of_ble_eq_true rfl) (fun E9 hE9 => r_outX hno hqx (Or.inl (⟨hE9.1, if_pos hE9.2⟩)) (Nat.le_of_ble_eq_true rfl) (Nat.le_of_ble_eq_true rfl)) (pk_VC (fun hc2 => ?_))
  obtain ⟨j, hj, hnj⟩ := isNd_nI (by omega) hc2
  refine r_iload_n C dX7_addNode_5 2 rfl ?_
  refine r_iconst (v := 1) C dX7_addNode_6 rfl ?_
  refine r_sipush (v := 500) C dX7_addNode_7 rfl ?_
  refine r_xSV (As := [.int l9, .int 1, .int 500]) (rest := []) C dX7_addNode_10 s_X7_68 (c_X7_requireWithin l G hG M g hfl l9 1 500) (by decide) rfl rfl (Nat.le_of_ble_eq_true rfl) (Nat.le_of_ble_eq_true rfl) (Nat.le_of_ble_eq_true rfl) (fun E9 hE9 => r_outX hno hqx (Or.inr (Or.inl (⟨hE9.1, (if_neg (not_of hc2)).trans (if_pos (fun z => hE9.2 z.1))⟩))) (Nat.le_of_ble_eq_true rfl) (Nat.le_of_ble_eq_true rfl)) (pk_VC (fun hc10 => ?_))
  refine r_iload_n C dX7_addNode_13 3 rfl ?_
  refine r_iconst (v := 0) C dX7_addNode_14 rfl ?_
  refine r_bipush (v := 50) C dX7_addNode_15 rfl ?_
  refine r_xSV (As := [.int s9, .int 0, .int 50]) (rest := []) C dX7_addNode_17 s_X7_68 (c_X7_requireWithin l G hG M g hfl s9 0 50) (by decide) rfl rfl (Nat.le_of_ble_eq_true rfl) (Nat.le_of_ble_eq_true rfl) (Nat.le_of_ble_eq_true rfl) (fun E9 hE9 => r_outX hno hqx (Or.inr (Or.inl (⟨hE9.1, (if_neg (not_of hc2)).trans (if_pos (fun z => hE9.2 z.2.1))⟩))) (Nat.le_of_ble_eq_true rfl) (Nat.le_of_ble_eq_true rfl)) (pk_VC (fun hc17 => ?_))
  refine r_iload C dX7_addNode_20 4 rfl ?_
  refine r_iconst (v := 0) C dX7_addNode_22 rfl ?_
  refine r_sipush (v := 500) C dX7_addNode_23 rfl ?_
  refine r_xSV (As := [.int d, .int 0, .int 500]) (rest := []) C dX7_addNode_26 s_X7_68 (c_X7_requireWithin l G hG M g hfl d 0 500) (by decide) rfl rfl (Nat.le_of_ble_eq_true rfl) (Nat.le_of_ble_eq_true rfl) (Nat.le_of_ble_eq_true rfl) (fun E9 hE9 => r_outX hno hqx (Or.inr (Or.inl (⟨hE9.1, (if_neg (not_of hc2)).trans (if_pos (fun z => hE9.2 z.2.2.1))⟩))) (Nat.le_of_ble_eq_true rfl) (Nat.le_of_ble_eq_true rfl)) (pk_VC (fun hc26 => ?_))
  refine r_iload C dX7_addNode_29 5 rfl ?_
  refine r_iconst (v := 0) C dX7_addNode_31 rfl ?_
  refine r_sipush (v := 1200) C dX7_addNode_32 rfl ?_
  refine r_xSV (As := [.int t, .int 0, .int 1200]) (rest := []) C dX7_addNode_35 s_X7_68 (c_X7_requireWithin l G hG M g hfl t 0 1200) (by decide) rfl rfl (Nat.le_of_ble_eq_true rfl) (Nat.le_of_ble_eq_true rfl) (Nat.le_of_ble_eq_true rfl) (fun E9 hE9 => r_outX hno hqx (Or.inr (Or.inl (⟨hE9.1, (if_neg (not_of hc2)).trans (if_pos (fun z => hE9.2 z.2.2.2))⟩))) (Nat.le_of_ble_eq_true rfl) (Nat.le_of_ble_eq_true rfl)) (pk_VC (fun hc35 => ?_))
  refine r_aload_n C dX7_addNode_38 0 rfl ?_
  refine r_getr (q2 := 1) C dX7_addNode_39 0 f_X7_10 rfl rfl ?_
  refine r_getr (q2 := 2) C dX7_addNode_42 0 f_X7_72 rfl rfl ?_
  refine r_geti C dX7_addNode_45 8 f_X7_75 rfl rfl ?_
  refine r_valI (y := nI (vN V)) (hC.net.1) ?_
  refine r_bipush (v := 16) C dX7_addNode_48 rfl ?_
  refine r_icmp_lt (tgt := 63) C dX7_addNode_50 (by decide) (fun c50 => ?_) (fun c50 => ?_)
  ·
    have hlt16 : vN V < 16 := (nI_ltI (b := 16) (by omega) (by decide)).mp c50
    have hw2 : wfV (vAdd V a l9 s9 d t) := wf_add hW hlt16 hnj hj (inR_of hc10) (inR_of hc17) (inR_of hc26) (inR_of hc35)
    refine r_aload_n C dX7_addNode_63 0 rfl ?_
    refine r_getr (q2 := 15) C dX7_addNode_64 1 f_X7_19 rfl rfl ?_
    refine r_aload_n C dX7_addNode_67 0 rfl ?_
    refine r_getr (q2 := 1) C dX7_addNode_68 0 f_X7_10 rfl rfl ?_
    refine r_callVV (As := [.ref (mA G 1)]) (rest := []) C dX7_addNode_71 s_X7_86 (c_X1_keep l G hG M g Hs hH V hC.1 hn16 hb4) (by decide) rfl rfl rfl rfl (Nat.le_of_ble_eq_true rfl) (Nat.le_of_ble_eq_true rfl) (Nat.le_of_ble_eq_true rfl) (fun M1 g1 hp71 => ?_)
    obtain ⟨⟨hk1, ok1⟩, eg71⟩ := hp71
    rw [eg71]
    have hS1 : cSt M1 1 V := hC.1.off ok1 (by decide)
    refine r_aload_n C dX7_addNode_74 0 rfl ?_
    refine r_getr (q2 := 1) C dX7_addNode_75 0 f_X7_10 rfl rfl ?_
    refine r_getr (q2 := 2) C dX7_addNode_78 0 f_X7_72 rfl rfl ?_
    refine r_iload_n C dX7_addNode_81 1 rfl ?_
    refine r_iload_n C dX7_addNode_82 2 rfl ?_
    refine r_iload_n C dX7_addNode_83 3 rfl ?_
    refine r_iload C dX7_addNode_84 4 rfl ?_
    refine r_iload C dX7_addNode_86 5 rfl ?_
    refine r_callVI (As := [.int a, .int l9, .int s9, .int d, .int t]) (rest := []) C dX7_addNode_88 s_X7_90 (c_X3_attach l G hG M1 g 2 isNet_2 V hS1.1 hlt16 a l9 s9 d t) (by decide) rfl rfl rfl rfl (Nat.le_of_ble_eq_true rfl) (Nat.le_of_ble_eq_true rfl) (Nat.le_of_ble_eq_true rfl) (fun r88 M2 g2 hp88 => ?_)
    obtain ⟨⟨e88, hb88, ob88⟩, eg88⟩ := hp88
    rw [eg88]
    refine r_istore (L' := [(6, .int r88), (0, .ref (mA G 0)), (1, .int a), (2, .int l9), (3, .int s9), (4, .int d), (5, .int t)]) C dX7_addNode_91 (by decide) rfl ?_
    refine r_aload_n C dX7_addNode_93 1 rfl ?_
    refine r_callVV (As := []) (rest := []) C dX7_addNode_94 s_X7_61 (c_X7_settle l G hG M2 g (vAdd V a l9 s9 d t) hw2.1 (cSt_add hS1 hb88 ob88) (wfZ_of hw2)) (by decide) rfl rfl rfl rfl (Nat.le_of_ble_eq_true rfl) (Nat.le_of_ble_eq_true rfl) (Nat.le_of_ble_eq_true rfl) (fun M3 g3 hp94 => ?_)
    obtain ⟨⟨hc3, oc3⟩, eg94⟩ := hp94
    rw [eg94]
    refine r_iload C dX7_addNode_97 0 rfl ?_
    exact hend _ _ _ _ _ _ _ (Nat.le_of_ble_eq_true rfl) (Nat.le_of_ble_eq_true rfl) dX7_addNode_99 (by exact ⟨⟨(if_neg (not_of hc2)).trans ((if_neg (not_of ⟨hc10, hc17, hc26, hc35⟩)).trans (if_neg (by omega))), e88, cINV_mut hI hk1 ok1 (fun q hq => ob88 q (by omega)) hc3 oc3 hw2⟩, rfl⟩)
  ·
    have h16 : vN V = 16 := by have := le_of_le (a := 16) (by decide) (by omega) (i32_nlt.mp c50); omega
    exact r_throwS (st := []) C hno (by decide) hqw hfl t_X7_81 (Or.inr (Or.inr ⟨rfl, (if_neg (not_of hc2)).trans ((if_neg (not_of ⟨hc10, hc17, hc26, hc35⟩)).trans (if_pos h16))⟩)) dX7_addNode_53 dX7_addNode_56 dX7_addNode_57 dX7_addNode_59 dX7_addNode_62 (Nat.le_of_ble_eq_true rfl) (Nat.le_of_ble_eq_true rfl) (Nat.le_of_ble_eq_true rfl)

set_option maxRecDepth 20000 in
set_option maxHeartbeats 1000000 in
theorem c_X7_addBoiler (l : Launch) (G : mG) (hG : mInj G) (M : Mem) (g : Glo) (hfl : l.stackTraces = false) (V : View) (Hs : List View) (len : Nat) (T : Nat → Int32) (hI : cINV M V Hs len T) (a l9 s9 : Int32) : mcXI l G yX7_addBoiler cX7_addBoiler 5 7 4 24 [.ref (mA G 0), .int a, .int l9, .int s9] M g (fun r M' g' => (eBoi V a l9 s9 = 0 ∧ r = nI (vB V) ∧ cINV M' (vBoi V a l9 s9) (hPush Hs V) len T ∧ offC M M') ∧ g' = g) (fun E => (E = IAE ∧ eBoi V a l9 s9 = 1) ∨ (E = ISE ∧ eBoi V a l9 s9 = 2)) := by
  refine mcXI_of (L0 := [(0, .ref (mA G 0)), (1, .int a), (2, .int l9), (3, .int s9)]) hG (by decide) (Nat.le_of_ble_eq_true rfl) rfl ?_
  intro p e s m args below meth c Q C hno hend hqw hqx
  obtain ⟨hC, hW, hH, hHs, hTx, hP0⟩ := id hI
  have hT := hW.1
  obtain ⟨hn1, hn16, hb4, ⟨hd0, hd3, hd5, hd6⟩, hpar⟩ := id hT
  refine r_iload_n C dX7_addBoiler_0 1 rfl ?_
  refine r_iconst (v := 1) C dX7_addBoiler_1 rfl ?_
  refine r_ldc (v := 9999999) C dX7_addBoiler_2 (gd_t 734 (by decide +kernel) rfl) ?_
  refine r_xSV (As := [.int a, .int 1, .int 9999999]) (rest := []) C dX7_addBoiler_4 s_X7_68 (c_X7_requireWithin l G hG M g hfl a 1 9999999) (by decide) rfl rfl (Nat.le_of_ble_eq_true rfl) (Nat.le_of_ble_eq_true rfl) (Nat.le_of_ble_eq_true rfl) (fun E9 hE9 => r_outX hno hqx (Or.inl (⟨hE9.1, if_pos (fun z => hE9.2 z.1)⟩)) (Nat.le_of_ble_eq_true rfl) (Nat.le_of_ble_eq_true rfl)) (pk_VC (fun hc4 => ?_))
  refine r_iload_n C dX7_addBoiler_7 2 rfl ?_
  refine r_iconst (v := 0) C dX7_addBoiler_8 rfl ?_
  refine r_iload_n C dX7_addBoiler_9 1 rfl ?_
  refine r_xSV (As := [.int l9, .int 0, .int a]) (rest := []) C dX7_addBoiler_10 s_X7_68 (c_X7_requireWithin l G hG M g hfl l9 0 a) (by decide) rfl rfl (Nat.le_of_ble_eq_true rfl) (Nat.le_of_ble_eq_true rfl) (Nat.le_of_ble_eq_true rfl) (fun E9 hE9 => r_outX hno hqx (Or.inl (⟨hE9.1, if_pos (fun z => hE9.2 z.2.1)⟩)) (Nat.le_of_ble_eq_true rfl) (Nat.le_of_ble_eq_true rfl)) (pk_VC (fun hc10 => ?_))
  refine r_iload_n C dX7_addBoiler_13 3 rfl ?_
  refine r_iconst (v := 0) C dX7_addBoiler_14 rfl ?_
  refine r_bipush (v := 99) C dX7_addBoiler_15 rfl ?_
  refine r_xSV (As := [.int s9, .int 0, .int 99]) (rest := []) C dX7_addBoiler_17 s_X7_68 (c_X7_requireWithin l G hG M g hfl s9 0 99) (by decide) rfl rfl (Nat.le_of_ble_eq_true rfl) (Nat.le_of_ble_eq_true rfl) (Nat.le_of_ble_eq_true rfl) (fun E9 hE9 => r_outX hno hqx (Or.inl (⟨hE9.1, if_pos (fun z => hE9.2 z.2.2)⟩)) (Nat.le_of_ble_eq_true rfl) (Nat.le_of_ble_eq_true rfl)) (pk_VC (fun hc17 => ?_))
  refine r_aload_n C dX7_addBoiler_20 0 rfl ?_
  refine r_getr (q2 := 1) C dX7_addBoiler_21 0 f_X7_10 rfl rfl ?_
  refine r_getr (q2 := 11) C dX7_addBoiler_24 1 f_X7_127 rfl rfl ?_
  refine r_geti C dX7_addBoiler_27 3 f_X7_131 rfl rfl ?_
  refine r_valI (y := nI (vB V)) (hC.boi.1) ?_
  refine r_iconst (v := 4) C dX7_addBoiler_30 rfl ?_
  refine r_icmp_lt (tgt := 44) C dX7_addBoiler_31 (by decide) (fun c31 => ?_) (fun c31 => ?_)
  ·
    have hlt4 : vB V < 4 := (nI_ltI (b := 4) (by omega) (by decide)).mp c31
    have hw2 : wfV (vBoi V a l9 s9) := wf_boi hW hlt4 (inR_of hc4) (i32_le.mp hc10.1) (i32_le.mp hc10.2) (inR_of hc17)
    refine r_aload_n C dX7_addBoiler_44 0 rfl ?_
    refine r_getr (q2 := 15) C dX7_addBoiler_45 1 f_X7_19 rfl rfl ?_
    refine r_aload_n C dX7_addBoiler_48 0 rfl ?_
    refine r_getr (q2 := 1) C dX7_addBoiler_49 0 f_X7_10 rfl rfl ?_
    refine r_callVV (As := [.ref (mA G 1)]) (rest := []) C dX7_addBoiler_52 s_X7_86 (c_X1_keep l G hG M g Hs hH V hC.1 hn16 hb4) (by decide) rfl rfl rfl rfl (Nat.le_of_ble_eq_true rfl) (Nat.le_of_ble_eq_true rfl) (Nat.le_of_ble_eq_true rfl) (fun M1 g1 hp52 => ?_)
    obtain ⟨⟨hk1, ok1⟩, eg52⟩ := hp52
    rw [eg52]
    have hS1 : cSt M1 1 V := hC.1.off ok1 (by decide)
    refine r_aload_n C dX7_addBoiler_55 0 rfl ?_
    refine r_getr (q2 := 1) C dX7_addBoiler_56 0 f_X7_10 rfl rfl ?_
    refine r_getr (q2 := 11) C dX7_addBoiler_59 1 f_X7_127 rfl rfl ?_
    refine r_iload_n C dX7_addBoiler_62 1 rfl ?_
    refine r_iload_n C dX7_addBoiler_63 2 rfl ?_
    refine r_iload_n C dX7_addBoiler_64 3 rfl ?_
    refine r_callVI (As := [.int a, .int l9, .int s9]) (rest := []) C dX7_addBoiler_65 s_X7_136 (c_X0_install l G hG M1 g V hS1.2.1 hlt4 a l9 s9) (by decide) rfl rfl rfl rfl (Nat.le_of_ble_eq_true rfl) (Nat.le_of_ble_eq_true rfl) (Nat.le_of_ble_eq_true rfl) (fun r65 M2 g2 hp65 => ?_)
    obtain ⟨⟨e65, hb65, ob65⟩, eg65⟩ := hp65
    rw [eg65]
    refine r_istore (L' := [(4, .int r65), (0, .ref (mA G 0)), (1, .int a), (2, .int l9), (3, .int s9)]) C dX7_addBoiler_68 (by decide) rfl ?_
    refine r_aload_n C dX7_addBoiler_70 1 rfl ?_
    refine r_callVV (As := []) (rest := []) C dX7_addBoiler_71 s_X7_61 (c_X7_settle l G hG M2 g (vBoi V a l9 s9) hw2.1 (cSt_boi hS1 hb65 ob65) (wfZ_of hw2)) (by decide) rfl rfl rfl rfl (Nat.le_of_ble_eq_true rfl) (Nat.le_of_ble_eq_true rfl) (Nat.le_of_ble_eq_true rfl) (fun M3 g3 hp71 => ?_)
    obtain ⟨⟨hc3, oc3⟩, eg71⟩ := hp71
    rw [eg71]
    refine r_iload C dX7_addBoiler_74 0 rfl ?_
    exact hend _ _ _ _ _ _ _ (Nat.le_of_ble_eq_true rfl) (Nat.le_of_ble_eq_true rfl) dX7_addBoiler_76 (by exact ⟨⟨(if_neg (not_of ⟨hc4, hc10, hc17⟩)).trans (if_neg (by omega)), e65, cINV_mut hI hk1 ok1 (fun q hq => ob65 q (by omega)) hc3 oc3 hw2⟩, rfl⟩)
  ·
    have h4 : vB V = 4 := by have := le_of_le (a := 4) (by decide) (by omega) (i32_nlt.mp c31); omega
    exact r_throwS (st := []) C hno (by decide) hqw hfl t_X7_134 (Or.inr ⟨rfl, (if_neg (not_of ⟨hc4, hc10, hc17⟩)).trans (if_pos h4)⟩) dX7_addBoiler_34 dX7_addBoiler_37 dX7_addBoiler_38 dX7_addBoiler_40 dX7_addBoiler_43 (Nat.le_of_ble_eq_true rfl) (Nat.le_of_ble_eq_true rfl) (Nat.le_of_ble_eq_true rfl)

set_option maxRecDepth 20000 in
set_option maxHeartbeats 1000000 in
theorem c_X7_setCost (l : Launch) (G : mG) (hG : mInj G) (M : Mem) (g : Glo) (hfl : l.stackTraces = false) (V : View) (Hs : List View) (len : Nat) (T : Nat → Int32) (hI : cINV M V Hs len T) (n x : Int32) : mcXI l G yX7_setCost cX7_setCost 4 7 2 12 [.ref (mA G 0), .int n, .int x] M g (fun r M' g' => (eCost V n x = 0 ∧ r = vO V 2 n.toNatClampNeg ∧ cINV M' (vBo V 2 n.toNatClampNeg x) (hPush Hs V) len T ∧ offC M M') ∧ g' = g) (fun E => (E = IOO ∧ eCost V n x = 1) ∨ (E = IAE ∧ eCost V n x = 2)) := by
  refine mcXI_of (L0 := [(0, .ref (mA G 0)), (1, .int n), (2, .int x)]) hG (by decide) (Nat.le_of_ble_eq_true rfl) rfl ?_
  intro p e s m args below meth c Q C hno hend hqw hqx
  obtain ⟨hC, hW, hH, hHs, hTx, hP0⟩ := id hI
  have hT := hW.1
  obtain ⟨hn1, hn16, hb4, ⟨hd0, hd3, hd5, hd6⟩, hpar⟩ := id hT
  refine r_aload_n C dX7_setCost_0 0 rfl ?_
  refine r_iload_n C dX7_setCost_1 1 rfl ?_
  refine r_xVV (As := [.int n]) (rest := []) C dX7_setCost_2 s_X7_140 (c_X7_requireBoiler l G hG M g hfl V hb4 hC.boi.1 n) (by decide) rfl rfl rfl rfl (Nat.le_of_ble_eq_true rfl) (Nat.le_of_ble_eq_true rfl) (Nat.le_of_ble_eq_true rfl) (fun E9 hE9 => r_outX hno hqx (Or.inl (⟨hE9.1, if_pos hE9.2⟩)) (Nat.le_of_ble_eq_true rfl) (Nat.le_of_ble_eq_true rfl)) (pk_VC (fun hc2 => ?_))
  obtain ⟨j, hj, hnj⟩ := isBo_nI (by omega) hc2
  have e9 : n.toNatClampNeg = j := by rw [hnj]; exact nI_clamp (by omega)
  refine r_iload_n C dX7_setCost_5 2 rfl ?_
  refine r_iconst (v := 0) C dX7_setCost_6 rfl ?_
  refine r_bipush (v := 99) C dX7_setCost_7 rfl ?_
  refine r_xSV (As := [.int x, .int 0, .int 99]) (rest := []) C dX7_setCost_9 s_X7_68 (c_X7_requireWithin l G hG M g hfl x 0 99) (by decide) rfl rfl (Nat.le_of_ble_eq_true rfl) (Nat.le_of_ble_eq_true rfl) (Nat.le_of_ble_eq_true rfl) (fun E9 hE9 => r_outX hno hqx (Or.inr (⟨hE9.1, (if_neg (not_of hc2)).trans (if_pos hE9.2)⟩)) (Nat.le_of_ble_eq_true rfl) (Nat.le_of_ble_eq_true rfl)) (pk_VC (fun hc9 => ?_))
  have hw2 : wfV (vBo V 2 j x) := wf_bo hW (inR_of hc9)
  refine r_aload_n C dX7_setCost_12 0 rfl ?_
  refine r_getr (q2 := 15) C dX7_setCost_13 1 f_X7_19 rfl rfl ?_
  refine r_aload_n C dX7_setCost_16 0 rfl ?_
  refine r_getr (q2 := 1) C dX7_setCost_17 0 f_X7_10 rfl rfl ?_
  refine r_callVV (As := [.ref (mA G 1)]) (rest := []) C dX7_setCost_20 s_X7_86 (c_X1_keep l G hG M g Hs hH V hC.1 hn16 hb4) (by decide) rfl rfl rfl rfl (Nat.le_of_ble_eq_true rfl) (Nat.le_of_ble_eq_true rfl) (Nat.le_of_ble_eq_true rfl) (fun M1 g1 hp20 => ?_)
  obtain ⟨⟨hk1, ok1⟩, eg20⟩ := hp20
  rw [eg20]
  have hS1 : cSt M1 1 V := hC.1.off ok1 (by decide)
  refine r_aload_n C dX7_setCost_23 0 rfl ?_
  refine r_getr (q2 := 1) C dX7_setCost_24 0 f_X7_10 rfl rfl ?_
  refine r_getr (q2 := 11) C dX7_setCost_27 1 f_X7_127 rfl rfl ?_
  refine r_getr (q2 := 14) C dX7_setCost_30 2 f_X7_143 rfl rfl ?_
  refine r_iload_n C dX7_setCost_33 1 rfl ?_
  refine r_ialdN (j := j) (v := vO V 2 j) C dX7_setCost_34 rfl (hnj) (by omega) (by decide) (hS1.2.1.at 2 (by decide) hj) ?_
  refine r_istore_n (L' := [(3, .int (vO V 2 j)), (0, .ref (mA G 0)), (1, .int n), (2, .int x)]) C dX7_setCost_35 (by decide) rfl ?_
  refine r_aload_n C dX7_setCost_36 1 rfl ?_
  refine r_getr (q2 := 1) C dX7_setCost_37 0 f_X7_10 rfl rfl ?_
  refine r_getr (q2 := 11) C dX7_setCost_40 1 f_X7_127 rfl rfl ?_
  refine r_getr (q2 := 14) C dX7_setCost_43 2 f_X7_143 rfl rfl ?_
  refine r_iload_n C dX7_setCost_46 2 rfl ?_
  refine r_iload_n C dX7_setCost_47 3 rfl ?_
  refine r_iastN (j := j) C dX7_setCost_48 rfl (hnj) (by omega) (by decide) ?_
  refine r_aload_n C dX7_setCost_49 1 rfl ?_
  refine r_callVV (As := []) (rest := []) C dX7_setCost_50 s_X7_61 (c_X7_settle l G hG (mset M1 14 j x) g (vBo V 2 j x) hw2.1 (cSt_bo (w := 2) (by decide) hS1) (wfZ_of hw2)) (by decide) rfl rfl rfl rfl (Nat.le_of_ble_eq_true rfl) (Nat.le_of_ble_eq_true rfl) (Nat.le_of_ble_eq_true rfl) (fun M3 g3 hp50 => ?_)
  obtain ⟨⟨hc3, oc3⟩, eg50⟩ := hp50
  rw [eg50]
  refine r_iload_n C dX7_setCost_53 0 rfl ?_
  exact hend _ _ _ _ _ _ _ (Nat.le_of_ble_eq_true rfl) (Nat.le_of_ble_eq_true rfl) dX7_setCost_54 (by rw [e9]; exact ⟨⟨(if_neg (not_of hc2)).trans (if_neg (not_of hc9)), rfl, cINV_mut hI hk1 ok1 (fun q hq => by rw [mset_ne (by omega)]) hc3 oc3 hw2⟩, rfl⟩)
