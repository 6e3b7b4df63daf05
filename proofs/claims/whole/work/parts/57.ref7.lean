theorem mx_ge {v : Int32} (h : 0 ≤ v) : v = maxI 0 v := by
  unfold maxI
  by_cases z : 0 < v
  · rw [if_pos z]
  · rw [if_neg z, i32_eq]
    have a := i32_le.mp h
    have b := i32_le.mp (i32_nlt.mp z)
    omega
theorem mx_lt {v : Int32} (h : ¬ 0 ≤ v) : 0 = maxI 0 v := by
  unfold maxI
  rw [if_neg (fun z => by
    have a := i32_lt.mp (i32_nle.mp h)
    have b := i32_lt.mp z
    omega)]
def cstP (M M' : Mem) (V : View) : Prop := ∃ f, M' = mset (mrow M 116 f) 107 12 (unmetF V (needF V (vSup V))) ∧ ∀ b, b < vB V → f b = loadF V (needF V (vSup V)) b
/-- only what the reference works out has changed -/
def frW (M M' : Mem) : Prop := (∀ q, q ≠ 107 → (q < 112 ∨ 116 < q) → M' q = M q) ∧ ∀ i, i ≠ 12 → M' 107 i = M 107 i
theorem frW.rf (M : Mem) : frW M M := ⟨fun _ _ _ => rfl, fun _ _ => rfl⟩
theorem frW.tr {M M1 M2 : Mem} (h : frW M M1) (h' : frW M1 M2) : frW M M2 := ⟨fun q a b => (h'.1 q a b).trans (h.1 q a b), fun i a => (h'.2 i a).trans (h.2 i a)⟩
theorem frW.of {M M1 : Mem} (h : offR M M1 112 115) : frW M M1 := ⟨fun q a b => h q (by omega), fun i a => by rw [h 107 (by omega)]⟩
theorem cstP.fr {M M' : Mem} {V : View} (h : cstP M M' V) : frW M M' := by
  obtain ⟨f, rfl, -⟩ := h
  exact ⟨fun q a b => by rw [mset_ne a, mrow_ne (by omega)], fun i a => by rw [mset_at, upd_ne a, mrow_ne (by omega)]⟩
theorem cstP.ok {M M' : Mem} {V : View} (h : cstP M M' V) (hR : rOK M V) : rOK M' V := by
  obtain ⟨f, rfl, -⟩ := h
  intro j hj
  rw [mset_ne (by omega), mset_ne (by omega), mset_ne (by omega), mset_ne (by omega), mrow_ne (by omega), mrow_ne (by omega), mrow_ne (by omega), mrow_ne (by omega)]
  exact hR j hj
theorem cstP.ld {M M' : Mem} {V : View} (h : cstP M M' V) {b : Nat} (hb : b < vB V) : M' 116 b = loadF V (needF V (vSup V)) b := by
  obtain ⟨f, rfl, hf⟩ := h
  rw [mset_ne (by omega), mrow_at]
  exact hf b hb
theorem cstP.un {M M' : Mem} {V : View} (h : cstP M M' V) : M' 107 12 = unmetF V (needF V (vSup V)) := by
  obtain ⟨f, rfl, hf⟩ := h
  rw [mset_at, upd_at]
theorem frW.rv {M M' : Mem} {V : View} (h : frW M M') (hV : rV (M 108) V) : rV (M' 108) V := by
  rw [h.1 108 (by omega) (by omega)]
  exact hV
set_option maxRecDepth 20000 in
set_option maxHeartbeats 1000000 in
theorem c_X8_need (l : Launch) (G : mG) (hG : mInj G) (M : Mem) (g : Glo) (V : View) (hW : wfV V) (hV : rV (M 108) V) (hR : rOK M V) : mcI l G yX8_need cX8_need 2 .int 1 [.ref (mA G 107)] M g (fun r M' g' => r = needF V (vSup V) ∧ M' = M ∧ g' = g) := by
  refine mcI_of (L0 := [(0, .ref (mA G 107))]) hG (by decide) (Nat.le_of_ble_eq_true rfl) rfl ?_
  intro p e s m args below meth c Q C hend
  have hT := hW.1
  obtain ⟨hn1, hn16, hb4, ⟨hd0, hd3, hd5, hd6⟩, hpar⟩ := id hT
  refine r_aload_n C dX8_need_0 0 rfl ?_
  refine r_getr (q2 := 112) C dX8_need_1 7 f_X8_22 rfl rfl ?_
  refine r_iconst (v := 0) C dX8_need_4 rfl ?_
  refine r_ialdN (j := 0) (v := flowF V 0) C dX8_need_5 rfl (rfl) (by omega) (by decide) ((hR 0 (by omega)).1) ?_
  refine r_aload_n C dX8_need_6 0 rfl ?_
  refine r_getr (q2 := 108) C dX8_need_7 0 f_X8_7 rfl rfl ?_
  refine r_iconst (v := 0) C dX8_need_10 rfl ?_
  refine r_ialdN (j := 0) (v := vSup V) C dX8_need_11 rfl (rfl) (by omega) (by decide) (hV.2.1.1) ?_
  refine r_imul C dX8_need_12 ?_
  refine r_aload_n C dX8_need_13 0 rfl ?_
  refine r_getr (q2 := 115) C dX8_need_14 10 f_X8_31 rfl rfl ?_
  refine r_iconst (v := 0) C dX8_need_17 rfl ?_
  refine r_ialdN (j := 0) (v := backF V (vSup V) 0) C dX8_need_18 rfl (rfl) (by omega) (by decide) ((hR 0 (by omega)).2.2.2) ?_
  refine r_isub C dX8_need_19 ?_
  refine r_istore_n (L' := [(1, .int (((flowF V 0) * (vSup V)) - (backF V (vSup V) 0))), (0, .ref (mA G 107))]) C dX8_need_20 (by decide) rfl ?_
  refine r_iload_n C dX8_need_21 0 rfl ?_
  refine r_if_ge (tgt := 29) C dX8_need_22 (by decide) (fun c22 => ?_) (fun c22 => ?_)
  ·
    refine r_iload_n C dX8_need_29 0 rfl ?_
    exact hend _ _ _ _ _ dX8_need_30 (rfl) (⟨mx_ge c22, rfl, rfl⟩)
  ·
    refine r_iconst (v := 0) C dX8_need_25 rfl ?_
    refine r_goto (tgt := 30) C dX8_need_26 (by decide) ?_
    exact hend _ _ _ _ _ dX8_need_30 (rfl) (⟨mx_lt c22, rfl, rfl⟩)

set_option maxRecDepth 20000 in
set_option maxHeartbeats 1000000 in
theorem c_X8_delivered (l : Launch) (G : mG) (hG : mInj G) (M : Mem) (g : Glo) (V : View) (hW : wfV V) (hV : rV (M 108) V) (hR : rOK M V) (j : Nat) (h0 : 0 < j) (hj : j < vN V) : mcI l G yX8_delivered cX8_delivered 2 .int 2 [.ref (mA G 107), .int (nI j)] M g (fun r M' g' => r = delF V j ∧ M' = M ∧ g' = g) := by
  refine mcI_of (L0 := [(0, .ref (mA G 107)), (1, .int (nI j))]) hG (by decide) (Nat.le_of_ble_eq_true rfl) rfl ?_
  intro p e s m args below meth c Q C hend
  have hT := hW.1
  obtain ⟨hn1, hn16, hb4, ⟨hd0, hd3, hd5, hd6⟩, hpar⟩ := id hT
  refine r_aload_n C dX8_delivered_0 0 rfl ?_
  refine r_iload_n C dX8_delivered_1 1 rfl ?_
  refine r_iconst (v := 3) C dX8_delivered_2 rfl ?_
  refine r_callVI (As := [.int (nI j), .int 3]) (rest := []) C dX8_delivered_3 s_X8_48 (c_X8_of l G hG M g V hW hV j hj 3 (by decide)) (by decide) rfl rfl rfl rfl (Nat.le_of_ble_eq_true rfl) (Nat.le_of_ble_eq_true rfl) (Nat.le_of_ble_eq_true rfl) (pk_I ?_)
  refine r_aload_n C dX8_delivered_6 0 rfl ?_
  refine r_getr (q2 := 113) C dX8_delivered_7 8 f_X8_25 rfl rfl ?_
  refine r_iload_n C dX8_delivered_10 1 rfl ?_
  refine r_ialdN (j := j) (v := warmF V (vSup V) j) C dX8_delivered_11 rfl (rfl) (by omega) (by decide) ((hR j hj).2.1) ?_
  refine r_aload_n C dX8_delivered_12 0 rfl ?_
  refine r_getr (q2 := 114) C dX8_delivered_13 9 f_X8_28 rfl rfl ?_
  refine r_iload_n C dX8_delivered_16 1 rfl ?_
  refine r_ialdN (j := j) (v := rF V (vSup V) j) C dX8_delivered_17 rfl (rfl) (by omega) (by decide) (((hR j hj).2.2.1).trans (if_neg (by omega))) ?_
  refine r_isub C dX8_delivered_18 ?_
  refine r_imul C dX8_delivered_19 ?_
  exact hend _ _ _ _ _ dX8_delivered_20 (rfl) (⟨rfl, rfl, rfl⟩)

set_option maxRecDepth 20000 in
set_option maxHeartbeats 1000000 in
theorem c_X8_billOf (l : Launch) (G : mG) (hG : mInj G) (M : Mem) (g : Glo) (V : View) (hW : wfV V) (hV : rV (M 108) V) (hR : rOK M V) (j : Nat) (h0 : 0 < j) (hj : j < vN V) : mcI l G yX8_billOf cX8_billOf 2 .int 3 [.ref (mA G 107), .int (nI j)] M g (fun r M' g' => r = billF V j ∧ M' = M ∧ g' = g) := by
  refine mcI_of (L0 := [(0, .ref (mA G 107)), (1, .int (nI j))]) hG (by decide) (Nat.le_of_ble_eq_true rfl) rfl ?_
  intro p e s m args below meth c Q C hend
  have hT := hW.1
  obtain ⟨hn1, hn16, hb4, ⟨hd0, hd3, hd5, hd6⟩, hpar⟩ := id hT
  refine r_aload_n C dX8_billOf_0 0 rfl ?_
  refine r_iload_n C dX8_billOf_1 1 rfl ?_
  refine r_callVI (As := [.int (nI j)]) (rest := []) C dX8_billOf_2 s_X8_58 (c_X8_delivered l G hG M g V hW hV hR j h0 hj) (by decide) rfl rfl rfl rfl (Nat.le_of_ble_eq_true rfl) (Nat.le_of_ble_eq_true rfl) (Nat.le_of_ble_eq_true rfl) (pk_I ?_)
  refine r_aload_n C dX8_billOf_5 0 rfl ?_
  refine r_getr (q2 := 108) C dX8_billOf_6 0 f_X8_7 rfl rfl ?_
  refine r_iconst (v := 2) C dX8_billOf_9 rfl ?_
  refine r_ialdN (j := 2) (v := vS V 2) C dX8_billOf_10 rfl (rfl) (by omega) (by decide) (hV.2.1.2.2.1) ?_
  refine r_imul C dX8_billOf_11 ?_
  refine r_sipush (v := 1000) C dX8_billOf_12 rfl ?_
  refine r_idiv C dX8_billOf_15 (by decide) ?_
  refine r_aload_n C dX8_billOf_16 0 rfl ?_
  refine r_iload_n C dX8_billOf_17 1 rfl ?_
  refine r_iconst (v := 3) C dX8_billOf_18 rfl ?_
  refine r_callVI (As := [.int (nI j), .int 3]) (rest := [.int (((delF V j) * (vS V 2)) / 1000)]) C dX8_billOf_19 s_X8_48 (c_X8_of l G hG M g V hW hV j hj 3 (by decide)) (by decide) rfl rfl rfl rfl (Nat.le_of_ble_eq_true rfl) (Nat.le_of_ble_eq_true rfl) (Nat.le_of_ble_eq_true rfl) (pk_I ?_)
  refine r_aload_n C dX8_billOf_22 0 rfl ?_
  refine r_getr (q2 := 114) C dX8_billOf_23 9 f_X8_28 rfl rfl ?_
  refine r_iload_n C dX8_billOf_26 1 rfl ?_
  refine r_ialdN (j := j) (v := rF V (vSup V) j) C dX8_billOf_27 rfl (rfl) (by omega) (by decide) (((hR j hj).2.2.1).trans (if_neg (by omega))) ?_
  refine r_aload_n C dX8_billOf_28 0 rfl ?_
  refine r_getr (q2 := 108) C dX8_billOf_29 0 f_X8_7 rfl rfl ?_
  refine r_iconst (v := 3) C dX8_billOf_32 rfl ?_
  refine r_ialdN (j := 3) (v := vS V 3) C dX8_billOf_33 rfl (rfl) (by omega) (by decide) (hV.2.1.2.2.2.1) ?_
  refine r_isub C dX8_billOf_34 ?_
  refine r_imul C dX8_billOf_35 ?_
  refine r_aload_n C dX8_billOf_36 0 rfl ?_
  refine r_getr (q2 := 108) C dX8_billOf_37 0 f_X8_7 rfl rfl ?_
  refine r_iconst (v := 4) C dX8_billOf_40 rfl ?_
  refine r_ialdN (j := 4) (v := vS V 4) C dX8_billOf_41 rfl (rfl) (by omega) (by decide) (hV.2.1.2.2.2.2.1) ?_
  refine r_imul C dX8_billOf_42 ?_
  refine r_sipush (v := 1000) C dX8_billOf_43 rfl ?_
  refine r_idiv C dX8_billOf_46 (by decide) ?_
  refine r_iadd C dX8_billOf_47 ?_
  exact hend _ _ _ _ _ dX8_billOf_48 (rfl) (⟨rfl, rfl, rfl⟩)

set_option maxRecDepth 20000 in
set_option maxHeartbeats 1000000 in
theorem c_X8_heatOf_0 (l : Launch) (G : mG) (hG : mInj G) (M : Mem) (g : Glo) (V : View) (hW : wfV V) (hV : rV (M 108) V) (hR : rOK M V) (j : Nat) (h0 : 0 < j) (hj : j < vN V) : mcI l G yX8_heatOf cX8_heatOf 4 .int 4 [.ref (mA G 107), .int (nI j), .int 0] M g (fun r M' g' => r = heatF V j 0 ∧ M' = M ∧ g' = g) := by
  refine mcI_of (L0 := [(0, .ref (mA G 107)), (1, .int (nI j)), (2, .int 0)]) hG (by decide) (Nat.le_of_ble_eq_true rfl) rfl ?_
  intro p e s m args below meth c Q C hend
  have hT := hW.1
  obtain ⟨hn1, hn16, hb4, ⟨hd0, hd3, hd5, hd6⟩, hpar⟩ := id hT
  have hpk := hpar j h0 hj
  refine r_aload_n C dX8_heatOf_0 0 rfl ?_
  refine r_getr (q2 := 113) C dX8_heatOf_1 8 f_X8_25 rfl rfl ?_
  refine r_aload_n C dX8_heatOf_4 0 rfl ?_
  refine r_iload_n C dX8_heatOf_5 1 rfl ?_
  refine r_iconst (v := 0) C dX8_heatOf_6 rfl ?_
  refine r_callVI (As := [.int (nI j), .int 0]) (rest := [.ref (mA G 113)]) C dX8_heatOf_7 s_X8_48 (c_X8_of l G hG M g V hW hV j hj 0 (by decide)) (by decide) rfl rfl rfl rfl (Nat.le_of_ble_eq_true rfl) (Nat.le_of_ble_eq_true rfl) (Nat.le_of_ble_eq_true rfl) (pk_I ?_)
  refine r_valI (y := nI (vP V j)) (hpk.1) ?_
  refine r_ialdN (j := vP V j) (v := warmF V (vSup V) (vP V j)) C dX8_heatOf_10 rfl (rfl) (by omega) (by decide) ((hR (vP V j) (by omega)).2.1) ?_
  refine r_istore_n (L' := [(3, .int (warmF V (vSup V) (vP V j))), (0, .ref (mA G 107)), (1, .int (nI j)), (2, .int 0)]) C dX8_heatOf_11 (by decide) rfl ?_
  refine r_iload_n C dX8_heatOf_12 3 rfl ?_
  refine r_tableIn (off := 35) (tgt := 48) C dX8_heatOf_13 (by decide) (by decide) (by decide) (by decide) ?_
  refine r_aload_n C dX8_heatOf_48 1 rfl ?_
  refine r_iload_n C dX8_heatOf_49 2 rfl ?_
  refine r_callVI (As := [.int (nI j)]) (rest := []) C dX8_heatOf_50 s_X8_58 (c_X8_delivered l G hG M g V hW hV hR j h0 hj) (by decide) rfl rfl rfl rfl (Nat.le_of_ble_eq_true rfl) (Nat.le_of_ble_eq_true rfl) (Nat.le_of_ble_eq_true rfl) (pk_I ?_)
  exact hend _ _ _ _ _ dX8_heatOf_53 (rfl) (⟨rfl, rfl, rfl⟩)

set_option maxRecDepth 20000 in
set_option maxHeartbeats 1000000 in
theorem c_X8_heatOf_1 (l : Launch) (G : mG) (hG : mInj G) (M : Mem) (g : Glo) (V : View) (hW : wfV V) (hV : rV (M 108) V) (hR : rOK M V) (j : Nat) (h0 : 0 < j) (hj : j < vN V) : mcI l G yX8_heatOf cX8_heatOf 4 .int 4 [.ref (mA G 107), .int (nI j), .int 1] M g (fun r M' g' => r = heatF V j 1 ∧ M' = M ∧ g' = g) := by
  refine mcI_of (L0 := [(0, .ref (mA G 107)), (1, .int (nI j)), (2, .int 1)]) hG (by decide) (Nat.le_of_ble_eq_true rfl) rfl ?_
  intro p e s m args below meth c Q C hend
  have hT := hW.1
  obtain ⟨hn1, hn16, hb4, ⟨hd0, hd3, hd5, hd6⟩, hpar⟩ := id hT
  have hpk := hpar j h0 hj
  refine r_aload_n C dX8_heatOf_0 0 rfl ?_
  refine r_getr (q2 := 113) C dX8_heatOf_1 8 f_X8_25 rfl rfl ?_
  refine r_aload_n C dX8_heatOf_4 0 rfl ?_
  refine r_iload_n C dX8_heatOf_5 1 rfl ?_
  refine r_iconst (v := 0) C dX8_heatOf_6 rfl ?_
  refine r_callVI (As := [.int (nI j), .int 0]) (rest := [.ref (mA G 113)]) C dX8_heatOf_7 s_X8_48 (c_X8_of l G hG M g V hW hV j hj 0 (by decide)) (by decide) rfl rfl rfl rfl (Nat.le_of_ble_eq_true rfl) (Nat.le_of_ble_eq_true rfl) (Nat.le_of_ble_eq_true rfl) (pk_I ?_)
  refine r_valI (y := nI (vP V j)) (hpk.1) ?_
  refine r_ialdN (j := vP V j) (v := warmF V (vSup V) (vP V j)) C dX8_heatOf_10 rfl (rfl) (by omega) (by decide) ((hR (vP V j) (by omega)).2.1) ?_
  refine r_istore_n (L' := [(3, .int (warmF V (vSup V) (vP V j))), (0, .ref (mA G 107)), (1, .int (nI j)), (2, .int 1)]) C dX8_heatOf_11 (by decide) rfl ?_
  refine r_iload_n C dX8_heatOf_12 3 rfl ?_
  refine r_tableIn (off := 41) (tgt := 54) C dX8_heatOf_13 (by decide) (by decide) (by decide) (by decide) ?_
  refine r_aload_n C dX8_heatOf_54 1 rfl ?_
  refine r_getr (q2 := 112) C dX8_heatOf_55 7 f_X8_22 rfl rfl ?_
  refine r_iload_n C dX8_heatOf_58 2 rfl ?_
  refine r_ialdN (j := j) (v := flowF V j) C dX8_heatOf_59 rfl (rfl) (by omega) (by decide) ((hR j hj).1) ?_
  refine r_iload_n C dX8_heatOf_60 0 rfl ?_
  refine r_aload_n C dX8_heatOf_61 1 rfl ?_
  refine r_getr (q2 := 113) C dX8_heatOf_62 8 f_X8_25 rfl rfl ?_
  refine r_iload_n C dX8_heatOf_65 2 rfl ?_
  refine r_ialdN (j := j) (v := warmF V (vSup V) j) C dX8_heatOf_66 rfl (rfl) (by omega) (by decide) ((hR j hj).2.1) ?_
  refine r_isub C dX8_heatOf_67 ?_
  refine r_imul C dX8_heatOf_68 ?_
  exact hend _ _ _ _ _ dX8_heatOf_69 (rfl) (⟨rfl, rfl, rfl⟩)

set_option maxRecDepth 20000 in
set_option maxHeartbeats 1000000 in
theorem c_X8_heatOf_2 (l : Launch) (G : mG) (hG : mInj G) (M : Mem) (g : Glo) (V : View) (hW : wfV V) (hV : rV (M 108) V) (hR : rOK M V) (j : Nat) (h0 : 0 < j) (hj : j < vN V) : mcI l G yX8_heatOf cX8_heatOf 4 .int 4 [.ref (mA G 107), .int (nI j), .int 2] M g (fun r M' g' => r = heatF V j 2 ∧ M' = M ∧ g' = g) := by
  refine mcI_of (L0 := [(0, .ref (mA G 107)), (1, .int (nI j)), (2, .int 2)]) hG (by decide) (Nat.le_of_ble_eq_true rfl) rfl ?_
  intro p e s m args below meth c Q C hend
  have hT := hW.1
  obtain ⟨hn1, hn16, hb4, ⟨hd0, hd3, hd5, hd6⟩, hpar⟩ := id hT
  have hpk := hpar j h0 hj
  refine r_aload_n C dX8_heatOf_0 0 rfl ?_
  refine r_getr (q2 := 113) C dX8_heatOf_1 8 f_X8_25 rfl rfl ?_
  refine r_aload_n C dX8_heatOf_4 0 rfl ?_
  refine r_iload_n C dX8_heatOf_5 1 rfl ?_
  refine r_iconst (v := 0) C dX8_heatOf_6 rfl ?_
  refine r_callVI (As := [.int (nI j), .int 0]) (rest := [.ref (mA G 113)]) C dX8_heatOf_7 s_X8_48 (c_X8_of l G hG M g V hW hV j hj 0 (by decide)) (by decide) rfl rfl rfl rfl (Nat.le_of_ble_eq_true rfl) (Nat.le_of_ble_eq_true rfl) (Nat.le_of_ble_eq_true rfl) (pk_I ?_)
  refine r_valI (y := nI (vP V j)) (hpk.1) ?_
  refine r_ialdN (j := vP V j) (v := warmF V (vSup V) (vP V j)) C dX8_heatOf_10 rfl (rfl) (by omega) (by decide) ((hR (vP V j) (by omega)).2.1) ?_
  refine r_istore_n (L' := [(3, .int (warmF V (vSup V) (vP V j))), (0, .ref (mA G 107)), (1, .int (nI j)), (2, .int 2)]) C dX8_heatOf_11 (by decide) rfl ?_
  refine r_iload_n C dX8_heatOf_12 3 rfl ?_
  refine r_tableIn (off := 57) (tgt := 70) C dX8_heatOf_13 (by decide) (by decide) (by decide) (by decide) ?_
  refine r_aload_n C dX8_heatOf_70 1 rfl ?_
  refine r_iload_n C dX8_heatOf_71 2 rfl ?_
  refine r_iconst (v := 5) C dX8_heatOf_72 rfl ?_
  refine r_callVI (As := [.int (nI j), .int 5]) (rest := []) C dX8_heatOf_73 s_X8_48 (c_X8_of l G hG M g V hW hV j hj 5 (by decide)) (by decide) rfl rfl rfl rfl (Nat.le_of_ble_eq_true rfl) (Nat.le_of_ble_eq_true rfl) (Nat.le_of_ble_eq_true rfl) (pk_I ?_)
  refine r_aload_n C dX8_heatOf_76 1 rfl ?_
  refine r_getr (q2 := 113) C dX8_heatOf_77 8 f_X8_25 rfl rfl ?_
  refine r_iload_n C dX8_heatOf_80 2 rfl ?_
  refine r_ialdN (j := j) (v := warmF V (vSup V) j) C dX8_heatOf_81 rfl (rfl) (by omega) (by decide) ((hR j hj).2.1) ?_
  refine r_imul C dX8_heatOf_82 ?_
  exact hend _ _ _ _ _ dX8_heatOf_83 (rfl) (⟨rfl, rfl, rfl⟩)

set_option maxRecDepth 20000 in
set_option maxHeartbeats 1000000 in
theorem c_X8_heatOf_3 (l : Launch) (G : mG) (hG : mInj G) (M : Mem) (g : Glo) (V : View) (hW : wfV V) (hV : rV (M 108) V) (hR : rOK M V) (j : Nat) (h0 : 0 < j) (hj : j < vN V) : mcI l G yX8_heatOf cX8_heatOf 4 .int 4 [.ref (mA G 107), .int (nI j), .int 3] M g (fun r M' g' => r = heatF V j 3 ∧ M' = M ∧ g' = g) := by
  refine mcI_of (L0 := [(0, .ref (mA G 107)), (1, .int (nI j)), (2, .int 3)]) hG (by decide) (Nat.le_of_ble_eq_true rfl) rfl ?_
  intro p e s m args below meth c Q C hend
  have hT := hW.1
  obtain ⟨hn1, hn16, hb4, ⟨hd0, hd3, hd5, hd6⟩, hpar⟩ := id hT
  have hpk := hpar j h0 hj
  refine r_aload_n C dX8_heatOf_0 0 rfl ?_
  refine r_getr (q2 := 113) C dX8_heatOf_1 8 f_X8_25 rfl rfl ?_
  refine r_aload_n C dX8_heatOf_4 0 rfl ?_
  refine r_iload_n C dX8_heatOf_5 1 rfl ?_
  refine r_iconst (v := 0) C dX8_heatOf_6 rfl ?_
  refine r_callVI (As := [.int (nI j), .int 0]) (rest := [.ref (mA G 113)]) C dX8_heatOf_7 s_X8_48 (c_X8_of l G hG M g V hW hV j hj 0 (by decide)) (by decide) rfl rfl rfl rfl (Nat.le_of_ble_eq_true rfl) (Nat.le_of_ble_eq_true rfl) (Nat.le_of_ble_eq_true rfl) (pk_I ?_)
  refine r_valI (y := nI (vP V j)) (hpk.1) ?_
  refine r_ialdN (j := vP V j) (v := warmF V (vSup V) (vP V j)) C dX8_heatOf_10 rfl (rfl) (by omega) (by decide) ((hR (vP V j) (by omega)).2.1) ?_
  refine r_istore_n (L' := [(3, .int (warmF V (vSup V) (vP V j))), (0, .ref (mA G 107)), (1, .int (nI j)), (2, .int 3)]) C dX8_heatOf_11 (by decide) rfl ?_
  refine r_iload_n C dX8_heatOf_12 3 rfl ?_
  refine r_tableIn (off := 71) (tgt := 84) C dX8_heatOf_13 (by decide) (by decide) (by decide) (by decide) ?_
  refine r_aload_n C dX8_heatOf_84 1 rfl ?_
  refine r_getr (q2 := 115) C dX8_heatOf_85 10 f_X8_31 rfl rfl ?_
  refine r_iload_n C dX8_heatOf_88 2 rfl ?_
  refine r_ialdN (j := j) (v := backF V (vSup V) j) C dX8_heatOf_89 rfl (rfl) (by omega) (by decide) ((hR j hj).2.2.2) ?_
  exact hend _ _ _ _ _ dX8_heatOf_90 (rfl) (⟨rfl, rfl, rfl⟩)

set_option maxRecDepth 20000 in
set_option maxHeartbeats 1000000 in
theorem c_X8_heatOf_4 (l : Launch) (G : mG) (hG : mInj G) (M : Mem) (g : Glo) (V : View) (hW : wfV V) (hV : rV (M 108) V) (hR : rOK M V) (j : Nat) (h0 : 0 < j) (hj : j < vN V) : mcI l G yX8_heatOf cX8_heatOf 4 .int 4 [.ref (mA G 107), .int (nI j), .int 4] M g (fun r M' g' => r = heatF V j 4 ∧ M' = M ∧ g' = g) := by
  refine mcI_of (L0 := [(0, .ref (mA G 107)), (1, .int (nI j)), (2, .int 4)]) hG (by decide) (Nat.le_of_ble_eq_true rfl) rfl ?_
  intro p e s m args below meth c Q C hend
  have hT := hW.1
  obtain ⟨hn1, hn16, hb4, ⟨hd0, hd3, hd5, hd6⟩, hpar⟩ := id hT
  have hpk := hpar j h0 hj
  refine r_aload_n C dX8_heatOf_0 0 rfl ?_
  refine r_getr (q2 := 113) C dX8_heatOf_1 8 f_X8_25 rfl rfl ?_
  refine r_aload_n C dX8_heatOf_4 0 rfl ?_
  refine r_iload_n C dX8_heatOf_5 1 rfl ?_
  refine r_iconst (v := 0) C dX8_heatOf_6 rfl ?_
  refine r_callVI (As := [.int (nI j), .int 0]) (rest := [.ref (mA G 113)]) C dX8_heatOf_7 s_X8_48 (c_X8_of l G hG M g V hW hV j hj 0 (by decide)) (by decide) rfl rfl rfl rfl (Nat.le_of_ble_eq_true rfl) (Nat.le_of_ble_eq_true rfl) (Nat.le_of_ble_eq_true rfl) (pk_I ?_)
  refine r_valI (y := nI (vP V j)) (hpk.1) ?_
  refine r_ialdN (j := vP V j) (v := warmF V (vSup V) (vP V j)) C dX8_heatOf_10 rfl (rfl) (by omega) (by decide) ((hR (vP V j) (by omega)).2.1) ?_
  refine r_istore_n (L' := [(3, .int (warmF V (vSup V) (vP V j))), (0, .ref (mA G 107)), (1, .int (nI j)), (2, .int 4)]) C dX8_heatOf_11 (by decide) rfl ?_
  refine r_iload_n C dX8_heatOf_12 3 rfl ?_
  refine r_tableIn (off := 78) (tgt := 91) C dX8_heatOf_13 (by decide) (by decide) (by decide) (by decide) ?_
  refine r_aload_n C dX8_heatOf_91 1 rfl ?_
  refine r_getr (q2 := 112) C dX8_heatOf_92 7 f_X8_22 rfl rfl ?_
  refine r_iload_n C dX8_heatOf_95 2 rfl ?_
  refine r_ialdN (j := j) (v := flowF V j) C dX8_heatOf_96 rfl (rfl) (by omega) (by decide) ((hR j hj).1) ?_
  refine r_iload_n C dX8_heatOf_97 0 rfl ?_
  refine r_imul C dX8_heatOf_98 ?_
  exact hend _ _ _ _ _ dX8_heatOf_99 (rfl) (⟨rfl, rfl, rfl⟩)

set_option maxRecDepth 20000 in
set_option maxHeartbeats 1000000 in
theorem c_X8_heatOf_5 (l : Launch) (G : mG) (hG : mInj G) (M : Mem) (g : Glo) (V : View) (hW : wfV V) (hV : rV (M 108) V) (hR : rOK M V) (j : Nat) (h0 : 0 < j) (hj : j < vN V) : mcI l G yX8_heatOf cX8_heatOf 4 .int 4 [.ref (mA G 107), .int (nI j), .int 5] M g (fun r M' g' => r = heatF V j 5 ∧ M' = M ∧ g' = g) := by
  refine mcI_of (L0 := [(0, .ref (mA G 107)), (1, .int (nI j)), (2, .int 5)]) hG (by decide) (Nat.le_of_ble_eq_true rfl) rfl ?_
  intro p e s m args below meth c Q C hend
  have hT := hW.1
  obtain ⟨hn1, hn16, hb4, ⟨hd0, hd3, hd5, hd6⟩, hpar⟩ := id hT
  have hpk := hpar j h0 hj
  refine r_aload_n C dX8_heatOf_0 0 rfl ?_
  refine r_getr (q2 := 113) C dX8_heatOf_1 8 f_X8_25 rfl rfl ?_
  refine r_aload_n C dX8_heatOf_4 0 rfl ?_
  refine r_iload_n C dX8_heatOf_5 1 rfl ?_
  refine r_iconst (v := 0) C dX8_heatOf_6 rfl ?_
  refine r_callVI (As := [.int (nI j), .int 0]) (rest := [.ref (mA G 113)]) C dX8_heatOf_7 s_X8_48 (c_X8_of l G hG M g V hW hV j hj 0 (by decide)) (by decide) rfl rfl rfl rfl (Nat.le_of_ble_eq_true rfl) (Nat.le_of_ble_eq_true rfl) (Nat.le_of_ble_eq_true rfl) (pk_I ?_)
  refine r_valI (y := nI (vP V j)) (hpk.1) ?_
  refine r_ialdN (j := vP V j) (v := warmF V (vSup V) (vP V j)) C dX8_heatOf_10 rfl (rfl) (by omega) (by decide) ((hR (vP V j) (by omega)).2.1) ?_
  refine r_istore_n (L' := [(3, .int (warmF V (vSup V) (vP V j))), (0, .ref (mA G 107)), (1, .int (nI j)), (2, .int 5)]) C dX8_heatOf_11 (by decide) rfl ?_
  refine r_iload_n C dX8_heatOf_12 3 rfl ?_
  refine r_tableOut (tgt := 100) C dX8_heatOf_13 (Or.inr (by decide)) (by decide) ?_
  refine r_aload_n C dX8_heatOf_100 1 rfl ?_
  refine r_iload_n C dX8_heatOf_101 2 rfl ?_
  refine r_callVI (As := [.int (nI j)]) (rest := []) C dX8_heatOf_102 s_X8_61 (c_X8_billOf l G hG M g V hW hV hR j h0 hj) (by decide) rfl rfl rfl rfl (Nat.le_of_ble_eq_true rfl) (Nat.le_of_ble_eq_true rfl) (Nat.le_of_ble_eq_true rfl) (pk_I ?_)
  exact hend _ _ _ _ _ dX8_heatOf_105 (rfl) (⟨rfl, rfl, rfl⟩)

theorem c_X8_heatOf (l : Launch) (G : mG) (hG : mInj G) (M : Mem) (g : Glo) (V : View) (hW : wfV V) (hV : rV (M 108) V) (hR : rOK M V) (j : Nat) (h0 : 0 < j) (hj : j < vN V) (w : Nat) (hw : w < 6) : mcI l G yX8_heatOf cX8_heatOf 4 .int 4 [.ref (mA G 107), .int (nI j), .int (nI w)] M g (fun r M' g' => r = heatF V j w ∧ M' = M ∧ g' = g) := by
  have hc : w = 0 ∨ w = 1 ∨ w = 2 ∨ w = 3 ∨ w = 4 ∨ w = 5 := by omega
  rcases hc with rfl | rfl | rfl | rfl | rfl | rfl
  · exact c_X8_heatOf_0 l G hG M g V hW hV hR j h0 hj
  · exact c_X8_heatOf_1 l G hG M g V hW hV hR j h0 hj
  · exact c_X8_heatOf_2 l G hG M g V hW hV hR j h0 hj
  · exact c_X8_heatOf_3 l G hG M g V hW hV hR j h0 hj
  · exact c_X8_heatOf_4 l G hG M g V hW hV hR j h0 hj
  · exact c_X8_heatOf_5 l G hG M g V hW hV hR j h0 hj

set_option maxRecDepth 20000 in
set_option maxHeartbeats 1000000 in
theorem c_X8_sumOf (l : Launch) (G : mG) (hG : mInj G) (M : Mem) (g : Glo) (V : View) (hW : wfV V) (hV : rV (M 108) V) (hR : rOK M V) (w : Nat) (hw : w < 6) : mcI l G yX8_sumOf cX8_sumOf 4 .int 5 [.ref (mA G 107), .int (nI w)] M g (fun r M' g' => r = sumF V w ∧ M' = M ∧ g' = g) := by
  refine mcI_of (L0 := [(0, .ref (mA G 107)), (1, .int (nI w))]) hG (by decide) (Nat.le_of_ble_eq_true rfl) rfl ?_
  intro p e s m args below meth c Q C hend
  have hT := hW.1
  obtain ⟨hn1, hn16, hb4, ⟨hd0, hd3, hd5, hd6⟩, hpar⟩ := id hT
  refine r_iconst (v := 0) C dX8_sumOf_0 rfl ?_
  refine r_istore_n (L' := [(2, .int 0), (0, .ref (mA G 107)), (1, .int (nI w))]) C dX8_sumOf_1 (by decide) rfl ?_
  refine r_iconst (v := nI 1) C dX8_sumOf_2 rfl ?_
  refine r_istore_n (L' := [(3, .int (nI 1)), (2, .int 0), (0, .ref (mA G 107)), (1, .int (nI w))]) C dX8_sumOf_3 (by decide) rfl ?_
  have lp4 : ∀ (fu : Nat) (k : Nat) (a : Int32), (0 < k) → (k ≤ vN V) → (a = sumP (fun j => heatF V j w) k) → (vN V - k) < fu → At p l e (rmD 5 0 0) s m args below meth c G 4 0 0 Q M g [(3, .int (nI k)), (2, .int a), (0, .ref (mA G 107)), (1, .int (nI w))] 4 [] := by
    intro fu
    induction fu with
    | zero => intro k a hk0 hkn ha hfu; exact absurd hfu (Nat.not_lt_zero _)
    | succ fu ih4 =>
      intro k a hk0 hkn ha hfu4
      refine r_iload_n C dX8_sumOf_4 0 rfl ?_
      refine r_aload_n C dX8_sumOf_5 2 rfl ?_
      refine r_getr (q2 := 108) C dX8_sumOf_6 0 f_X8_7 rfl rfl ?_
      refine r_iconst (v := 5) C dX8_sumOf_9 rfl ?_
      refine r_ialdN (j := 5) (v := nI (vN V)) C dX8_sumOf_10 rfl (rfl) (by omega) (by decide) (hV.1.1) ?_
      refine r_icmp_ge (tgt := 29) C dX8_sumOf_11 (by decide) (fun c11 => ?_) (fun c11 => ?_)
      ·
        have hkn2 : k = vN V := by have := le_of_le (by omega) (by omega) c11; omega
        refine r_iload_n C dX8_sumOf_29 1 rfl ?_
        exact hend _ _ _ _ _ dX8_sumOf_30 (rfl) (⟨by rw [ha, hkn2]; rfl, rfl, rfl⟩)
      ·
        have hlt : k < vN V := lt_of_nle (by omega) c11
        refine r_iload_n C dX8_sumOf_14 1 rfl ?_
        refine r_aload_n C dX8_sumOf_15 2 rfl ?_
        refine r_iload_n C dX8_sumOf_16 0 rfl ?_
        refine r_iload_n C dX8_sumOf_17 3 rfl ?_
        refine r_callVI (As := [.int (nI k), .int (nI w)]) (rest := [.int a]) C dX8_sumOf_18 s_X8_64 (c_X8_heatOf l G hG M g V hW hV hR k hk0 hlt w hw) (by decide) rfl rfl rfl rfl (Nat.le_of_ble_eq_true rfl) (Nat.le_of_ble_eq_true rfl) (Nat.le_of_ble_eq_true rfl) (pk_I ?_)
        refine r_iadd C dX8_sumOf_21 ?_
        refine r_istore_n (L' := [(2, .int (a + (heatF V k w))), (3, .int (nI k)), (0, .ref (mA G 107)), (1, .int (nI w))]) C dX8_sumOf_22 (by decide) rfl ?_
        refine r_iinc (v := nI (k + 1)) (L' := [(3, .int (nI (k + 1))), (2, .int (a + (heatF V k w))), (0, .ref (mA G 107)), (1, .int (nI w))]) C dX8_sumOf_23 1 rfl (nI_inc _) (by decide) rfl ?_
        refine r_goto (tgt := 4) C dX8_sumOf_26 (by decide) ?_
        refine r_sub (L' := [(3, .int (nI (k + 1))), (2, .int (a + (heatF V k w))), (0, .ref (mA G 107)), (1, .int (nI w))]) [0, 1, 2, 3] rfl ?_
        exact ih4 (k + 1) (a + heatF V k w) (by omega) (by omega) (by rw [ha, sumP_s _ hk0]) (by omega)
  refine r_sub (L' := [(3, .int (nI 1)), (2, .int 0), (0, .ref (mA G 107)), (1, .int (nI w))]) [0, 1, 2, 3] rfl ?_
  exact lp4 _ 1 0 (by omega) hn1 (sumP_1 _).symm (Nat.lt_succ_self _)

set_option maxRecDepth 20000 in
set_option maxHeartbeats 1000000 in
theorem c_X8_costs (l : Launch) (G : mG) (hG : mInj G) (M : Mem) (g : Glo) (V : View) (hW : wfV V) (hV : rV (M 108) V) (hR : rOK M V) : mcI l G yX8_costs cX8_costs 6 .int 4 [.ref (mA G 107)] M g (fun r M' g' => (r = costF V (needF V (vSup V)) ∧ cstP M M' V) ∧ g' = g) := by
  refine mcI_of (L0 := [(0, .ref (mA G 107))]) hG (by decide) (Nat.le_of_ble_eq_true rfl) rfl ?_
  intro p e s m args below meth c Q C hend
  have hT := hW.1
  obtain ⟨hn1, hn16, hb4, ⟨hd0, hd3, hd5, hd6⟩, hpar⟩ := id hT
  have hV4 : ∀ f : Nat → Int32, rV (mrow M 116 f 108) V := fun _ => by rw [mrow_ne (by omega)]; exact hV
  refine r_aload_n C dX8_costs_0 0 rfl ?_
  refine r_callVI (As := []) (rest := []) C dX8_costs_1 s_X8_73 (c_X8_need l G hG M g V hW hV hR) (by decide) rfl rfl rfl rfl (Nat.le_of_ble_eq_true rfl) (Nat.le_of_ble_eq_true rfl) (Nat.le_of_ble_eq_true rfl) (pk_I ?_)
  refine r_istore_n (L' := [(1, .int (needF V (vSup V))), (0, .ref (mA G 107))]) C dX8_costs_4 (by decide) rfl ?_
  refine r_iconst (v := 0) C dX8_costs_5 rfl ?_
  refine r_istore_n (L' := [(2, .int 0), (1, .int (needF V (vSup V))), (0, .ref (mA G 107))]) C dX8_costs_6 (by decide) rfl ?_
  refine r_iconst (v := nI 0) C dX8_costs_7 rfl ?_
  refine r_istore_n (L' := [(3, .int (nI 0)), (2, .int 0), (1, .int (needF V (vSup V))), (0, .ref (mA G 107))]) C dX8_costs_8 (by decide) rfl ?_
  have lp9 : ∀ (fu : Nat) (k : Nat) (f : Nat → Int32) (lf sm : Int32), (k ≤ vB V) → (∀ p, p < k → f (boilAt V p) = ldV V (lfF V (needF V (vSup V)) p) (boilAt V p)) → (lf = lfF V (needF V (vSup V)) k) → (sm = csF V (needF V (vSup V)) k) → (vB V - k) < fu → At p l e (rmD 4 0 0) s m args below meth c G 6 0 0 Q (mrow M 116 f) g [(3, .int (nI k)), (2, .int sm), (1, .int lf), (0, .ref (mA G 107))] 9 [] := by
    intro fu
    induction fu with
    | zero => intro k f lf sm hkn hf hl hs hfu; exact absurd hfu (Nat.not_lt_zero _)
    | succ fu ih9 =>
      intro k f lf sm hkn hf hl hs hfu9
      refine r_iload_n C dX8_costs_9 0 rfl ?_
      refine r_aload_n C dX8_costs_10 3 rfl ?_
      refine r_getr (q2 := 108) C dX8_costs_11 0 f_X8_7 rfl rfl ?_
      refine r_bipush (v := 6) C dX8_costs_14 rfl ?_
      refine r_ialdN (j := 6) (v := nI (vB V)) C dX8_costs_16 rfl (rfl) (by omega) (by decide) ((hV4 _).1.2) ?_
      refine r_icmp_ge (tgt := 105) C dX8_costs_17 (by decide) (fun c17 => ?_) (fun c17 => ?_)
      ·
        have hkn2 : k = vB V := by have := le_of_le (by omega) (by omega) c17; omega
        refine r_aload_n C dX8_costs_105 3 rfl ?_
        refine r_iload_n C dX8_costs_106 2 rfl ?_
        refine r_puti C dX8_costs_107 12 fi_X8_80 rfl rfl ?_
        refine r_iload_n C dX8_costs_110 1 rfl ?_
        exact hend _ _ _ _ _ dX8_costs_111 (rfl) (⟨⟨by rw [hs, hkn2]; rfl, f, by rw [hl, hkn2]; rfl, fun b hb => by have h9 := hf (placeN V b) (by have := placeN_lt V hb; omega); rw [boilAt_place V hb] at h9; exact h9⟩, rfl⟩)
      ·
        have hlt : k < vB V := lt_of_nle (by omega) c17
        have hb := (boilAt_spec V hlt).1
        refine r_aload_n C dX8_costs_20 3 rfl ?_
        refine r_iload_n C dX8_costs_21 0 rfl ?_
        refine r_callVI (As := [.int (nI k)]) (rest := []) C dX8_costs_22 s_X8_77 (c_X8_boilerAt l G hG (mrow M 116 f) g V hW (hV4 _) k hlt) (by decide) rfl rfl rfl rfl (Nat.le_of_ble_eq_true rfl) (Nat.le_of_ble_eq_true rfl) (Nat.le_of_ble_eq_true rfl) (pk_I ?_)
        refine r_istore (L' := [(4, .int (nI (boilAt V k))), (3, .int (nI k)), (2, .int sm), (1, .int lf), (0, .ref (mA G 107))]) C dX8_costs_25 (by decide) rfl ?_
        refine r_aload_n C dX8_costs_27 4 rfl ?_
        refine r_iload C dX8_costs_28 0 rfl ?_
        refine r_iconst (v := 0) C dX8_costs_30 rfl ?_
        refine r_callVI (As := [.int (nI (boilAt V k)), .int 0]) (rest := []) C dX8_costs_31 s_X8_67 (c_X8_ofBoiler l G hG (mrow M 116 f) g V hW (hV4 _) (boilAt V k) hb 0 (by decide)) (by decide) rfl rfl rfl rfl (Nat.le_of_ble_eq_true rfl) (Nat.le_of_ble_eq_true rfl) (Nat.le_of_ble_eq_true rfl) (pk_I ?_)
        refine r_iload_n C dX8_costs_34 3 rfl ?_
        refine r_callSI (As := [.int (vO V 0 (boilAt V k)), .int lf]) (rest := []) C dX8_costs_35 s_X8_52 (c_X8_less l G hG (mrow M 116 f) g (vO V 0 (boilAt V k)) lf) (by decide) rfl rfl (Nat.le_of_ble_eq_true rfl) (Nat.le_of_ble_eq_true rfl) (Nat.le_of_ble_eq_true rfl) (pk_I ?_)
        refine r_istore (L' := [(5, .int (minI (vO V 0 (boilAt V k)) lf)), (4, .int (nI (boilAt V k))), (3, .int (nI k)), (2, .int sm), (1, .int lf), (0, .ref (mA G 107))]) C dX8_costs_38 (by decide) rfl ?_
        refine r_iload_n C dX8_costs_40 4 rfl ?_
        refine r_iload C dX8_costs_41 0 rfl ?_
        refine r_isub C dX8_costs_43 ?_
        refine r_istore_n (L' := [(1, .int (lf - (minI (vO V 0 (boilAt V k)) lf))), (5, .int (minI (vO V 0 (boilAt V k)) lf)), (4, .int (nI (boilAt V k))), (3, .int (nI k)), (2, .int sm), (0, .ref (mA G 107))]) C dX8_costs_44 (by decide) rfl ?_
        refine r_iload C dX8_costs_45 1 rfl ?_
        refine r_if_le (tgt := 73) C dX8_costs_47 (by decide) (fun c47 => ?_) (fun c47 => ?_)
        ·
          have hld : ldV V lf (boilAt V k) = minI (vO V 0 (boilAt V k)) lf := if_neg (fun h => i32_nlt.mpr c47 h.1)
          have hnx : nxL V lf (boilAt V k) = lf - minI (vO V 0 (boilAt V k)) lf := if_neg (fun h => i32_nlt.mpr c47 h.1)
          refine r_aload_n C dX8_costs_73 5 rfl ?_
          refine r_getr (q2 := 116) C dX8_costs_74 11 f_X8_34 rfl rfl ?_
          refine r_iload C dX8_costs_77 2 rfl ?_
          refine r_iload C dX8_costs_79 1 rfl ?_
          refine r_iastN (j := boilAt V k) C dX8_costs_81 rfl (rfl) (by omega) (by decide) ?_
          refine r_mem (M' := mrow M 116 (upd f (boilAt V k) (minI (vO V 0 (boilAt V k)) lf))) (mset_row _ _ _ _ _) ?_
          refine r_iload_n C dX8_costs_82 4 rfl ?_
          refine r_iload C dX8_costs_83 1 rfl ?_
          refine r_aload_n C dX8_costs_85 5 rfl ?_
          refine r_iload C dX8_costs_86 2 rfl ?_
          refine r_iconst (v := 2) C dX8_costs_88 rfl ?_
          refine r_callVI (As := [.int (nI (boilAt V k)), .int 2]) (rest := [.int (minI (vO V 0 (boilAt V k)) lf), .int sm]) C dX8_costs_89 s_X8_67 (c_X8_ofBoiler l G hG (mrow M 116 (upd f (boilAt V k) (minI (vO V 0 (boilAt V k)) lf))) g V hW (hV4 _) (boilAt V k) hb 2 (by decide)) (by decide) rfl rfl rfl rfl (Nat.le_of_ble_eq_true rfl) (Nat.le_of_ble_eq_true rfl) (Nat.le_of_ble_eq_true rfl) (pk_I ?_)
          refine r_imul C dX8_costs_92 ?_
          refine r_sipush (v := 1000) C dX8_costs_93 rfl ?_
          refine r_idiv C dX8_costs_96 (by decide) ?_
          refine r_iadd C dX8_costs_97 ?_
          refine r_istore_n (L' := [(2, .int (sm + (((minI (vO V 0 (boilAt V k)) lf) * (vO V 2 (boilAt V k))) / 1000))), (1, .int (lf - (minI (vO V 0 (boilAt V k)) lf))), (5, .int (minI (vO V 0 (boilAt V k)) lf)), (4, .int (nI (boilAt V k))), (3, .int (nI k)), (0, .ref (mA G 107))]) C dX8_costs_98 (by decide) rfl ?_
          refine r_iinc (v := nI (k + 1)) (L' := [(3, .int (nI (k + 1))), (2, .int (sm + (((minI (vO V 0 (boilAt V k)) lf) * (vO V 2 (boilAt V k))) / 1000))), (1, .int (lf - (minI (vO V 0 (boilAt V k)) lf))), (5, .int (minI (vO V 0 (boilAt V k)) lf)), (4, .int (nI (boilAt V k))), (0, .ref (mA G 107))]) C dX8_costs_99 4 rfl (nI_inc _) (by decide) rfl ?_
          refine r_goto (tgt := 9) C dX8_costs_102 (by decide) ?_
          refine r_sub (L' := [(3, .int (nI (k + 1))), (2, .int (sm + (((minI (vO V 0 (boilAt V k)) lf) * (vO V 2 (boilAt V k))) / 1000))), (1, .int (lf - (minI (vO V 0 (boilAt V k)) lf))), (0, .ref (mA G 107))]) [0, 1, 2, 5] rfl ?_
          exact ih9 (k + 1) (upd f (boilAt V k) (minI (vO V 0 (boilAt V k)) lf)) _ _ (by omega) (fun p hp => by rcases Nat.lt_or_ge p k with q | q; (rw [upd_ne (fun e9 => by have h8 := (boilAt_spec V (k := p) (by omega)).2.1; have h9 := (boilAt_spec V hlt).2.1; rw [e9] at h8; omega)]; exact hf p q); (have e9 : p = k := by omega); subst e9; rw [upd_at, ← hl, hld]) (by rw [lfF, ← hl, hnx]) (by rw [csF, ← hs, ← hl, hld]) (by omega)
        ·
          refine r_iload C dX8_costs_50 1 rfl ?_
          refine r_aload_n C dX8_costs_52 5 rfl ?_
          refine r_iload C dX8_costs_53 2 rfl ?_
          refine r_iconst (v := 1) C dX8_costs_55 rfl ?_
          refine r_callVI (As := [.int (nI (boilAt V k)), .int 1]) (rest := [.int (minI (vO V 0 (boilAt V k)) lf)]) C dX8_costs_56 s_X8_67 (c_X8_ofBoiler l G hG (mrow M 116 f) g V hW (hV4 _) (boilAt V k) hb 1 (by decide)) (by decide) rfl rfl rfl rfl (Nat.le_of_ble_eq_true rfl) (Nat.le_of_ble_eq_true rfl) (Nat.le_of_ble_eq_true rfl) (pk_I ?_)
          refine r_icmp_ge (tgt := 73) C dX8_costs_59 (by decide) (fun c59 => ?_) (fun c59 => ?_)
          ·
            have hld : ldV V lf (boilAt V k) = minI (vO V 0 (boilAt V k)) lf := if_neg (fun h => i32_nlt.mpr c59 h.2)
            have hnx : nxL V lf (boilAt V k) = lf - minI (vO V 0 (boilAt V k)) lf := if_neg (fun h => i32_nlt.mpr c59 h.2)
            refine r_aload_n C dX8_costs_73 5 rfl ?_
            refine r_getr (q2 := 116) C dX8_costs_74 11 f_X8_34 rfl rfl ?_
            refine r_iload C dX8_costs_77 2 rfl ?_
            refine r_iload C dX8_costs_79 1 rfl ?_
            refine r_iastN (j := boilAt V k) C dX8_costs_81 rfl (rfl) (by omega) (by decide) ?_
            refine r_mem (M' := mrow M 116 (upd f (boilAt V k) (minI (vO V 0 (boilAt V k)) lf))) (mset_row _ _ _ _ _) ?_
            refine r_iload_n C dX8_costs_82 4 rfl ?_
            refine r_iload C dX8_costs_83 1 rfl ?_
            refine r_aload_n C dX8_costs_85 5 rfl ?_
            refine r_iload C dX8_costs_86 2 rfl ?_
            refine r_iconst (v := 2) C dX8_costs_88 rfl ?_
            refine r_callVI (As := [.int (nI (boilAt V k)), .int 2]) (rest := [.int (minI (vO V 0 (boilAt V k)) lf), .int sm]) C dX8_costs_89 s_X8_67 (c_X8_ofBoiler l G hG (mrow M 116 (upd f (boilAt V k) (minI (vO V 0 (boilAt V k)) lf))) g V hW (hV4 _) (boilAt V k) hb 2 (by decide)) (by decide) rfl rfl rfl rfl (Nat.le_of_ble_eq_true rfl) (Nat.le_of_ble_eq_true rfl) (Nat.le_of_ble_eq_true rfl) (pk_I ?_)
            refine r_imul C dX8_costs_92 ?_
            refine r_sipush (v := 1000) C dX8_costs_93 rfl ?_
            refine r_idiv C dX8_costs_96 (by decide) ?_
            refine r_iadd C dX8_costs_97 ?_
            refine r_istore_n (L' := [(2, .int (sm + (((minI (vO V 0 (boilAt V k)) lf) * (vO V 2 (boilAt V k))) / 1000))), (1, .int (lf - (minI (vO V 0 (boilAt V k)) lf))), (5, .int (minI (vO V 0 (boilAt V k)) lf)), (4, .int (nI (boilAt V k))), (3, .int (nI k)), (0, .ref (mA G 107))]) C dX8_costs_98 (by decide) rfl ?_
            refine r_iinc (v := nI (k + 1)) (L' := [(3, .int (nI (k + 1))), (2, .int (sm + (((minI (vO V 0 (boilAt V k)) lf) * (vO V 2 (boilAt V k))) / 1000))), (1, .int (lf - (minI (vO V 0 (boilAt V k)) lf))), (5, .int (minI (vO V 0 (boilAt V k)) lf)), (4, .int (nI (boilAt V k))), (0, .ref (mA G 107))]) C dX8_costs_99 4 rfl (nI_inc _) (by decide) rfl ?_
            refine r_goto (tgt := 9) C dX8_costs_102 (by decide) ?_
            refine r_sub (L' := [(3, .int (nI (k + 1))), (2, .int (sm + (((minI (vO V 0 (boilAt V k)) lf) * (vO V 2 (boilAt V k))) / 1000))), (1, .int (lf - (minI (vO V 0 (boilAt V k)) lf))), (0, .ref (mA G 107))]) [0, 1, 2, 5] rfl ?_
            exact ih9 (k + 1) (upd f (boilAt V k) (minI (vO V 0 (boilAt V k)) lf)) _ _ (by omega) (fun p hp => by rcases Nat.lt_or_ge p k with q | q; (rw [upd_ne (fun e9 => by have h8 := (boilAt_spec V (k := p) (by omega)).2.1; have h9 := (boilAt_spec V hlt).2.1; rw [e9] at h8; omega)]; exact hf p q); (have e9 : p = k := by omega); subst e9; rw [upd_at, ← hl, hld]) (by rw [lfF, ← hl, hnx]) (by rw [csF, ← hs, ← hl, hld]) (by omega)
          ·
            refine r_aload_n C dX8_costs_62 5 rfl ?_
            refine r_iload C dX8_costs_63 2 rfl ?_
            refine r_iconst (v := 1) C dX8_costs_65 rfl ?_
            refine r_callVI (As := [.int (nI (boilAt V k)), .int 1]) (rest := []) C dX8_costs_66 s_X8_67 (c_X8_ofBoiler l G hG (mrow M 116 f) g V hW (hV4 _) (boilAt V k) hb 1 (by decide)) (by decide) rfl rfl rfl rfl (Nat.le_of_ble_eq_true rfl) (Nat.le_of_ble_eq_true rfl) (Nat.le_of_ble_eq_true rfl) (pk_I ?_)
            refine r_istore (L' := [(5, .int (vO V 1 (boilAt V k))), (1, .int (lf - (minI (vO V 0 (boilAt V k)) lf))), (4, .int (nI (boilAt V k))), (3, .int (nI k)), (2, .int sm), (0, .ref (mA G 107))]) C dX8_costs_69 (by decide) rfl ?_
            refine r_iconst (v := 0) C dX8_costs_71 rfl ?_
            refine r_istore_n (L' := [(1, .int 0), (5, .int (vO V 1 (boilAt V k))), (4, .int (nI (boilAt V k))), (3, .int (nI k)), (2, .int sm), (0, .ref (mA G 107))]) C dX8_costs_72 (by decide) rfl ?_
            have hld : ldV V lf (boilAt V k) = vO V 1 (boilAt V k) := if_pos ⟨i32_nle.mp c47, i32_nle.mp c59⟩
            have hnx : nxL V lf (boilAt V k) = 0 := if_pos ⟨i32_nle.mp c47, i32_nle.mp c59⟩
            refine r_aload_n C dX8_costs_73 5 rfl ?_
            refine r_getr (q2 := 116) C dX8_costs_74 11 f_X8_34 rfl rfl ?_
            refine r_iload C dX8_costs_77 2 rfl ?_
            refine r_iload C dX8_costs_79 1 rfl ?_
            refine r_iastN (j := boilAt V k) C dX8_costs_81 rfl (rfl) (by omega) (by decide) ?_
            refine r_mem (M' := mrow M 116 (upd f (boilAt V k) (vO V 1 (boilAt V k)))) (mset_row _ _ _ _ _) ?_
            refine r_iload_n C dX8_costs_82 4 rfl ?_
            refine r_iload C dX8_costs_83 1 rfl ?_
            refine r_aload_n C dX8_costs_85 5 rfl ?_
            refine r_iload C dX8_costs_86 2 rfl ?_
            refine r_iconst (v := 2) C dX8_costs_88 rfl ?_
            refine r_callVI (As := [.int (nI (boilAt V k)), .int 2]) (rest := [.int (vO V 1 (boilAt V k)), .int sm]) C dX8_costs_89 s_X8_67 (c_X8_ofBoiler l G hG (mrow M 116 (upd f (boilAt V k) (vO V 1 (boilAt V k)))) g V hW (hV4 _) (boilAt V k) hb 2 (by decide)) (by decide) rfl rfl rfl rfl (Nat.le_of_ble_eq_true rfl) (Nat.le_of_ble_eq_true rfl) (Nat.le_of_ble_eq_true rfl) (pk_I ?_)
            refine r_imul C dX8_costs_92 ?_
            refine r_sipush (v := 1000) C dX8_costs_93 rfl ?_
            refine r_idiv C dX8_costs_96 (by decide) ?_
            refine r_iadd C dX8_costs_97 ?_
            refine r_istore_n (L' := [(2, .int (sm + (((vO V 1 (boilAt V k)) * (vO V 2 (boilAt V k))) / 1000))), (1, .int 0), (5, .int (vO V 1 (boilAt V k))), (4, .int (nI (boilAt V k))), (3, .int (nI k)), (0, .ref (mA G 107))]) C dX8_costs_98 (by decide) rfl ?_
            refine r_iinc (v := nI (k + 1)) (L' := [(3, .int (nI (k + 1))), (2, .int (sm + (((vO V 1 (boilAt V k)) * (vO V 2 (boilAt V k))) / 1000))), (1, .int 0), (5, .int (vO V 1 (boilAt V k))), (4, .int (nI (boilAt V k))), (0, .ref (mA G 107))]) C dX8_costs_99 4 rfl (nI_inc _) (by decide) rfl ?_
            refine r_goto (tgt := 9) C dX8_costs_102 (by decide) ?_
            refine r_sub (L' := [(3, .int (nI (k + 1))), (2, .int (sm + (((vO V 1 (boilAt V k)) * (vO V 2 (boilAt V k))) / 1000))), (1, .int 0), (0, .ref (mA G 107))]) [0, 1, 2, 5] rfl ?_
            exact ih9 (k + 1) (upd f (boilAt V k) (vO V 1 (boilAt V k))) _ _ (by omega) (fun p hp => by rcases Nat.lt_or_ge p k with q | q; (rw [upd_ne (fun e9 => by have h8 := (boilAt_spec V (k := p) (by omega)).2.1; have h9 := (boilAt_spec V hlt).2.1; rw [e9] at h8; omega)]; exact hf p q); (have e9 : p = k := by omega); subst e9; rw [upd_at, ← hl, hld]) (by rw [lfF, ← hl, hnx]) (by rw [csF, ← hs, ← hl, hld]) (by omega)
  refine r_mem (M' := mrow M 116 (M 116)) (mrow_self M 116).symm ?_
  refine r_sub (L' := [(3, .int (nI 0)), (2, .int 0), (1, .int (needF V (vSup V))), (0, .ref (mA G 107))]) [0, 1, 2, 3] rfl ?_
  exact lp9 _ 0 (M 116) (needF V (vSup V)) 0 (by omega) (fun p hp => absurd hp (Nat.not_lt_zero p)) rfl rfl (Nat.lt_succ_self _)

set_option maxRecDepth 20000 in
set_option maxHeartbeats 1000000 in
theorem c_X8_valueOf_0 (l : Launch) (G : mG) (hG : mInj G) (M : Mem) (g : Glo) (V : View) (hW : wfV V) (hV : rV (M 108) V) (hR : rOK M V) : mcI l G yX8_valueOf cX8_valueOf 3 .int 5 [.ref (mA G 107), .int 0] M g (fun r M' g' => (r = valF V 0 ∧ cstP M M' V) ∧ g' = g) := by
  refine mcI_of (L0 := [(0, .ref (mA G 107)), (1, .int 0)]) hG (by decide) (Nat.le_of_ble_eq_true rfl) rfl ?_
  intro p e s m args below meth c Q C hend
  have hT := hW.1
  obtain ⟨hn1, hn16, hb4, ⟨hd0, hd3, hd5, hd6⟩, hpar⟩ := id hT
  refine r_aload_n C dX8_valueOf_0 0 rfl ?_
  refine r_callVI (As := []) (rest := []) C dX8_valueOf_1 s_X8_132 (c_X8_costs l G hG M g V hW hV hR) (by decide) rfl rfl rfl rfl (Nat.le_of_ble_eq_true rfl) (Nat.le_of_ble_eq_true rfl) (Nat.le_of_ble_eq_true rfl) (fun r1 M1 g1 hp1 => ?_)
  obtain ⟨⟨e1, hc1⟩, eg1⟩ := hp1
  rw [eg1]
  have hV1 := hc1.fr.rv hV
  have hR1 := hc1.ok hR
  refine r_istore_n (L' := [(2, .int r1), (0, .ref (mA G 107)), (1, .int 0)]) C dX8_valueOf_4 (by decide) rfl ?_
  refine r_iload_n C dX8_valueOf_5 2 rfl ?_
  refine r_tableOut (tgt := 97) C dX8_valueOf_6 (Or.inl (by decide)) (by decide) ?_
  refine r_aload_n C dX8_valueOf_97 1 rfl ?_
  refine r_getr (q2 := 108) C dX8_valueOf_98 0 f_X8_7 rfl rfl ?_
  refine r_iload_n C dX8_valueOf_101 2 rfl ?_
  refine r_ialdN (j := 0) (v := vS V 0) C dX8_valueOf_102 rfl (rfl) (by omega) (by decide) (hV1.2.1.1) ?_
  exact hend _ _ _ _ _ dX8_valueOf_103 (rfl) (⟨⟨rfl, hc1⟩, rfl⟩)

set_option maxRecDepth 20000 in
set_option maxHeartbeats 1000000 in
theorem c_X8_valueOf_1 (l : Launch) (G : mG) (hG : mInj G) (M : Mem) (g : Glo) (V : View) (hW : wfV V) (hV : rV (M 108) V) (hR : rOK M V) : mcI l G yX8_valueOf cX8_valueOf 3 .int 5 [.ref (mA G 107), .int 1] M g (fun r M' g' => (r = valF V 1 ∧ cstP M M' V) ∧ g' = g) := by
  refine mcI_of (L0 := [(0, .ref (mA G 107)), (1, .int 1)]) hG (by decide) (Nat.le_of_ble_eq_true rfl) rfl ?_
  intro p e s m args below meth c Q C hend
  have hT := hW.1
  obtain ⟨hn1, hn16, hb4, ⟨hd0, hd3, hd5, hd6⟩, hpar⟩ := id hT
  refine r_aload_n C dX8_valueOf_0 0 rfl ?_
  refine r_callVI (As := []) (rest := []) C dX8_valueOf_1 s_X8_132 (c_X8_costs l G hG M g V hW hV hR) (by decide) rfl rfl rfl rfl (Nat.le_of_ble_eq_true rfl) (Nat.le_of_ble_eq_true rfl) (Nat.le_of_ble_eq_true rfl) (fun r1 M1 g1 hp1 => ?_)
  obtain ⟨⟨e1, hc1⟩, eg1⟩ := hp1
  rw [eg1]
  have hV1 := hc1.fr.rv hV
  have hR1 := hc1.ok hR
  refine r_istore_n (L' := [(2, .int r1), (0, .ref (mA G 107)), (1, .int 1)]) C dX8_valueOf_4 (by decide) rfl ?_
  refine r_iload_n C dX8_valueOf_5 2 rfl ?_
  refine r_tableOut (tgt := 97) C dX8_valueOf_6 (Or.inl (by decide)) (by decide) ?_
  refine r_aload_n C dX8_valueOf_97 1 rfl ?_
  refine r_getr (q2 := 108) C dX8_valueOf_98 0 f_X8_7 rfl rfl ?_
  refine r_iload_n C dX8_valueOf_101 2 rfl ?_
  refine r_ialdN (j := 1) (v := vS V 1) C dX8_valueOf_102 rfl (rfl) (by omega) (by decide) (hV1.2.1.2.1) ?_
  exact hend _ _ _ _ _ dX8_valueOf_103 (rfl) (⟨⟨rfl, hc1⟩, rfl⟩)

set_option maxRecDepth 20000 in
set_option maxHeartbeats 1000000 in
theorem c_X8_valueOf_2 (l : Launch) (G : mG) (hG : mInj G) (M : Mem) (g : Glo) (V : View) (hW : wfV V) (hV : rV (M 108) V) (hR : rOK M V) : mcI l G yX8_valueOf cX8_valueOf 3 .int 5 [.ref (mA G 107), .int 2] M g (fun r M' g' => (r = valF V 2 ∧ cstP M M' V) ∧ g' = g) := by
  refine mcI_of (L0 := [(0, .ref (mA G 107)), (1, .int 2)]) hG (by decide) (Nat.le_of_ble_eq_true rfl) rfl ?_
  intro p e s m args below meth c Q C hend
  have hT := hW.1
  obtain ⟨hn1, hn16, hb4, ⟨hd0, hd3, hd5, hd6⟩, hpar⟩ := id hT
  refine r_aload_n C dX8_valueOf_0 0 rfl ?_
  refine r_callVI (As := []) (rest := []) C dX8_valueOf_1 s_X8_132 (c_X8_costs l G hG M g V hW hV hR) (by decide) rfl rfl rfl rfl (Nat.le_of_ble_eq_true rfl) (Nat.le_of_ble_eq_true rfl) (Nat.le_of_ble_eq_true rfl) (fun r1 M1 g1 hp1 => ?_)
  obtain ⟨⟨e1, hc1⟩, eg1⟩ := hp1
  rw [eg1]
  have hV1 := hc1.fr.rv hV
  have hR1 := hc1.ok hR
  refine r_istore_n (L' := [(2, .int r1), (0, .ref (mA G 107)), (1, .int 2)]) C dX8_valueOf_4 (by decide) rfl ?_
  refine r_iload_n C dX8_valueOf_5 2 rfl ?_
  refine r_tableOut (tgt := 97) C dX8_valueOf_6 (Or.inl (by decide)) (by decide) ?_
  refine r_aload_n C dX8_valueOf_97 1 rfl ?_
  refine r_getr (q2 := 108) C dX8_valueOf_98 0 f_X8_7 rfl rfl ?_
  refine r_iload_n C dX8_valueOf_101 2 rfl ?_
  refine r_ialdN (j := 2) (v := vS V 2) C dX8_valueOf_102 rfl (rfl) (by omega) (by decide) (hV1.2.1.2.2.1) ?_
  exact hend _ _ _ _ _ dX8_valueOf_103 (rfl) (⟨⟨rfl, hc1⟩, rfl⟩)

set_option maxRecDepth 20000 in
set_option maxHeartbeats 1000000 in
theorem c_X8_valueOf_3 (l : Launch) (G : mG) (hG : mInj G) (M : Mem) (g : Glo) (V : View) (hW : wfV V) (hV : rV (M 108) V) (hR : rOK M V) : mcI l G yX8_valueOf cX8_valueOf 3 .int 5 [.ref (mA G 107), .int 3] M g (fun r M' g' => (r = valF V 3 ∧ cstP M M' V) ∧ g' = g) := by
  refine mcI_of (L0 := [(0, .ref (mA G 107)), (1, .int 3)]) hG (by decide) (Nat.le_of_ble_eq_true rfl) rfl ?_
  intro p e s m args below meth c Q C hend
  have hT := hW.1
  obtain ⟨hn1, hn16, hb4, ⟨hd0, hd3, hd5, hd6⟩, hpar⟩ := id hT
  refine r_aload_n C dX8_valueOf_0 0 rfl ?_
  refine r_callVI (As := []) (rest := []) C dX8_valueOf_1 s_X8_132 (c_X8_costs l G hG M g V hW hV hR) (by decide) rfl rfl rfl rfl (Nat.le_of_ble_eq_true rfl) (Nat.le_of_ble_eq_true rfl) (Nat.le_of_ble_eq_true rfl) (fun r1 M1 g1 hp1 => ?_)
  obtain ⟨⟨e1, hc1⟩, eg1⟩ := hp1
  rw [eg1]
  have hV1 := hc1.fr.rv hV
  have hR1 := hc1.ok hR
  refine r_istore_n (L' := [(2, .int r1), (0, .ref (mA G 107)), (1, .int 3)]) C dX8_valueOf_4 (by decide) rfl ?_
  refine r_iload_n C dX8_valueOf_5 2 rfl ?_
  refine r_tableOut (tgt := 97) C dX8_valueOf_6 (Or.inl (by decide)) (by decide) ?_
  refine r_aload_n C dX8_valueOf_97 1 rfl ?_
  refine r_getr (q2 := 108) C dX8_valueOf_98 0 f_X8_7 rfl rfl ?_
  refine r_iload_n C dX8_valueOf_101 2 rfl ?_
  refine r_ialdN (j := 3) (v := vS V 3) C dX8_valueOf_102 rfl (rfl) (by omega) (by decide) (hV1.2.1.2.2.2.1) ?_
  exact hend _ _ _ _ _ dX8_valueOf_103 (rfl) (⟨⟨rfl, hc1⟩, rfl⟩)

set_option maxRecDepth 20000 in
set_option maxHeartbeats 1000000 in
theorem c_X8_valueOf_4 (l : Launch) (G : mG) (hG : mInj G) (M : Mem) (g : Glo) (V : View) (hW : wfV V) (hV : rV (M 108) V) (hR : rOK M V) : mcI l G yX8_valueOf cX8_valueOf 3 .int 5 [.ref (mA G 107), .int 4] M g (fun r M' g' => (r = valF V 4 ∧ cstP M M' V) ∧ g' = g) := by
  refine mcI_of (L0 := [(0, .ref (mA G 107)), (1, .int 4)]) hG (by decide) (Nat.le_of_ble_eq_true rfl) rfl ?_
  intro p e s m args below meth c Q C hend
  have hT := hW.1
  obtain ⟨hn1, hn16, hb4, ⟨hd0, hd3, hd5, hd6⟩, hpar⟩ := id hT
  refine r_aload_n C dX8_valueOf_0 0 rfl ?_
  refine r_callVI (As := []) (rest := []) C dX8_valueOf_1 s_X8_132 (c_X8_costs l G hG M g V hW hV hR) (by decide) rfl rfl rfl rfl (Nat.le_of_ble_eq_true rfl) (Nat.le_of_ble_eq_true rfl) (Nat.le_of_ble_eq_true rfl) (fun r1 M1 g1 hp1 => ?_)
  obtain ⟨⟨e1, hc1⟩, eg1⟩ := hp1
  rw [eg1]
  have hV1 := hc1.fr.rv hV
  have hR1 := hc1.ok hR
  refine r_istore_n (L' := [(2, .int r1), (0, .ref (mA G 107)), (1, .int 4)]) C dX8_valueOf_4 (by decide) rfl ?_
  refine r_iload_n C dX8_valueOf_5 2 rfl ?_
  refine r_tableOut (tgt := 97) C dX8_valueOf_6 (Or.inl (by decide)) (by decide) ?_
  refine r_aload_n C dX8_valueOf_97 1 rfl ?_
  refine r_getr (q2 := 108) C dX8_valueOf_98 0 f_X8_7 rfl rfl ?_
  refine r_iload_n C dX8_valueOf_101 2 rfl ?_
  refine r_ialdN (j := 4) (v := vS V 4) C dX8_valueOf_102 rfl (rfl) (by omega) (by decide) (hV1.2.1.2.2.2.2.1) ?_
  exact hend _ _ _ _ _ dX8_valueOf_103 (rfl) (⟨⟨rfl, hc1⟩, rfl⟩)

set_option maxRecDepth 20000 in
set_option maxHeartbeats 1000000 in
theorem c_X8_valueOf_5 (l : Launch) (G : mG) (hG : mInj G) (M : Mem) (g : Glo) (V : View) (hW : wfV V) (hV : rV (M 108) V) (hR : rOK M V) : mcI l G yX8_valueOf cX8_valueOf 3 .int 5 [.ref (mA G 107), .int 5] M g (fun r M' g' => (r = valF V 5 ∧ cstP M M' V) ∧ g' = g) := by
  refine mcI_of (L0 := [(0, .ref (mA G 107)), (1, .int 5)]) hG (by decide) (Nat.le_of_ble_eq_true rfl) rfl ?_
  intro p e s m args below meth c Q C hend
  have hT := hW.1
  obtain ⟨hn1, hn16, hb4, ⟨hd0, hd3, hd5, hd6⟩, hpar⟩ := id hT
  refine r_aload_n C dX8_valueOf_0 0 rfl ?_
  refine r_callVI (As := []) (rest := []) C dX8_valueOf_1 s_X8_132 (c_X8_costs l G hG M g V hW hV hR) (by decide) rfl rfl rfl rfl (Nat.le_of_ble_eq_true rfl) (Nat.le_of_ble_eq_true rfl) (Nat.le_of_ble_eq_true rfl) (fun r1 M1 g1 hp1 => ?_)
  obtain ⟨⟨e1, hc1⟩, eg1⟩ := hp1
  rw [eg1]
  have hV1 := hc1.fr.rv hV
  have hR1 := hc1.ok hR
  refine r_istore_n (L' := [(2, .int r1), (0, .ref (mA G 107)), (1, .int 5)]) C dX8_valueOf_4 (by decide) rfl ?_
  refine r_iload_n C dX8_valueOf_5 2 rfl ?_
  refine r_tableOut (tgt := 97) C dX8_valueOf_6 (Or.inl (by decide)) (by decide) ?_
  refine r_aload_n C dX8_valueOf_97 1 rfl ?_
  refine r_getr (q2 := 108) C dX8_valueOf_98 0 f_X8_7 rfl rfl ?_
  refine r_iload_n C dX8_valueOf_101 2 rfl ?_
  refine r_ialdN (j := 5) (v := nI (vN V)) C dX8_valueOf_102 rfl (rfl) (by omega) (by decide) (hV1.1.1) ?_
  exact hend _ _ _ _ _ dX8_valueOf_103 (rfl) (⟨⟨rfl, hc1⟩, rfl⟩)

set_option maxRecDepth 20000 in
set_option maxHeartbeats 1000000 in
theorem c_X8_valueOf_6 (l : Launch) (G : mG) (hG : mInj G) (M : Mem) (g : Glo) (V : View) (hW : wfV V) (hV : rV (M 108) V) (hR : rOK M V) : mcI l G yX8_valueOf cX8_valueOf 3 .int 5 [.ref (mA G 107), .int 6] M g (fun r M' g' => (r = valF V 6 ∧ cstP M M' V) ∧ g' = g) := by
  refine mcI_of (L0 := [(0, .ref (mA G 107)), (1, .int 6)]) hG (by decide) (Nat.le_of_ble_eq_true rfl) rfl ?_
  intro p e s m args below meth c Q C hend
  have hT := hW.1
  obtain ⟨hn1, hn16, hb4, ⟨hd0, hd3, hd5, hd6⟩, hpar⟩ := id hT
  refine r_aload_n C dX8_valueOf_0 0 rfl ?_
  refine r_callVI (As := []) (rest := []) C dX8_valueOf_1 s_X8_132 (c_X8_costs l G hG M g V hW hV hR) (by decide) rfl rfl rfl rfl (Nat.le_of_ble_eq_true rfl) (Nat.le_of_ble_eq_true rfl) (Nat.le_of_ble_eq_true rfl) (fun r1 M1 g1 hp1 => ?_)
  obtain ⟨⟨e1, hc1⟩, eg1⟩ := hp1
  rw [eg1]
  have hV1 := hc1.fr.rv hV
  have hR1 := hc1.ok hR
  refine r_istore_n (L' := [(2, .int r1), (0, .ref (mA G 107)), (1, .int 6)]) C dX8_valueOf_4 (by decide) rfl ?_
  refine r_iload_n C dX8_valueOf_5 2 rfl ?_
  refine r_tableOut (tgt := 97) C dX8_valueOf_6 (Or.inl (by decide)) (by decide) ?_
  refine r_aload_n C dX8_valueOf_97 1 rfl ?_
  refine r_getr (q2 := 108) C dX8_valueOf_98 0 f_X8_7 rfl rfl ?_
  refine r_iload_n C dX8_valueOf_101 2 rfl ?_
  refine r_ialdN (j := 6) (v := nI (vB V)) C dX8_valueOf_102 rfl (rfl) (by omega) (by decide) (hV1.1.2) ?_
  exact hend _ _ _ _ _ dX8_valueOf_103 (rfl) (⟨⟨rfl, hc1⟩, rfl⟩)

set_option maxRecDepth 20000 in
set_option maxHeartbeats 1000000 in
theorem c_X8_valueOf_7 (l : Launch) (G : mG) (hG : mInj G) (M : Mem) (g : Glo) (V : View) (hW : wfV V) (hV : rV (M 108) V) (hR : rOK M V) : mcI l G yX8_valueOf cX8_valueOf 3 .int 5 [.ref (mA G 107), .int 7] M g (fun r M' g' => (r = valF V 7 ∧ cstP M M' V) ∧ g' = g) := by
  refine mcI_of (L0 := [(0, .ref (mA G 107)), (1, .int 7)]) hG (by decide) (Nat.le_of_ble_eq_true rfl) rfl ?_
  intro p e s m args below meth c Q C hend
  have hT := hW.1
  obtain ⟨hn1, hn16, hb4, ⟨hd0, hd3, hd5, hd6⟩, hpar⟩ := id hT
  refine r_aload_n C dX8_valueOf_0 0 rfl ?_
  refine r_callVI (As := []) (rest := []) C dX8_valueOf_1 s_X8_132 (c_X8_costs l G hG M g V hW hV hR) (by decide) rfl rfl rfl rfl (Nat.le_of_ble_eq_true rfl) (Nat.le_of_ble_eq_true rfl) (Nat.le_of_ble_eq_true rfl) (fun r1 M1 g1 hp1 => ?_)
  obtain ⟨⟨e1, hc1⟩, eg1⟩ := hp1
  rw [eg1]
  have hV1 := hc1.fr.rv hV
  have hR1 := hc1.ok hR
  refine r_istore_n (L' := [(2, .int r1), (0, .ref (mA G 107)), (1, .int 7)]) C dX8_valueOf_4 (by decide) rfl ?_
  refine r_iload_n C dX8_valueOf_5 2 rfl ?_
  refine r_tableIn (off := 46) (tgt := 52) C dX8_valueOf_6 (by decide) (by decide) (by decide) (by decide) ?_
  refine r_aload_n C dX8_valueOf_52 1 rfl ?_
  refine r_callVI (As := []) (rest := []) C dX8_valueOf_53 s_X8_73 (c_X8_need l G hG M1 g V hW hV1 hR1) (by decide) rfl rfl rfl rfl (Nat.le_of_ble_eq_true rfl) (Nat.le_of_ble_eq_true rfl) (Nat.le_of_ble_eq_true rfl) (pk_I ?_)
  exact hend _ _ _ _ _ dX8_valueOf_56 (rfl) (⟨⟨rfl, hc1⟩, rfl⟩)

set_option maxRecDepth 20000 in
set_option maxHeartbeats 1000000 in
theorem c_X8_valueOf_8 (l : Launch) (G : mG) (hG : mInj G) (M : Mem) (g : Glo) (V : View) (hW : wfV V) (hV : rV (M 108) V) (hR : rOK M V) : mcI l G yX8_valueOf cX8_valueOf 3 .int 5 [.ref (mA G 107), .int 8] M g (fun r M' g' => (r = valF V 8 ∧ cstP M M' V) ∧ g' = g) := by
  refine mcI_of (L0 := [(0, .ref (mA G 107)), (1, .int 8)]) hG (by decide) (Nat.le_of_ble_eq_true rfl) rfl ?_
  intro p e s m args below meth c Q C hend
  have hT := hW.1
  obtain ⟨hn1, hn16, hb4, ⟨hd0, hd3, hd5, hd6⟩, hpar⟩ := id hT
  refine r_aload_n C dX8_valueOf_0 0 rfl ?_
  refine r_callVI (As := []) (rest := []) C dX8_valueOf_1 s_X8_132 (c_X8_costs l G hG M g V hW hV hR) (by decide) rfl rfl rfl rfl (Nat.le_of_ble_eq_true rfl) (Nat.le_of_ble_eq_true rfl) (Nat.le_of_ble_eq_true rfl) (fun r1 M1 g1 hp1 => ?_)
  obtain ⟨⟨e1, hc1⟩, eg1⟩ := hp1
  rw [eg1]
  have hV1 := hc1.fr.rv hV
  have hR1 := hc1.ok hR
  refine r_istore_n (L' := [(2, .int r1), (0, .ref (mA G 107)), (1, .int 8)]) C dX8_valueOf_4 (by decide) rfl ?_
  refine r_iload_n C dX8_valueOf_5 2 rfl ?_
  refine r_tableIn (off := 51) (tgt := 57) C dX8_valueOf_6 (by decide) (by decide) (by decide) (by decide) ?_
  refine r_aload_n C dX8_valueOf_57 1 rfl ?_
  refine r_geti C dX8_valueOf_58 12 f_X8_80 rfl rfl ?_
  refine r_valI (y := unmetF V (needF V (vSup V))) (hc1.un) ?_
  exact hend _ _ _ _ _ dX8_valueOf_61 (rfl) (⟨⟨rfl, hc1⟩, rfl⟩)

set_option maxRecDepth 20000 in
set_option maxHeartbeats 1000000 in
theorem c_X8_valueOf_9 (l : Launch) (G : mG) (hG : mInj G) (M : Mem) (g : Glo) (V : View) (hW : wfV V) (hV : rV (M 108) V) (hR : rOK M V) : mcI l G yX8_valueOf cX8_valueOf 3 .int 5 [.ref (mA G 107), .int 9] M g (fun r M' g' => (r = valF V 9 ∧ cstP M M' V) ∧ g' = g) := by
  refine mcI_of (L0 := [(0, .ref (mA G 107)), (1, .int 9)]) hG (by decide) (Nat.le_of_ble_eq_true rfl) rfl ?_
  intro p e s m args below meth c Q C hend
  have hT := hW.1
  obtain ⟨hn1, hn16, hb4, ⟨hd0, hd3, hd5, hd6⟩, hpar⟩ := id hT
  refine r_aload_n C dX8_valueOf_0 0 rfl ?_
  refine r_callVI (As := []) (rest := []) C dX8_valueOf_1 s_X8_132 (c_X8_costs l G hG M g V hW hV hR) (by decide) rfl rfl rfl rfl (Nat.le_of_ble_eq_true rfl) (Nat.le_of_ble_eq_true rfl) (Nat.le_of_ble_eq_true rfl) (fun r1 M1 g1 hp1 => ?_)
  obtain ⟨⟨e1, hc1⟩, eg1⟩ := hp1
  rw [eg1]
  have hV1 := hc1.fr.rv hV
  have hR1 := hc1.ok hR
  refine r_istore_n (L' := [(2, .int r1), (0, .ref (mA G 107)), (1, .int 9)]) C dX8_valueOf_4 (by decide) rfl ?_
  refine r_iload_n C dX8_valueOf_5 2 rfl ?_
  refine r_tableIn (off := 56) (tgt := 62) C dX8_valueOf_6 (by decide) (by decide) (by decide) (by decide) ?_
  refine r_iload_n C dX8_valueOf_62 0 rfl ?_
  exact hend _ _ _ _ _ dX8_valueOf_63 (rfl) (⟨⟨e1, hc1⟩, rfl⟩)

set_option maxRecDepth 20000 in
set_option maxHeartbeats 1000000 in
theorem c_X8_valueOf_10 (l : Launch) (G : mG) (hG : mInj G) (M : Mem) (g : Glo) (V : View) (hW : wfV V) (hV : rV (M 108) V) (hR : rOK M V) : mcI l G yX8_valueOf cX8_valueOf 3 .int 5 [.ref (mA G 107), .int 10] M g (fun r M' g' => (r = valF V 10 ∧ cstP M M' V) ∧ g' = g) := by
  refine mcI_of (L0 := [(0, .ref (mA G 107)), (1, .int 10)]) hG (by decide) (Nat.le_of_ble_eq_true rfl) rfl ?_
  intro p e s m args below meth c Q C hend
  have hT := hW.1
  obtain ⟨hn1, hn16, hb4, ⟨hd0, hd3, hd5, hd6⟩, hpar⟩ := id hT
  refine r_aload_n C dX8_valueOf_0 0 rfl ?_
  refine r_callVI (As := []) (rest := []) C dX8_valueOf_1 s_X8_132 (c_X8_costs l G hG M g V hW hV hR) (by decide) rfl rfl rfl rfl (Nat.le_of_ble_eq_true rfl) (Nat.le_of_ble_eq_true rfl) (Nat.le_of_ble_eq_true rfl) (fun r1 M1 g1 hp1 => ?_)
  obtain ⟨⟨e1, hc1⟩, eg1⟩ := hp1
  rw [eg1]
  have hV1 := hc1.fr.rv hV
  have hR1 := hc1.ok hR
  refine r_istore_n (L' := [(2, .int r1), (0, .ref (mA G 107)), (1, .int 10)]) C dX8_valueOf_4 (by decide) rfl ?_
  refine r_iload_n C dX8_valueOf_5 2 rfl ?_
  refine r_tableIn (off := 58) (tgt := 64) C dX8_valueOf_6 (by decide) (by decide) (by decide) (by decide) ?_
  refine r_aload_n C dX8_valueOf_64 1 rfl ?_
  refine r_getr (q2 := 108) C dX8_valueOf_65 0 f_X8_7 rfl rfl ?_
  refine r_bipush (v := 7) C dX8_valueOf_68 rfl ?_
  refine r_ialdN (j := 7) (v := vS V 7) C dX8_valueOf_70 rfl (rfl) (by omega) (by decide) (hV1.2.1.2.2.2.2.2.1) ?_
  exact hend _ _ _ _ _ dX8_valueOf_71 (rfl) (⟨⟨rfl, hc1⟩, rfl⟩)

set_option maxRecDepth 20000 in
set_option maxHeartbeats 1000000 in
theorem c_X8_valueOf_11 (l : Launch) (G : mG) (hG : mInj G) (M : Mem) (g : Glo) (V : View) (hW : wfV V) (hV : rV (M 108) V) (hR : rOK M V) : mcI l G yX8_valueOf cX8_valueOf 3 .int 5 [.ref (mA G 107), .int 11] M g (fun r M' g' => (r = valF V 11 ∧ cstP M M' V) ∧ g' = g) := by
  refine mcI_of (L0 := [(0, .ref (mA G 107)), (1, .int 11)]) hG (by decide) (Nat.le_of_ble_eq_true rfl) rfl ?_
  intro p e s m args below meth c Q C hend
  have hT := hW.1
  obtain ⟨hn1, hn16, hb4, ⟨hd0, hd3, hd5, hd6⟩, hpar⟩ := id hT
  refine r_aload_n C dX8_valueOf_0 0 rfl ?_
  refine r_callVI (As := []) (rest := []) C dX8_valueOf_1 s_X8_132 (c_X8_costs l G hG M g V hW hV hR) (by decide) rfl rfl rfl rfl (Nat.le_of_ble_eq_true rfl) (Nat.le_of_ble_eq_true rfl) (Nat.le_of_ble_eq_true rfl) (fun r1 M1 g1 hp1 => ?_)
  obtain ⟨⟨e1, hc1⟩, eg1⟩ := hp1
  rw [eg1]
  have hV1 := hc1.fr.rv hV
  have hR1 := hc1.ok hR
  refine r_istore_n (L' := [(2, .int r1), (0, .ref (mA G 107)), (1, .int 11)]) C dX8_valueOf_4 (by decide) rfl ?_
  refine r_iload_n C dX8_valueOf_5 2 rfl ?_
  refine r_tableIn (off := 66) (tgt := 72) C dX8_valueOf_6 (by decide) (by decide) (by decide) (by decide) ?_
  refine r_aload_n C dX8_valueOf_72 1 rfl ?_
  refine r_getr (q2 := 108) C dX8_valueOf_73 0 f_X8_7 rfl rfl ?_
  refine r_bipush (v := 8) C dX8_valueOf_76 rfl ?_
  refine r_ialdN (j := 8) (v := vS V 8) C dX8_valueOf_78 rfl (rfl) (by omega) (by decide) (hV1.2.1.2.2.2.2.2.2) ?_
  exact hend _ _ _ _ _ dX8_valueOf_79 (rfl) (⟨⟨rfl, hc1⟩, rfl⟩)

set_option maxRecDepth 20000 in
set_option maxHeartbeats 1000000 in
theorem c_X8_valueOf_12 (l : Launch) (G : mG) (hG : mInj G) (M : Mem) (g : Glo) (V : View) (hW : wfV V) (hV : rV (M 108) V) (hR : rOK M V) : mcI l G yX8_valueOf cX8_valueOf 3 .int 5 [.ref (mA G 107), .int 12] M g (fun r M' g' => (r = valF V 12 ∧ cstP M M' V) ∧ g' = g) := by
  refine mcI_of (L0 := [(0, .ref (mA G 107)), (1, .int 12)]) hG (by decide) (Nat.le_of_ble_eq_true rfl) rfl ?_
  intro p e s m args below meth c Q C hend
  have hT := hW.1
  obtain ⟨hn1, hn16, hb4, ⟨hd0, hd3, hd5, hd6⟩, hpar⟩ := id hT
  refine r_aload_n C dX8_valueOf_0 0 rfl ?_
  refine r_callVI (As := []) (rest := []) C dX8_valueOf_1 s_X8_132 (c_X8_costs l G hG M g V hW hV hR) (by decide) rfl rfl rfl rfl (Nat.le_of_ble_eq_true rfl) (Nat.le_of_ble_eq_true rfl) (Nat.le_of_ble_eq_true rfl) (fun r1 M1 g1 hp1 => ?_)
  obtain ⟨⟨e1, hc1⟩, eg1⟩ := hp1
  rw [eg1]
  have hV1 := hc1.fr.rv hV
  have hR1 := hc1.ok hR
  refine r_istore_n (L' := [(2, .int r1), (0, .ref (mA G 107)), (1, .int 12)]) C dX8_valueOf_4 (by decide) rfl ?_
  refine r_iload_n C dX8_valueOf_5 2 rfl ?_
  refine r_tableIn (off := 74) (tgt := 80) C dX8_valueOf_6 (by decide) (by decide) (by decide) (by decide) ?_
  refine r_aload_n C dX8_valueOf_80 1 rfl ?_
  refine r_callVI (As := []) (rest := []) C dX8_valueOf_81 s_X8_135 (c_X8_accounts l G hG M1 g V hW hV1) (by decide) rfl rfl rfl rfl (Nat.le_of_ble_eq_true rfl) (Nat.le_of_ble_eq_true rfl) (Nat.le_of_ble_eq_true rfl) (pk_I ?_)
  exact hend _ _ _ _ _ dX8_valueOf_84 (rfl) (⟨⟨rfl, hc1⟩, rfl⟩)

set_option maxRecDepth 20000 in
set_option maxHeartbeats 1000000 in
theorem c_X8_valueOf_13 (l : Launch) (G : mG) (hG : mInj G) (M : Mem) (g : Glo) (V : View) (hW : wfV V) (hV : rV (M 108) V) (hR : rOK M V) : mcI l G yX8_valueOf cX8_valueOf 3 .int 5 [.ref (mA G 107), .int 13] M g (fun r M' g' => (r = valF V 13 ∧ cstP M M' V) ∧ g' = g) := by
  refine mcI_of (L0 := [(0, .ref (mA G 107)), (1, .int 13)]) hG (by decide) (Nat.le_of_ble_eq_true rfl) rfl ?_
  intro p e s m args below meth c Q C hend
  have hT := hW.1
  obtain ⟨hn1, hn16, hb4, ⟨hd0, hd3, hd5, hd6⟩, hpar⟩ := id hT
  refine r_aload_n C dX8_valueOf_0 0 rfl ?_
  refine r_callVI (As := []) (rest := []) C dX8_valueOf_1 s_X8_132 (c_X8_costs l G hG M g V hW hV hR) (by decide) rfl rfl rfl rfl (Nat.le_of_ble_eq_true rfl) (Nat.le_of_ble_eq_true rfl) (Nat.le_of_ble_eq_true rfl) (fun r1 M1 g1 hp1 => ?_)
  obtain ⟨⟨e1, hc1⟩, eg1⟩ := hp1
  rw [eg1]
  have hV1 := hc1.fr.rv hV
  have hR1 := hc1.ok hR
  refine r_istore_n (L' := [(2, .int r1), (0, .ref (mA G 107)), (1, .int 13)]) C dX8_valueOf_4 (by decide) rfl ?_
  refine r_iload_n C dX8_valueOf_5 2 rfl ?_
  refine r_tableIn (off := 79) (tgt := 85) C dX8_valueOf_6 (by decide) (by decide) (by decide) (by decide) ?_
  refine r_aload_n C dX8_valueOf_85 1 rfl ?_
  refine r_getr (q2 := 115) C dX8_valueOf_86 10 f_X8_31 rfl rfl ?_
  refine r_iconst (v := 0) C dX8_valueOf_89 rfl ?_
  refine r_ialdN (j := 0) (v := backF V (vSup V) 0) C dX8_valueOf_90 rfl (rfl) (by omega) (by decide) ((hR1 0 (by omega)).2.2.2) ?_
  exact hend _ _ _ _ _ dX8_valueOf_91 (rfl) (⟨⟨rfl, hc1⟩, rfl⟩)

set_option maxRecDepth 20000 in
set_option maxHeartbeats 1000000 in
theorem c_X8_valueOf_14 (l : Launch) (G : mG) (hG : mInj G) (M : Mem) (g : Glo) (V : View) (hW : wfV V) (hV : rV (M 108) V) (hR : rOK M V) : mcI l G yX8_valueOf cX8_valueOf 3 .int 5 [.ref (mA G 107), .int 14] M g (fun r M' g' => (r = valF V 14 ∧ cstP M M' V) ∧ g' = g) := by
  refine mcI_of (L0 := [(0, .ref (mA G 107)), (1, .int 14)]) hG (by decide) (Nat.le_of_ble_eq_true rfl) rfl ?_
  intro p e s m args below meth c Q C hend
  have hT := hW.1
  obtain ⟨hn1, hn16, hb4, ⟨hd0, hd3, hd5, hd6⟩, hpar⟩ := id hT
  refine r_aload_n C dX8_valueOf_0 0 rfl ?_
  refine r_callVI (As := []) (rest := []) C dX8_valueOf_1 s_X8_132 (c_X8_costs l G hG M g V hW hV hR) (by decide) rfl rfl rfl rfl (Nat.le_of_ble_eq_true rfl) (Nat.le_of_ble_eq_true rfl) (Nat.le_of_ble_eq_true rfl) (fun r1 M1 g1 hp1 => ?_)
  obtain ⟨⟨e1, hc1⟩, eg1⟩ := hp1
  rw [eg1]
  have hV1 := hc1.fr.rv hV
  have hR1 := hc1.ok hR
  refine r_istore_n (L' := [(2, .int r1), (0, .ref (mA G 107)), (1, .int 14)]) C dX8_valueOf_4 (by decide) rfl ?_
  refine r_iload_n C dX8_valueOf_5 2 rfl ?_
  refine r_tableIn (off := 86) (tgt := 92) C dX8_valueOf_6 (by decide) (by decide) (by decide) (by decide) ?_
  refine r_aload_n C dX8_valueOf_92 1 rfl ?_
  refine r_callVI (As := []) (rest := []) C dX8_valueOf_93 s_X8_138 (c_X8_meters l G hG M1 g V hW hV1) (by decide) rfl rfl rfl rfl (Nat.le_of_ble_eq_true rfl) (Nat.le_of_ble_eq_true rfl) (Nat.le_of_ble_eq_true rfl) (pk_I ?_)
  exact hend _ _ _ _ _ dX8_valueOf_96 (rfl) (⟨⟨rfl, hc1⟩, rfl⟩)

theorem c_X8_valueOf (l : Launch) (G : mG) (hG : mInj G) (M : Mem) (g : Glo) (V : View) (hW : wfV V) (hV : rV (M 108) V) (hR : rOK M V) (w : Nat) (hw : w < 15) : mcI l G yX8_valueOf cX8_valueOf 3 .int 5 [.ref (mA G 107), .int (nI w)] M g (fun r M' g' => (r = valF V w ∧ cstP M M' V) ∧ g' = g) := by
  have hc : w = 0 ∨ w = 1 ∨ w = 2 ∨ w = 3 ∨ w = 4 ∨ w = 5 ∨ w = 6 ∨ w = 7 ∨ w = 8 ∨ w = 9 ∨ w = 10 ∨ w = 11 ∨ w = 12 ∨ w = 13 ∨ w = 14 := by omega
  rcases hc with rfl | rfl | rfl | rfl | rfl | rfl | rfl | rfl | rfl | rfl | rfl | rfl | rfl | rfl | rfl
  · exact c_X8_valueOf_0 l G hG M g V hW hV hR
  · exact c_X8_valueOf_1 l G hG M g V hW hV hR
  · exact c_X8_valueOf_2 l G hG M g V hW hV hR
  · exact c_X8_valueOf_3 l G hG M g V hW hV hR
  · exact c_X8_valueOf_4 l G hG M g V hW hV hR
  · exact c_X8_valueOf_5 l G hG M g V hW hV hR
  · exact c_X8_valueOf_6 l G hG M g V hW hV hR
  · exact c_X8_valueOf_7 l G hG M g V hW hV hR
  · exact c_X8_valueOf_8 l G hG M g V hW hV hR
  · exact c_X8_valueOf_9 l G hG M g V hW hV hR
  · exact c_X8_valueOf_10 l G hG M g V hW hV hR
  · exact c_X8_valueOf_11 l G hG M g V hW hV hR
  · exact c_X8_valueOf_12 l G hG M g V hW hV hR
  · exact c_X8_valueOf_13 l G hG M g V hW hV hR
  · exact c_X8_valueOf_14 l G hG M g V hW hV hR

set_option maxRecDepth 20000 in
set_option maxHeartbeats 1000000 in
theorem c_X8_boilerOf_0 (l : Launch) (G : mG) (hG : mInj G) (M : Mem) (g : Glo) (V : View) (hW : wfV V) (hV : rV (M 108) V) (hL : ∀ b, b < vB V → M 116 b = loadF V (needF V (vSup V)) b) (b : Nat) (hb : b < vB V) : mcI l G yX8_boilerOf cX8_boilerOf 3 .int 3 [.ref (mA G 107), .int (nI b), .int 0] M g (fun r M' g' => r = boiF V b 0 ∧ M' = M ∧ g' = g) := by
  refine mcI_of (L0 := [(0, .ref (mA G 107)), (1, .int (nI b)), (2, .int 0)]) hG (by decide) (Nat.le_of_ble_eq_true rfl) rfl ?_
  intro p e s m args below meth c Q C hend
  have hT := hW.1
  obtain ⟨hn1, hn16, hb4, ⟨hd0, hd3, hd5, hd6⟩, hpar⟩ := id hT
  refine r_iload_n C dX8_boilerOf_0 2 rfl ?_
  refine r_iconst (v := 3) C dX8_boilerOf_1 rfl ?_
  refine r_icmp_ge (tgt := 14) C dX8_boilerOf_2 (by decide) (fun h => absurd h (by decide)) (fun _ => ?_)
  refine r_aload_n C dX8_boilerOf_5 0 rfl ?_
  refine r_iload_n C dX8_boilerOf_6 1 rfl ?_
  refine r_iload_n C dX8_boilerOf_7 2 rfl ?_
  refine r_callVI (As := [.int (nI b), .int 0]) (rest := []) C dX8_boilerOf_8 s_X8_67 (c_X8_ofBoiler l G hG M g V hW hV b hb 0 (by decide)) (by decide) rfl rfl rfl rfl (Nat.le_of_ble_eq_true rfl) (Nat.le_of_ble_eq_true rfl) (Nat.le_of_ble_eq_true rfl) (pk_I ?_)
  refine r_goto (tgt := 33) C dX8_boilerOf_11 (by decide) ?_
  exact hend _ _ _ _ _ dX8_boilerOf_33 (rfl) (⟨rfl, rfl, rfl⟩)

set_option maxRecDepth 20000 in
set_option maxHeartbeats 1000000 in
theorem c_X8_boilerOf_1 (l : Launch) (G : mG) (hG : mInj G) (M : Mem) (g : Glo) (V : View) (hW : wfV V) (hV : rV (M 108) V) (hL : ∀ b, b < vB V → M 116 b = loadF V (needF V (vSup V)) b) (b : Nat) (hb : b < vB V) : mcI l G yX8_boilerOf cX8_boilerOf 3 .int 3 [.ref (mA G 107), .int (nI b), .int 1] M g (fun r M' g' => r = boiF V b 1 ∧ M' = M ∧ g' = g) := by
  refine mcI_of (L0 := [(0, .ref (mA G 107)), (1, .int (nI b)), (2, .int 1)]) hG (by decide) (Nat.le_of_ble_eq_true rfl) rfl ?_
  intro p e s m args below meth c Q C hend
  have hT := hW.1
  obtain ⟨hn1, hn16, hb4, ⟨hd0, hd3, hd5, hd6⟩, hpar⟩ := id hT
  refine r_iload_n C dX8_boilerOf_0 2 rfl ?_
  refine r_iconst (v := 3) C dX8_boilerOf_1 rfl ?_
  refine r_icmp_ge (tgt := 14) C dX8_boilerOf_2 (by decide) (fun h => absurd h (by decide)) (fun _ => ?_)
  refine r_aload_n C dX8_boilerOf_5 0 rfl ?_
  refine r_iload_n C dX8_boilerOf_6 1 rfl ?_
  refine r_iload_n C dX8_boilerOf_7 2 rfl ?_
  refine r_callVI (As := [.int (nI b), .int 1]) (rest := []) C dX8_boilerOf_8 s_X8_67 (c_X8_ofBoiler l G hG M g V hW hV b hb 1 (by decide)) (by decide) rfl rfl rfl rfl (Nat.le_of_ble_eq_true rfl) (Nat.le_of_ble_eq_true rfl) (Nat.le_of_ble_eq_true rfl) (pk_I ?_)
  refine r_goto (tgt := 33) C dX8_boilerOf_11 (by decide) ?_
  exact hend _ _ _ _ _ dX8_boilerOf_33 (rfl) (⟨rfl, rfl, rfl⟩)

set_option maxRecDepth 20000 in
set_option maxHeartbeats 1000000 in
theorem c_X8_boilerOf_2 (l : Launch) (G : mG) (hG : mInj G) (M : Mem) (g : Glo) (V : View) (hW : wfV V) (hV : rV (M 108) V) (hL : ∀ b, b < vB V → M 116 b = loadF V (needF V (vSup V)) b) (b : Nat) (hb : b < vB V) : mcI l G yX8_boilerOf cX8_boilerOf 3 .int 3 [.ref (mA G 107), .int (nI b), .int 2] M g (fun r M' g' => r = boiF V b 2 ∧ M' = M ∧ g' = g) := by
  refine mcI_of (L0 := [(0, .ref (mA G 107)), (1, .int (nI b)), (2, .int 2)]) hG (by decide) (Nat.le_of_ble_eq_true rfl) rfl ?_
  intro p e s m args below meth c Q C hend
  have hT := hW.1
  obtain ⟨hn1, hn16, hb4, ⟨hd0, hd3, hd5, hd6⟩, hpar⟩ := id hT
  refine r_iload_n C dX8_boilerOf_0 2 rfl ?_
  refine r_iconst (v := 3) C dX8_boilerOf_1 rfl ?_
  refine r_icmp_ge (tgt := 14) C dX8_boilerOf_2 (by decide) (fun h => absurd h (by decide)) (fun _ => ?_)
  refine r_aload_n C dX8_boilerOf_5 0 rfl ?_
  refine r_iload_n C dX8_boilerOf_6 1 rfl ?_
  refine r_iload_n C dX8_boilerOf_7 2 rfl ?_
  refine r_callVI (As := [.int (nI b), .int 2]) (rest := []) C dX8_boilerOf_8 s_X8_67 (c_X8_ofBoiler l G hG M g V hW hV b hb 2 (by decide)) (by decide) rfl rfl rfl rfl (Nat.le_of_ble_eq_true rfl) (Nat.le_of_ble_eq_true rfl) (Nat.le_of_ble_eq_true rfl) (pk_I ?_)
  refine r_goto (tgt := 33) C dX8_boilerOf_11 (by decide) ?_
  exact hend _ _ _ _ _ dX8_boilerOf_33 (rfl) (⟨rfl, rfl, rfl⟩)

set_option maxRecDepth 20000 in
set_option maxHeartbeats 1000000 in
theorem c_X8_boilerOf_3 (l : Launch) (G : mG) (hG : mInj G) (M : Mem) (g : Glo) (V : View) (hW : wfV V) (hV : rV (M 108) V) (hL : ∀ b, b < vB V → M 116 b = loadF V (needF V (vSup V)) b) (b : Nat) (hb : b < vB V) : mcI l G yX8_boilerOf cX8_boilerOf 3 .int 3 [.ref (mA G 107), .int (nI b), .int 3] M g (fun r M' g' => r = boiF V b 3 ∧ M' = M ∧ g' = g) := by
  refine mcI_of (L0 := [(0, .ref (mA G 107)), (1, .int (nI b)), (2, .int 3)]) hG (by decide) (Nat.le_of_ble_eq_true rfl) rfl ?_
  intro p e s m args below meth c Q C hend
  have hT := hW.1
  obtain ⟨hn1, hn16, hb4, ⟨hd0, hd3, hd5, hd6⟩, hpar⟩ := id hT
  refine r_iload_n C dX8_boilerOf_0 2 rfl ?_
  refine r_iconst (v := 3) C dX8_boilerOf_1 rfl ?_
  refine r_icmp_ge (tgt := 14) C dX8_boilerOf_2 (by decide) (fun _ => ?_) (fun h => absurd (by decide) h)
  refine r_iload_n C dX8_boilerOf_14 2 rfl ?_
  refine r_iconst (v := 3) C dX8_boilerOf_15 rfl ?_
  refine r_icmp_ne (tgt := 28) C dX8_boilerOf_16 (by decide) (fun h => absurd (rfl) h) (fun _ => ?_)
  refine r_aload_n C dX8_boilerOf_19 0 rfl ?_
  refine r_getr (q2 := 116) C dX8_boilerOf_20 11 f_X8_34 rfl rfl ?_
  refine r_iload_n C dX8_boilerOf_23 1 rfl ?_
  refine r_ialdN (j := b) (v := loadF V (needF V (vSup V)) b) C dX8_boilerOf_24 rfl (rfl) (by omega) (by decide) (hL b hb) ?_
  refine r_goto (tgt := 33) C dX8_boilerOf_25 (by decide) ?_
  exact hend _ _ _ _ _ dX8_boilerOf_33 (rfl) (⟨rfl, rfl, rfl⟩)

set_option maxRecDepth 20000 in
set_option maxHeartbeats 1000000 in
theorem c_X8_boilerOf_4 (l : Launch) (G : mG) (hG : mInj G) (M : Mem) (g : Glo) (V : View) (hW : wfV V) (hV : rV (M 108) V) (hL : ∀ b, b < vB V → M 116 b = loadF V (needF V (vSup V)) b) (b : Nat) (hb : b < vB V) : mcI l G yX8_boilerOf cX8_boilerOf 3 .int 3 [.ref (mA G 107), .int (nI b), .int 4] M g (fun r M' g' => r = boiF V b 4 ∧ M' = M ∧ g' = g) := by
  refine mcI_of (L0 := [(0, .ref (mA G 107)), (1, .int (nI b)), (2, .int 4)]) hG (by decide) (Nat.le_of_ble_eq_true rfl) rfl ?_
  intro p e s m args below meth c Q C hend
  have hT := hW.1
  obtain ⟨hn1, hn16, hb4, ⟨hd0, hd3, hd5, hd6⟩, hpar⟩ := id hT
  refine r_iload_n C dX8_boilerOf_0 2 rfl ?_
  refine r_iconst (v := 3) C dX8_boilerOf_1 rfl ?_
  refine r_icmp_ge (tgt := 14) C dX8_boilerOf_2 (by decide) (fun _ => ?_) (fun h => absurd (by decide) h)
  refine r_iload_n C dX8_boilerOf_14 2 rfl ?_
  refine r_iconst (v := 3) C dX8_boilerOf_15 rfl ?_
  refine r_icmp_ne (tgt := 28) C dX8_boilerOf_16 (by decide) (fun _ => ?_) (fun h => absurd h (by decide))
  refine r_aload_n C dX8_boilerOf_28 0 rfl ?_
  refine r_iload_n C dX8_boilerOf_29 1 rfl ?_
  refine r_callVI (As := [.int (nI b)]) (rest := []) C dX8_boilerOf_30 s_X8_70 (c_X8_placeOf l G hG M g V hW hV b hb) (by decide) rfl rfl rfl rfl (Nat.le_of_ble_eq_true rfl) (Nat.le_of_ble_eq_true rfl) (Nat.le_of_ble_eq_true rfl) (pk_I ?_)
  exact hend _ _ _ _ _ dX8_boilerOf_33 (rfl) (⟨rfl, rfl, rfl⟩)

theorem c_X8_boilerOf (l : Launch) (G : mG) (hG : mInj G) (M : Mem) (g : Glo) (V : View) (hW : wfV V) (hV : rV (M 108) V) (hL : ∀ b, b < vB V → M 116 b = loadF V (needF V (vSup V)) b) (b : Nat) (hb : b < vB V) (w : Nat) (hw : w < 5) : mcI l G yX8_boilerOf cX8_boilerOf 3 .int 3 [.ref (mA G 107), .int (nI b), .int (nI w)] M g (fun r M' g' => r = boiF V b w ∧ M' = M ∧ g' = g) := by
  have hc : w = 0 ∨ w = 1 ∨ w = 2 ∨ w = 3 ∨ w = 4 := by omega
  rcases hc with rfl | rfl | rfl | rfl | rfl
  · exact c_X8_boilerOf_0 l G hG M g V hW hV hL b hb
  · exact c_X8_boilerOf_1 l G hG M g V hW hV hL b hb
  · exact c_X8_boilerOf_2 l G hG M g V hW hV hL b hb
  · exact c_X8_boilerOf_3 l G hG M g V hW hV hL b hb
  · exact c_X8_boilerOf_4 l G hG M g V hW hV hL b hb

def warmP (V : View) : Nat → Bool
  | 0 => true
  | k + 1 => warmP V k && (decide (k = 0) || decide (vD V 3 k = 0) || decide (rF V (vSup V) k + 100 ≤ warmF V (vSup V) k))
theorem warmP_1 (V : View) : warmP V 1 = true := rfl
set_option maxRecDepth 20000 in
set_option maxHeartbeats 1000000 in
theorem c_X8_isWarm (l : Launch) (G : mG) (hG : mInj G) (M : Mem) (g : Glo) (V : View) (hW : wfV V) (hV : rV (M 108) V) (hR : rOK M V) : mcI l G yX8_isWarm cX8_isWarm 3 .boolean 2 [.ref (mA G 107)] M g (fun r M' g' => r = b2i (warmP V (vN V)) ∧ M' = M ∧ g' = g) := by
  refine mcI_of (L0 := [(0, .ref (mA G 107))]) hG (by decide) (Nat.le_of_ble_eq_true rfl) rfl ?_
  intro p e s m args below meth c Q C hend
  have hT := hW.1
  obtain ⟨hn1, hn16, hb4, ⟨hd0, hd3, hd5, hd6⟩, hpar⟩ := id hT
  refine r_iconst (v := 1) C dX8_isWarm_0 rfl ?_
  refine r_istore_n (L' := [(1, .int 1), (0, .ref (mA G 107))]) C dX8_isWarm_1 (by decide) rfl ?_
  refine r_iconst (v := nI 1) C dX8_isWarm_2 rfl ?_
  refine r_istore_n (L' := [(2, .int (nI 1)), (1, .int 1), (0, .ref (mA G 107))]) C dX8_isWarm_3 (by decide) rfl ?_
  have lp4 : ∀ (fu : Nat) (k : Nat) (a : Int32), (0 < k) → (k ≤ vN V) → (a = b2i (warmP V k)) → (vN V - k) < fu → At p l e (rmD 2 0 0) s m args below meth c G 3 0 0 Q M g [(2, .int (nI k)), (1, .int a), (0, .ref (mA G 107))] 4 [] := by
    intro fu
    induction fu with
    | zero => intro k a hk0 hkn ha hfu; exact absurd hfu (Nat.not_lt_zero _)
    | succ fu ih4 =>
      intro k a hk0 hkn ha hfu4
      refine r_iload_n C dX8_isWarm_4 0 rfl ?_
      refine r_aload_n C dX8_isWarm_5 2 rfl ?_
      refine r_getr (q2 := 108) C dX8_isWarm_6 0 f_X8_7 rfl rfl ?_
      refine r_iconst (v := 5) C dX8_isWarm_9 rfl ?_
      refine r_ialdN (j := 5) (v := nI (vN V)) C dX8_isWarm_10 rfl (rfl) (by omega) (by decide) (hV.1.1) ?_
      refine r_icmp_ge (tgt := 57) C dX8_isWarm_11 (by decide) (fun c11 => ?_) (fun c11 => ?_)
      ·
        have hkn2 : k = vN V := by have := le_of_le (by omega) (by omega) c11; omega
        refine r_iload_n C dX8_isWarm_57 1 rfl ?_
        exact hend _ _ _ _ _ dX8_isWarm_58 (by rw [ha]; exact b2i_b _) (⟨by rw [ha, hkn2], rfl, rfl⟩)
      ·
        have hlt : k < vN V := lt_of_nle (by omega) c11
        refine r_iload_n C dX8_isWarm_14 1 rfl ?_
        refine r_if_eq (tgt := 49) C dX8_isWarm_15 (by decide) (fun c15 => ?_) (fun c15 => ?_)
        ·
          refine r_iconst (v := 0) C dX8_isWarm_49 rfl ?_
          refine r_valI (y := b2i (warmP V (k + 1))) (by rw [warmP, b2i_0.mp (ha.symm.trans c15)]; rfl) ?_
          refine r_istore_n (L' := [(1, .int (b2i (warmP V (k + 1)))), (2, .int (nI k)), (0, .ref (mA G 107))]) C dX8_isWarm_50 (by decide) rfl ?_
          refine r_iinc (v := nI (k + 1)) (L' := [(2, .int (nI (k + 1))), (1, .int (b2i (warmP V (k + 1)))), (0, .ref (mA G 107))]) C dX8_isWarm_51 1 rfl (nI_inc _) (by decide) rfl ?_
          refine r_goto (tgt := 4) C dX8_isWarm_54 (by decide) ?_
          refine r_sub (L' := [(2, .int (nI (k + 1))), (1, .int (b2i (warmP V (k + 1)))), (0, .ref (mA G 107))]) [0, 1, 2] rfl ?_
          exact ih4 (k + 1) _ (by omega) (by omega) rfl (by omega)
        ·
          refine r_aload_n C dX8_isWarm_18 2 rfl ?_
          refine r_iload_n C dX8_isWarm_19 0 rfl ?_
          refine r_iconst (v := 3) C dX8_isWarm_20 rfl ?_
          refine r_callVI (As := [.int (nI k), .int 3]) (rest := []) C dX8_isWarm_21 s_X8_48 (c_X8_of l G hG M g V hW hV k hlt 3 (by decide)) (by decide) rfl rfl rfl rfl (Nat.le_of_ble_eq_true rfl) (Nat.le_of_ble_eq_true rfl) (Nat.le_of_ble_eq_true rfl) (pk_I ?_)
          refine r_if_eq (tgt := 45) C dX8_isWarm_24 (by decide) (fun c24 => ?_) (fun c24 => ?_)
          ·
            refine r_iconst (v := 1) C dX8_isWarm_45 rfl ?_
            refine r_goto (tgt := 50) C dX8_isWarm_46 (by decide) ?_
            refine r_valI (y := b2i (warmP V (k + 1))) (by rw [warmP, b2i_1.mp (fun z => c15 (ha.trans z)), decide_eq_true c24]; simp; rfl) ?_
            refine r_istore_n (L' := [(1, .int (b2i (warmP V (k + 1)))), (2, .int (nI k)), (0, .ref (mA G 107))]) C dX8_isWarm_50 (by decide) rfl ?_
            refine r_iinc (v := nI (k + 1)) (L' := [(2, .int (nI (k + 1))), (1, .int (b2i (warmP V (k + 1)))), (0, .ref (mA G 107))]) C dX8_isWarm_51 1 rfl (nI_inc _) (by decide) rfl ?_
            refine r_goto (tgt := 4) C dX8_isWarm_54 (by decide) ?_
            refine r_sub (L' := [(2, .int (nI (k + 1))), (1, .int (b2i (warmP V (k + 1)))), (0, .ref (mA G 107))]) [0, 1, 2] rfl ?_
            exact ih4 (k + 1) _ (by omega) (by omega) rfl (by omega)
          ·
            refine r_aload_n C dX8_isWarm_27 2 rfl ?_
            refine r_getr (q2 := 113) C dX8_isWarm_28 8 f_X8_25 rfl rfl ?_
            refine r_iload_n C dX8_isWarm_31 0 rfl ?_
            refine r_ialdN (j := k) (v := warmF V (vSup V) k) C dX8_isWarm_32 rfl (rfl) (by omega) (by decide) ((hR k hlt).2.1) ?_
            refine r_aload_n C dX8_isWarm_33 2 rfl ?_
            refine r_getr (q2 := 114) C dX8_isWarm_34 9 f_X8_28 rfl rfl ?_
            refine r_iload_n C dX8_isWarm_37 0 rfl ?_
            refine r_ialdN (j := k) (v := rF V (vSup V) k) C dX8_isWarm_38 rfl (rfl) (by omega) (by decide) (((hR k hlt).2.2.1).trans (if_neg (by omega))) ?_
            refine r_bipush (v := 100) C dX8_isWarm_39 rfl ?_
            refine r_iadd C dX8_isWarm_41 ?_
            refine r_icmp_lt (tgt := 49) C dX8_isWarm_42 (by decide) (fun c42 => ?_) (fun c42 => ?_)
            ·
              refine r_iconst (v := 0) C dX8_isWarm_49 rfl ?_
              refine r_valI (y := b2i (warmP V (k + 1))) (by rw [warmP, b2i_1.mp (fun z => c15 (ha.trans z)), decide_eq_false c24, decide_eq_false (show ¬ k = 0 by omega), decide_eq_false (fun z => i32_nle.mpr c42 z)]; rfl) ?_
              refine r_istore_n (L' := [(1, .int (b2i (warmP V (k + 1)))), (2, .int (nI k)), (0, .ref (mA G 107))]) C dX8_isWarm_50 (by decide) rfl ?_
              refine r_iinc (v := nI (k + 1)) (L' := [(2, .int (nI (k + 1))), (1, .int (b2i (warmP V (k + 1)))), (0, .ref (mA G 107))]) C dX8_isWarm_51 1 rfl (nI_inc _) (by decide) rfl ?_
              refine r_goto (tgt := 4) C dX8_isWarm_54 (by decide) ?_
              refine r_sub (L' := [(2, .int (nI (k + 1))), (1, .int (b2i (warmP V (k + 1)))), (0, .ref (mA G 107))]) [0, 1, 2] rfl ?_
              exact ih4 (k + 1) _ (by omega) (by omega) rfl (by omega)
            ·
              refine r_iconst (v := 1) C dX8_isWarm_45 rfl ?_
              refine r_goto (tgt := 50) C dX8_isWarm_46 (by decide) ?_
              refine r_valI (y := b2i (warmP V (k + 1))) (by rw [warmP, b2i_1.mp (fun z => c15 (ha.trans z)), decide_eq_false c24, decide_eq_true (i32_nlt.mp c42)]; simp; rfl) ?_
              refine r_istore_n (L' := [(1, .int (b2i (warmP V (k + 1)))), (2, .int (nI k)), (0, .ref (mA G 107))]) C dX8_isWarm_50 (by decide) rfl ?_
              refine r_iinc (v := nI (k + 1)) (L' := [(2, .int (nI (k + 1))), (1, .int (b2i (warmP V (k + 1)))), (0, .ref (mA G 107))]) C dX8_isWarm_51 1 rfl (nI_inc _) (by decide) rfl ?_
              refine r_goto (tgt := 4) C dX8_isWarm_54 (by decide) ?_
              refine r_sub (L' := [(2, .int (nI (k + 1))), (1, .int (b2i (warmP V (k + 1)))), (0, .ref (mA G 107))]) [0, 1, 2] rfl ?_
              exact ih4 (k + 1) _ (by omega) (by omega) rfl (by omega)
  refine r_sub (L' := [(2, .int (nI 1)), (1, .int 1), (0, .ref (mA G 107))]) [0, 1, 2] rfl ?_
  exact lp4 _ 1 1 (by omega) hn1 (by rw [warmP_1]; rfl) (Nat.lt_succ_self _)
