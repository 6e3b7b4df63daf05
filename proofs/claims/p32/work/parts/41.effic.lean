set_option maxRecDepth 20000 in
set_option maxHeartbeats 1000000 in
theorem c_X7_efficiency (l : Launch) (G : mG) (hG : mInj G) (M : Mem) (g : Glo) (V : View) (Hs : List View) (len : Nat) (T : Nat → Int32) (hI : cINV M V Hs len T) : mcD l G yX7_efficiency cX7_efficiency 2 6 [.ref (mA G 0)] M g (fun r M' g' => r = effF V ∧ M' = M ∧ g' = g) := by
  refine mcD_of (L0 := [(0, .ref (mA G 0))]) hG (by decide) (Nat.le_of_ble_eq_true rfl) rfl ?_
  intro p e s m args below meth c Q C hend
  obtain ⟨hC, hW, hH, hHs, hTx, hP0⟩ := id hI
  have hT := hW.1
  obtain ⟨hn1, hn16, hb4, ⟨hd0, hd3, hd5, hd6⟩, hpar⟩ := id hT
  refine r_aload_n C dX7_efficiency_0 0 rfl ?_
  refine r_getr (q2 := 75) C dX7_efficiency_1 3 f_X7_33 rfl rfl ?_
  refine r_getr (q2 := 76) C dX7_efficiency_4 0 f_X7_216 rfl rfl ?_
  refine r_iconst (v := 0) C dX7_efficiency_7 rfl ?_
  refine r_ialdN (j := 0) (v := flowF V 0) C dX7_efficiency_8 rfl (rfl) (by omega) (by decide) (hC.fl (by omega)) ?_
  refine r_aload_n C dX7_efficiency_9 0 rfl ?_
  refine r_getr (q2 := 1) C dX7_efficiency_10 0 f_X7_10 rfl rfl ?_
  refine r_geti C dX7_efficiency_13 2 f_X7_106 rfl rfl ?_
  refine r_valI (y := vS V 0) (hC.1.2.2.1) ?_
  refine r_imul C dX7_efficiency_16 ?_
  refine r_istore_n (L' := [(1, .int ((flowF V 0) * (vS V 0))), (0, .ref (mA G 0))]) C dX7_efficiency_17 (by decide) rfl ?_
  refine r_iload_n C dX7_efficiency_18 0 rfl ?_
  refine r_if_ne (tgt := 24) C dX7_efficiency_19 (by decide) (fun c19 => ?_) (fun c19 => ?_)
  ·
    refine r_aload_n C dX7_efficiency_24 1 rfl ?_
    refine r_iconst (v := 0) C dX7_efficiency_25 rfl ?_
    refine r_callVI (As := [.int 0]) (rest := []) C dX7_efficiency_26 s_X7_123 (c_X7_sumOfHeats l G hG M g V hT hC 0 (by decide)) (by decide) rfl rfl rfl rfl (Nat.le_of_ble_eq_true rfl) (Nat.le_of_ble_eq_true rfl) (Nat.le_of_ble_eq_true rfl) (pk_I ?_)
    refine r_i2d C dX7_efficiency_29 ?_
    refine r_iload_n C dX7_efficiency_30 0 rfl ?_
    refine r_i2d C dX7_efficiency_31 ?_
    refine r_ddiv C dX7_efficiency_32 (dv_nn c19) ?_
    exact hend _ _ _ _ _ dX7_efficiency_33 (⟨(if_neg c19).symm, rfl, rfl⟩)
  ·
    refine r_dconst0 C dX7_efficiency_22 ?_
    exact hend _ _ _ _ _ dX7_efficiency_23 (⟨(if_pos c19).symm, rfl, rfl⟩)
