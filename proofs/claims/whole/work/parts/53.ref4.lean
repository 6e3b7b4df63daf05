set_option maxRecDepth 20000 in
set_option maxHeartbeats 1000000 in
theorem c_X8_placeOf (l : Launch) (G : mG) (hG : mInj G) (M : Mem) (g : Glo) (V : View) (hW : wfV V) (hV : rV (M 108) V) (j : Nat) (hj : j < vB V) : mcI l G yX8_placeOf cX8_placeOf 4 .int 2 [.ref (mA G 107), .int (nI j)] M g (fun r M' g' => r = nI (placeN V j) ∧ M' = M ∧ g' = g) := by
  refine mcI_of (L0 := [(0, .ref (mA G 107)), (1, .int (nI j))]) hG (by decide) (Nat.le_of_ble_eq_true rfl) rfl ?_
  intro p e s m args below meth c Q C hend
  have hT := hW.1
  obtain ⟨hn1, hn16, hb4, ⟨hd0, hd3, hd5, hd6⟩, hpar⟩ := id hT
  refine r_iconst (v := nI 0) C dX8_placeOf_0 rfl ?_
  refine r_istore_n (L' := [(2, .int (nI 0)), (0, .ref (mA G 107)), (1, .int (nI j))]) C dX8_placeOf_1 (by decide) rfl ?_
  refine r_iconst (v := nI 0) C dX8_placeOf_2 rfl ?_
  refine r_istore_n (L' := [(3, .int (nI 0)), (2, .int (nI 0)), (0, .ref (mA G 107)), (1, .int (nI j))]) C dX8_placeOf_3 (by decide) rfl ?_
  have lp4 : ∀ (fu : Nat) (k : Nat) (a : Nat), (k ≤ vB V) → (a = cntA (fun o => bef V o j) k) → (vB V - k) < fu → At p l e (rmD 2 0 0) s m args below meth c G 4 0 0 Q M g [(3, .int (nI k)), (2, .int (nI a)), (0, .ref (mA G 107)), (1, .int (nI j))] 4 [] := by
    intro fu
    induction fu with
    | zero => intro k a hkn ha hfu; exact absurd hfu (Nat.not_lt_zero _)
    | succ fu ih4 =>
      intro k a hkn ha hfu4
      refine r_iload_n C dX8_placeOf_4 0 rfl ?_
      refine r_aload_n C dX8_placeOf_5 2 rfl ?_
      refine r_getr (q2 := 108) C dX8_placeOf_6 0 f_X8_7 rfl rfl ?_
      refine r_bipush (v := 6) C dX8_placeOf_9 rfl ?_
      refine r_ialdN (j := 6) (v := nI (vB V)) C dX8_placeOf_11 rfl (rfl) (by omega) (by decide) (hV.1.2) ?_
      refine r_icmp_ge (tgt := 64) C dX8_placeOf_12 (by decide) (fun c12 => ?_) (fun c12 => ?_)
      ·
        have hkn2 : k = vB V := by have := le_of_le (by omega) (by omega) c12; omega
        refine r_iload_n C dX8_placeOf_64 1 rfl ?_
        exact hend _ _ _ _ _ dX8_placeOf_65 (rfl) (⟨by rw [ha, hkn2]; rfl, rfl, rfl⟩)
      ·
        have hlt : k < vB V := lt_of_nle (by omega) c12
        refine r_iload_n C dX8_placeOf_15 1 rfl ?_
        refine r_aload_n C dX8_placeOf_16 2 rfl ?_
        refine r_iload_n C dX8_placeOf_17 0 rfl ?_
        refine r_iconst (v := 2) C dX8_placeOf_18 rfl ?_
        refine r_callVI (As := [.int (nI k), .int 2]) (rest := [.int (nI a)]) C dX8_placeOf_19 s_X8_67 (c_X8_ofBoiler l G hG M g V hW hV k hlt 2 (by decide)) (by decide) rfl rfl rfl rfl (Nat.le_of_ble_eq_true rfl) (Nat.le_of_ble_eq_true rfl) (Nat.le_of_ble_eq_true rfl) (pk_I ?_)
        refine r_aload_n C dX8_placeOf_22 2 rfl ?_
        refine r_iload_n C dX8_placeOf_23 3 rfl ?_
        refine r_iconst (v := 2) C dX8_placeOf_24 rfl ?_
        refine r_callVI (As := [.int (nI j), .int 2]) (rest := [.int (vO V 2 k), .int (nI a)]) C dX8_placeOf_25 s_X8_67 (c_X8_ofBoiler l G hG M g V hW hV j hj 2 (by decide)) (by decide) rfl rfl rfl rfl (Nat.le_of_ble_eq_true rfl) (Nat.le_of_ble_eq_true rfl) (Nat.le_of_ble_eq_true rfl) (pk_I ?_)
        refine r_icmp_lt (tgt := 51) C dX8_placeOf_28 (by decide) (fun c28 => ?_) (fun c28 => ?_)
        ·
          refine r_iconst (v := 1) C dX8_placeOf_51 rfl ?_
          refine r_goto (tgt := 56) C dX8_placeOf_52 (by decide) ?_
          refine r_iadd C dX8_placeOf_56 ?_
          refine r_valI (y := nI (a + 1)) (nI_1 _) ?_
          refine r_istore_n (L' := [(2, .int (nI (a + 1))), (3, .int (nI k)), (0, .ref (mA G 107)), (1, .int (nI j))]) C dX8_placeOf_57 (by decide) rfl ?_
          refine r_iinc (v := nI (k + 1)) (L' := [(3, .int (nI (k + 1))), (2, .int (nI (a + 1))), (0, .ref (mA G 107)), (1, .int (nI j))]) C dX8_placeOf_58 1 rfl (nI_inc _) (by decide) rfl ?_
          refine r_goto (tgt := 4) C dX8_placeOf_61 (by decide) ?_
          refine r_sub (L' := [(3, .int (nI (k + 1))), (2, .int (nI (a + 1))), (0, .ref (mA G 107)), (1, .int (nI j))]) [0, 1, 2, 3] rfl ?_
          exact ih4 (k + 1) (a + 1) (by omega) (by rw [cntA, ha]; simp [bef, c28]) (by omega)
        ·
          refine r_aload_n C dX8_placeOf_31 2 rfl ?_
          refine r_iload_n C dX8_placeOf_32 0 rfl ?_
          refine r_iconst (v := 2) C dX8_placeOf_33 rfl ?_
          refine r_callVI (As := [.int (nI k), .int 2]) (rest := [.int (nI a)]) C dX8_placeOf_34 s_X8_67 (c_X8_ofBoiler l G hG M g V hW hV k hlt 2 (by decide)) (by decide) rfl rfl rfl rfl (Nat.le_of_ble_eq_true rfl) (Nat.le_of_ble_eq_true rfl) (Nat.le_of_ble_eq_true rfl) (pk_I ?_)
          refine r_aload_n C dX8_placeOf_37 2 rfl ?_
          refine r_iload_n C dX8_placeOf_38 3 rfl ?_
          refine r_iconst (v := 2) C dX8_placeOf_39 rfl ?_
          refine r_callVI (As := [.int (nI j), .int 2]) (rest := [.int (vO V 2 k), .int (nI a)]) C dX8_placeOf_40 s_X8_67 (c_X8_ofBoiler l G hG M g V hW hV j hj 2 (by decide)) (by decide) rfl rfl rfl rfl (Nat.le_of_ble_eq_true rfl) (Nat.le_of_ble_eq_true rfl) (Nat.le_of_ble_eq_true rfl) (pk_I ?_)
          refine r_icmp_ne (tgt := 55) C dX8_placeOf_43 (by decide) (fun c43 => ?_) (fun c43 => ?_)
          ·
            refine r_iconst (v := 0) C dX8_placeOf_55 rfl ?_
            refine r_iadd C dX8_placeOf_56 ?_
            refine r_valI (y := nI a) (Int32.add_zero _) ?_
            refine r_istore_n (L' := [(2, .int (nI a)), (3, .int (nI k)), (0, .ref (mA G 107)), (1, .int (nI j))]) C dX8_placeOf_57 (by decide) rfl ?_
            refine r_iinc (v := nI (k + 1)) (L' := [(3, .int (nI (k + 1))), (2, .int (nI a)), (0, .ref (mA G 107)), (1, .int (nI j))]) C dX8_placeOf_58 1 rfl (nI_inc _) (by decide) rfl ?_
            refine r_goto (tgt := 4) C dX8_placeOf_61 (by decide) ?_
            refine r_sub (L' := [(3, .int (nI (k + 1))), (2, .int (nI a)), (0, .ref (mA G 107)), (1, .int (nI j))]) [0, 1, 2, 3] rfl ?_
            exact ih4 (k + 1) a (by omega) (by rw [cntA, ha]; simp [bef, c28, c43]) (by omega)
          ·
            refine r_iload_n C dX8_placeOf_46 0 rfl ?_
            refine r_iload_n C dX8_placeOf_47 3 rfl ?_
            refine r_icmp_ge (tgt := 55) C dX8_placeOf_48 (by decide) (fun c48 => ?_) (fun c48 => ?_)
            ·
              refine r_iconst (v := 0) C dX8_placeOf_55 rfl ?_
              refine r_iadd C dX8_placeOf_56 ?_
              refine r_valI (y := nI a) (Int32.add_zero _) ?_
              refine r_istore_n (L' := [(2, .int (nI a)), (3, .int (nI k)), (0, .ref (mA G 107)), (1, .int (nI j))]) C dX8_placeOf_57 (by decide) rfl ?_
              refine r_iinc (v := nI (k + 1)) (L' := [(3, .int (nI (k + 1))), (2, .int (nI a)), (0, .ref (mA G 107)), (1, .int (nI j))]) C dX8_placeOf_58 1 rfl (nI_inc _) (by decide) rfl ?_
              refine r_goto (tgt := 4) C dX8_placeOf_61 (by decide) ?_
              refine r_sub (L' := [(3, .int (nI (k + 1))), (2, .int (nI a)), (0, .ref (mA G 107)), (1, .int (nI j))]) [0, 1, 2, 3] rfl ?_
              exact ih4 (k + 1) a (by omega) (by rw [cntA, ha]; have h9 : ¬ k < j := Nat.not_lt.mpr ((nI_leI (by omega) (by omega)).mp c48); simp [bef, c28, h9]) (by omega)
            ·
              refine r_iconst (v := 1) C dX8_placeOf_51 rfl ?_
              refine r_goto (tgt := 56) C dX8_placeOf_52 (by decide) ?_
              refine r_iadd C dX8_placeOf_56 ?_
              refine r_valI (y := nI (a + 1)) (nI_1 _) ?_
              refine r_istore_n (L' := [(2, .int (nI (a + 1))), (3, .int (nI k)), (0, .ref (mA G 107)), (1, .int (nI j))]) C dX8_placeOf_57 (by decide) rfl ?_
              refine r_iinc (v := nI (k + 1)) (L' := [(3, .int (nI (k + 1))), (2, .int (nI (a + 1))), (0, .ref (mA G 107)), (1, .int (nI j))]) C dX8_placeOf_58 1 rfl (nI_inc _) (by decide) rfl ?_
              refine r_goto (tgt := 4) C dX8_placeOf_61 (by decide) ?_
              refine r_sub (L' := [(3, .int (nI (k + 1))), (2, .int (nI (a + 1))), (0, .ref (mA G 107)), (1, .int (nI j))]) [0, 1, 2, 3] rfl ?_
              exact ih4 (k + 1) (a + 1) (by omega) (by rw [cntA, ha]; have h9 : k < j := lt_of_nle (by omega) c48; simp [bef, c28, c43, h9]) (by omega)
  refine r_sub (L' := [(3, .int (nI 0)), (2, .int (nI 0)), (0, .ref (mA G 107)), (1, .int (nI j))]) [0, 1, 2, 3] rfl ?_
  exact lp4 _ 0 0 (by omega) rfl (Nat.lt_succ_self _)

set_option maxRecDepth 20000 in
set_option maxHeartbeats 1000000 in
theorem c_X8_boilerAt (l : Launch) (G : mG) (hG : mInj G) (M : Mem) (g : Glo) (V : View) (hW : wfV V) (hV : rV (M 108) V) (x : Nat) (hx : x < vB V) : mcI l G yX8_boilerAt cX8_boilerAt 3 .int 3 [.ref (mA G 107), .int (nI x)] M g (fun r M' g' => r = nI (boilAt V x) ∧ M' = M ∧ g' = g) := by
  refine mcI_of (L0 := [(0, .ref (mA G 107)), (1, .int (nI x))]) hG (by decide) (Nat.le_of_ble_eq_true rfl) rfl ?_
  intro p e s m args below meth c Q C hend
  have hT := hW.1
  obtain ⟨hn1, hn16, hb4, ⟨hd0, hd3, hd5, hd6⟩, hpar⟩ := id hT
  obtain ⟨ha1, ha2, ha3⟩ := boilAt_spec V hx
  refine r_iconst (v := nI 0) C dX8_boilerAt_0 rfl ?_
  refine r_istore_n (L' := [(2, .int (nI 0)), (0, .ref (mA G 107)), (1, .int (nI x))]) C dX8_boilerAt_1 (by decide) rfl ?_
  have lp2 : ∀ (fu : Nat) (k : Nat), (k ≤ boilAt V x) → (vB V - k) < fu → At p l e (rmD 3 0 0) s m args below meth c G 3 0 0 Q M g [(2, .int (nI k)), (0, .ref (mA G 107)), (1, .int (nI x))] 2 [] := by
    intro fu
    induction fu with
    | zero => intro k hkn hfu; exact absurd hfu (Nat.not_lt_zero _)
    | succ fu ih2 =>
      intro k hkn hfu2
      refine r_aload_n C dX8_boilerAt_2 1 rfl ?_
      refine r_iload_n C dX8_boilerAt_3 0 rfl ?_
      refine r_callVI (As := [.int (nI k)]) (rest := []) C dX8_boilerAt_4 s_X8_70 (c_X8_placeOf l G hG M g V hW hV k (by omega)) (by decide) rfl rfl rfl rfl (Nat.le_of_ble_eq_true rfl) (Nat.le_of_ble_eq_true rfl) (Nat.le_of_ble_eq_true rfl) (pk_I ?_)
      refine r_iload_n C dX8_boilerAt_7 2 rfl ?_
      refine r_icmp_eq (tgt := 17) C dX8_boilerAt_8 (by decide) (fun c8 => ?_) (fun c8 => ?_)
      ·
        refine r_iload_n C dX8_boilerAt_17 0 rfl ?_
        exact hend _ _ _ _ _ dX8_boilerAt_18 (rfl) (⟨congrArg nI (placeN_inj V (by omega) ha1 (((nI_eq (by have := placeN_lt V (b := k) (by omega); omega) (by omega)).mp c8).trans ha2.symm)), rfl, rfl⟩)
      ·
        refine r_iinc (v := nI (k + 1)) (L' := [(2, .int (nI (k + 1))), (0, .ref (mA G 107)), (1, .int (nI x))]) C dX8_boilerAt_11 0 rfl (nI_inc _) (by decide) rfl ?_
        refine r_goto (tgt := 2) C dX8_boilerAt_14 (by decide) ?_
        refine r_sub (L' := [(2, .int (nI (k + 1))), (0, .ref (mA G 107)), (1, .int (nI x))]) [0, 1, 2] rfl ?_
        exact ih2 (k + 1) (by have : k ≠ boilAt V x := (fun h => c8 (by rw [h, ha2])); omega) (by omega)
  refine r_sub (L' := [(2, .int (nI 0)), (0, .ref (mA G 107)), (1, .int (nI x))]) [0, 1, 2] rfl ?_
  exact lp2 _ 0 (by omega) (Nat.lt_succ_self _)

set_option maxRecDepth 20000 in
set_option maxHeartbeats 1000000 in
theorem c_X8_warmth (l : Launch) (G : mG) (hG : mInj G) (M : Mem) (g : Glo) (V : View) (hW : wfV V) (hV : rV (M 108) V) (sup : Int32) (j : Nat) (h0 : 0 < j) (hj : j < vN V) (hw : M 113 (vP V j) = warmF V sup (vP V j)) (hf : M 112 j = flowF V j) : mcI l G yX8_warmth cX8_warmth 5 .int 2 [.ref (mA G 107), .int (nI j)] M g (fun r M' g' => r = warmF V sup j ∧ M' = M ∧ g' = g) := by
  refine mcI_of (L0 := [(0, .ref (mA G 107)), (1, .int (nI j))]) hG (by decide) (Nat.le_of_ble_eq_true rfl) rfl ?_
  intro p e s m args below meth c Q C hend
  have hT := hW.1
  obtain ⟨hn1, hn16, hb4, ⟨hd0, hd3, hd5, hd6⟩, hpar⟩ := id hT
  have hpk := hpar j h0 hj
  have e0 : (0 : Int32).toInt = 0 := by decide
  refine r_aload_n C dX8_warmth_0 0 rfl ?_
  refine r_getr (q2 := 113) C dX8_warmth_1 8 f_X8_25 rfl rfl ?_
  refine r_aload_n C dX8_warmth_4 0 rfl ?_
  refine r_iload_n C dX8_warmth_5 1 rfl ?_
  refine r_iconst (v := 0) C dX8_warmth_6 rfl ?_
  refine r_callVI (As := [.int (nI j), .int 0]) (rest := [.ref (mA G 113)]) C dX8_warmth_7 s_X8_48 (c_X8_of l G hG M g V hW hV j hj 0 (by decide)) (by decide) rfl rfl rfl rfl (Nat.le_of_ble_eq_true rfl) (Nat.le_of_ble_eq_true rfl) (Nat.le_of_ble_eq_true rfl) (pk_I ?_)
  refine r_valI (y := nI (vP V j)) (hpk.1) ?_
  refine r_ialdN (j := vP V j) (v := warmF V sup (vP V j)) C dX8_warmth_10 rfl (rfl) (by omega) (by decide) (hw) ?_
  refine r_istore_n (L' := [(2, .int (warmF V sup (vP V j))), (0, .ref (mA G 107)), (1, .int (nI j))]) C dX8_warmth_11 (by decide) rfl ?_
  refine r_aload_n C dX8_warmth_12 1 rfl ?_
  refine r_getr (q2 := 108) C dX8_warmth_13 0 f_X8_7 rfl rfl ?_
  refine r_iconst (v := 1) C dX8_warmth_16 rfl ?_
  refine r_ialdN (j := 1) (v := vS V 1) C dX8_warmth_17 rfl (rfl) (by omega) (by decide) (hV.2.1.2.1) ?_
  refine r_istore_n (L' := [(3, .int (vS V 1)), (2, .int (warmF V sup (vP V j))), (0, .ref (mA G 107)), (1, .int (nI j))]) C dX8_warmth_18 (by decide) rfl ?_
  refine r_aload_n C dX8_warmth_19 2 rfl ?_
  refine r_getr (q2 := 112) C dX8_warmth_20 7 f_X8_22 rfl rfl ?_
  refine r_iload_n C dX8_warmth_23 3 rfl ?_
  refine r_ialdN (j := j) (v := flowF V j) C dX8_warmth_24 rfl (rfl) (by omega) (by decide) (hf) ?_
  refine r_if_ne (tgt := 34) C dX8_warmth_25 (by decide) (fun c25 => ?_) (fun c25 => ?_)
  ·
    have hfp : ¬ flowF V j ≤ 0 := fun z => c25 (i32_eq.mpr (by have h1 := i32_le.mp z; have h2 := (flow_bd hW hj).1; rw [e0] at h1; rw [e0]; omega))
    have hz := wfZ_of hW j h0 hj hfp
    refine r_iload_n C dX8_warmth_34 1 rfl ?_
    refine r_iload_n C dX8_warmth_35 0 rfl ?_
    refine r_icmp_gt (tgt := 41) C dX8_warmth_36 (by decide) (fun c36 => ?_) (fun c36 => ?_)
    ·
      refine r_iload_n C dX8_warmth_41 1 rfl ?_
      refine r_iload_n C dX8_warmth_42 0 rfl ?_
      refine r_isub C dX8_warmth_43 ?_
      refine r_aload_n C dX8_warmth_44 2 rfl ?_
      refine r_iload_n C dX8_warmth_45 3 rfl ?_
      refine r_iconst (v := 2) C dX8_warmth_46 rfl ?_
      refine r_callVI (As := [.int (nI j), .int 2]) (rest := [.int ((warmF V sup (vP V j)) - (vS V 1))]) C dX8_warmth_47 s_X8_48 (c_X8_of l G hG M g V hW hV j hj 2 (by decide)) (by decide) rfl rfl rfl rfl (Nat.le_of_ble_eq_true rfl) (Nat.le_of_ble_eq_true rfl) (Nat.le_of_ble_eq_true rfl) (pk_I ?_)
      refine r_imul C dX8_warmth_50 ?_
      refine r_aload_n C dX8_warmth_51 2 rfl ?_
      refine r_iload_n C dX8_warmth_52 3 rfl ?_
      refine r_iconst (v := 1) C dX8_warmth_53 rfl ?_
      refine r_callVI (As := [.int (nI j), .int 1]) (rest := [.int (((warmF V sup (vP V j)) - (vS V 1)) * (vD V 2 j))]) C dX8_warmth_54 s_X8_48 (c_X8_of l G hG M g V hW hV j hj 1 (by decide)) (by decide) rfl rfl rfl rfl (Nat.le_of_ble_eq_true rfl) (Nat.le_of_ble_eq_true rfl) (Nat.le_of_ble_eq_true rfl) (pk_I ?_)
      refine r_imul C dX8_warmth_57 ?_
      refine r_sipush (v := 1000) C dX8_warmth_58 rfl ?_
      refine r_aload_n C dX8_warmth_61 2 rfl ?_
      refine r_getr (q2 := 112) C dX8_warmth_62 7 f_X8_22 rfl rfl ?_
      refine r_iload_n C dX8_warmth_65 3 rfl ?_
      refine r_ialdN (j := j) (v := flowF V j) C dX8_warmth_66 rfl (rfl) (by omega) (by decide) (hf) ?_
      refine r_imul C dX8_warmth_67 ?_
      refine r_idiv C dX8_warmth_68 (hz) ?_
      refine r_istore (L' := [(4, .int (((((warmF V sup (vP V j)) - (vS V 1)) * (vD V 2 j)) * (vD V 1 j)) / (1000 * (flowF V j)))), (3, .int (vS V 1)), (2, .int (warmF V sup (vP V j))), (0, .ref (mA G 107)), (1, .int (nI j))]) C dX8_warmth_69 (by decide) rfl ?_
      refine r_iload_n C dX8_warmth_71 2 rfl ?_
      refine r_iload_n C dX8_warmth_72 2 rfl ?_
      refine r_iload_n C dX8_warmth_73 1 rfl ?_
      refine r_isub C dX8_warmth_74 ?_
      refine r_iload C dX8_warmth_75 0 rfl ?_
      refine r_callSI (As := [.int ((warmF V sup (vP V j)) - (vS V 1)), .int (((((warmF V sup (vP V j)) - (vS V 1)) * (vD V 2 j)) * (vD V 1 j)) / (1000 * (flowF V j)))]) (rest := [.int (warmF V sup (vP V j))]) C dX8_warmth_77 s_X8_52 (c_X8_less l G hG M g ((warmF V sup (vP V j)) - vS V 1) (((warmF V sup (vP V j)) - vS V 1) * vD V 2 j * vD V 1 j / (1000 * flowF V j))) (by decide) rfl rfl (Nat.le_of_ble_eq_true rfl) (Nat.le_of_ble_eq_true rfl) (Nat.le_of_ble_eq_true rfl) (pk_I ?_)
      refine r_isub C dX8_warmth_80 ?_
      exact hend _ _ _ _ _ dX8_warmth_81 (rfl) (⟨by rw [warmF_s V sup h0 hpk.2]; unfold wStep behindF; rw [if_neg hfp, if_neg (i32_nle.mpr c36), Int32.mul_assoc], rfl, rfl⟩)
    ·
      refine r_iload_n C dX8_warmth_39 1 rfl ?_
      exact hend _ _ _ _ _ dX8_warmth_40 (rfl) (⟨by rw [warmF_s V sup h0 hpk.2]; unfold wStep behindF; rw [if_neg hfp, if_pos (i32_nlt.mp c36)], rfl, rfl⟩)
  ·
    refine r_iload_n C dX8_warmth_28 1 rfl ?_
    refine r_iload_n C dX8_warmth_29 0 rfl ?_
    refine r_callSI (As := [.int (warmF V sup (vP V j)), .int (vS V 1)]) (rest := []) C dX8_warmth_30 s_X8_52 (c_X8_less l G hG M g (warmF V sup (vP V j)) (vS V 1)) (by decide) rfl rfl (Nat.le_of_ble_eq_true rfl) (Nat.le_of_ble_eq_true rfl) (Nat.le_of_ble_eq_true rfl) (pk_I ?_)
    exact hend _ _ _ _ _ dX8_warmth_33 (rfl) (⟨by rw [warmF_s V sup h0 hpk.2]; unfold wStep behindF; rw [if_pos (by rw [c25]; decide)], rfl, rfl⟩)
