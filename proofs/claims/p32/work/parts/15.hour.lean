set_option maxRecDepth 20000 in
set_option maxHeartbeats 1000000 in
theorem c_X0_placeOf (l : Launch) (G : mG) (hG : mInj G) (M : Mem) (g : Glo) (V : View) (hT : wfT V) (hV : cBoi M 11 V) (b : Nat) (hb : b < vB V) : mcI l G yX0_placeOf cX0_placeOf 4 .int 1 [.ref (mA G 11), .int (nI b)] M g (fun r M' g' => r = nI (placeN V b) ∧ M' = M ∧ g' = g) := by
  refine mcI_of (L0 := [(0, .ref (mA G 11)), (1, .int (nI b))]) hG (by decide) (Nat.le_of_ble_eq_true rfl) rfl ?_
  intro p e s m args below meth c Q C hend
  have hT0 := hT
  obtain ⟨hn1, hn16, hb4, ⟨hd0, hd3, hd5, hd6⟩, hpar⟩ := hT0
  refine r_iconst (v := nI 0) C dX0_placeOf_0 rfl ?_
  refine r_istore_n (L' := [(2, .int (nI 0)), (0, .ref (mA G 11)), (1, .int (nI b))]) C dX0_placeOf_1 (by decide) rfl ?_
  refine r_iconst (v := nI 0) C dX0_placeOf_2 rfl ?_
  refine r_istore_n (L' := [(3, .int (nI 0)), (2, .int (nI 0)), (0, .ref (mA G 11)), (1, .int (nI b))]) C dX0_placeOf_3 (by decide) rfl ?_
  have lp4 : ∀ (fu : Nat) (k : Nat) (a : Nat), (k ≤ vB V) → (a = cntA (fun o => bef V o b) k) → (vB V - k) < fu → At p l e (rmD 1 0 0) s m args below meth c G 4 0 0 Q M g [(3, .int (nI k)), (2, .int (nI a)), (0, .ref (mA G 11)), (1, .int (nI b))] 4 [] := by
    intro fu
    induction fu with
    | zero => intro k a hkn ha hfu; exact absurd hfu (Nat.not_lt_zero _)
    | succ fu ih4 =>
      intro k a hkn ha hfu4
      refine r_iload_n C dX0_placeOf_4 0 rfl ?_
      refine r_aload_n C dX0_placeOf_5 2 rfl ?_
      refine r_geti C dX0_placeOf_6 3 f_X0_21 rfl rfl ?_
      refine r_valI (y := nI (vB V)) (hV.1) ?_
      refine r_icmp_ge (tgt := 56) C dX0_placeOf_9 (by decide) (fun c9 => ?_) (fun c9 => ?_)
      ·
        have hkn2 : k = vB V := by have := le_of_le (by omega) (by omega) c9; omega
        refine r_iload_n C dX0_placeOf_56 1 rfl ?_
        exact hend _ _ _ _ _ dX0_placeOf_57 (rfl) (⟨by rw [ha, hkn2]; rfl, rfl, rfl⟩)
      ·
        have hlt : k < vB V := lt_of_nle (by omega) c9
        refine r_aload_n C dX0_placeOf_12 2 rfl ?_
        refine r_getr (q2 := 14) C dX0_placeOf_13 2 f_X0_18 rfl rfl ?_
        refine r_iload_n C dX0_placeOf_16 0 rfl ?_
        refine r_ialdN (j := k) (v := vO V 2 k) C dX0_placeOf_17 rfl (rfl) (by omega) (by decide) (hV.at 2 (by decide) hlt) ?_
        refine r_aload_n C dX0_placeOf_18 2 rfl ?_
        refine r_getr (q2 := 14) C dX0_placeOf_19 2 f_X0_18 rfl rfl ?_
        refine r_iload_n C dX0_placeOf_22 3 rfl ?_
        refine r_ialdN (j := b) (v := vO V 2 b) C dX0_placeOf_23 rfl (rfl) (by omega) (by decide) (hV.at 2 (by decide) hb) ?_
        refine r_icmp_lt (tgt := 47) C dX0_placeOf_24 (by decide) (fun c24 => ?_) (fun c24 => ?_)
        ·
          refine r_iinc (v := nI (a + 1)) (L' := [(2, .int (nI (a + 1))), (3, .int (nI k)), (0, .ref (mA G 11)), (1, .int (nI b))]) C dX0_placeOf_47 1 rfl (nI_inc _) (by decide) rfl ?_
          refine r_iinc (v := nI (k + 1)) (L' := [(3, .int (nI (k + 1))), (2, .int (nI (a + 1))), (0, .ref (mA G 11)), (1, .int (nI b))]) C dX0_placeOf_50 1 rfl (nI_inc _) (by decide) rfl ?_
          refine r_goto (tgt := 4) C dX0_placeOf_53 (by decide) ?_
          refine r_sub (L' := [(3, .int (nI (k + 1))), (2, .int (nI (a + 1))), (0, .ref (mA G 11)), (1, .int (nI b))]) [0, 1, 2, 3] rfl ?_
          exact ih4 (k + 1) (a + 1) (by omega) (by rw [cntA, ha]; simp [bef, c24]) (by omega)
        ·
          refine r_aload_n C dX0_placeOf_27 2 rfl ?_
          refine r_getr (q2 := 14) C dX0_placeOf_28 2 f_X0_18 rfl rfl ?_
          refine r_iload_n C dX0_placeOf_31 0 rfl ?_
          refine r_ialdN (j := k) (v := vO V 2 k) C dX0_placeOf_32 rfl (rfl) (by omega) (by decide) (hV.at 2 (by decide) hlt) ?_
          refine r_aload_n C dX0_placeOf_33 2 rfl ?_
          refine r_getr (q2 := 14) C dX0_placeOf_34 2 f_X0_18 rfl rfl ?_
          refine r_iload_n C dX0_placeOf_37 3 rfl ?_
          refine r_ialdN (j := b) (v := vO V 2 b) C dX0_placeOf_38 rfl (rfl) (by omega) (by decide) (hV.at 2 (by decide) hb) ?_
          refine r_icmp_ne (tgt := 50) C dX0_placeOf_39 (by decide) (fun c39 => ?_) (fun c39 => ?_)
          ·
            refine r_iinc (v := nI (k + 1)) (L' := [(3, .int (nI (k + 1))), (2, .int (nI a)), (0, .ref (mA G 11)), (1, .int (nI b))]) C dX0_placeOf_50 0 rfl (nI_inc _) (by decide) rfl ?_
            refine r_goto (tgt := 4) C dX0_placeOf_53 (by decide) ?_
            refine r_sub (L' := [(3, .int (nI (k + 1))), (2, .int (nI a)), (0, .ref (mA G 11)), (1, .int (nI b))]) [0, 1, 2, 3] rfl ?_
            exact ih4 (k + 1) a (by omega) (by rw [cntA, ha]; simp [bef, c24, c39]) (by omega)
          ·
            refine r_iload_n C dX0_placeOf_42 0 rfl ?_
            refine r_iload_n C dX0_placeOf_43 3 rfl ?_
            refine r_icmp_ge (tgt := 50) C dX0_placeOf_44 (by decide) (fun c44 => ?_) (fun c44 => ?_)
            ·
              refine r_iinc (v := nI (k + 1)) (L' := [(3, .int (nI (k + 1))), (2, .int (nI a)), (0, .ref (mA G 11)), (1, .int (nI b))]) C dX0_placeOf_50 0 rfl (nI_inc _) (by decide) rfl ?_
              refine r_goto (tgt := 4) C dX0_placeOf_53 (by decide) ?_
              refine r_sub (L' := [(3, .int (nI (k + 1))), (2, .int (nI a)), (0, .ref (mA G 11)), (1, .int (nI b))]) [0, 1, 2, 3] rfl ?_
              exact ih4 (k + 1) a (by omega) (by rw [cntA, ha]; have h9 : ¬ k < b := Nat.not_lt.mpr ((nI_leI (by omega) (by omega)).mp c44); simp [bef, c24, h9]) (by omega)
            ·
              refine r_iinc (v := nI (a + 1)) (L' := [(2, .int (nI (a + 1))), (3, .int (nI k)), (0, .ref (mA G 11)), (1, .int (nI b))]) C dX0_placeOf_47 1 rfl (nI_inc _) (by decide) rfl ?_
              refine r_iinc (v := nI (k + 1)) (L' := [(3, .int (nI (k + 1))), (2, .int (nI (a + 1))), (0, .ref (mA G 11)), (1, .int (nI b))]) C dX0_placeOf_50 1 rfl (nI_inc _) (by decide) rfl ?_
              refine r_goto (tgt := 4) C dX0_placeOf_53 (by decide) ?_
              refine r_sub (L' := [(3, .int (nI (k + 1))), (2, .int (nI (a + 1))), (0, .ref (mA G 11)), (1, .int (nI b))]) [0, 1, 2, 3] rfl ?_
              exact ih4 (k + 1) (a + 1) (by omega) (by rw [cntA, ha]; have h9 : k < b := lt_of_nle (by omega) c44; simp [bef, c24, c39, h9]) (by omega)
  refine r_sub (L' := [(3, .int (nI 0)), (2, .int (nI 0)), (0, .ref (mA G 11)), (1, .int (nI b))]) [0, 1, 2, 3] rfl ?_
  exact lp4 _ 0 0 (by omega) rfl (Nat.lt_succ_self _)

set_option maxRecDepth 20000 in
set_option maxHeartbeats 1000000 in
theorem c_X0_atPlace (l : Launch) (G : mG) (hG : mInj G) (M : Mem) (g : Glo) (V : View) (hT : wfT V) (hV : cBoi M 11 V) (x : Nat) (hx : x < vB V) : mcI l G yX0_atPlace cX0_atPlace 3 .int 2 [.ref (mA G 11), .int (nI x)] M g (fun r M' g' => r = nI (boilAt V x) ∧ M' = M ∧ g' = g) := by
  refine mcI_of (L0 := [(0, .ref (mA G 11)), (1, .int (nI x))]) hG (by decide) (Nat.le_of_ble_eq_true rfl) rfl ?_
  intro p e s m args below meth c Q C hend
  have hT0 := hT
  obtain ⟨hn1, hn16, hb4, ⟨hd0, hd3, hd5, hd6⟩, hpar⟩ := hT0
  obtain ⟨ha1, ha2, ha3⟩ := boilAt_spec V hx
  refine r_iconst (v := nI 0) C dX0_atPlace_0 rfl ?_
  refine r_istore_n (L' := [(2, .int (nI 0)), (0, .ref (mA G 11)), (1, .int (nI x))]) C dX0_atPlace_1 (by decide) rfl ?_
  have lp2 : ∀ (fu : Nat) (k : Nat), (k ≤ boilAt V x) → (vB V - k) < fu → At p l e (rmD 2 0 0) s m args below meth c G 3 0 0 Q M g [(2, .int (nI k)), (0, .ref (mA G 11)), (1, .int (nI x))] 2 [] := by
    intro fu
    induction fu with
    | zero => intro k hkn hfu; exact absurd hfu (Nat.not_lt_zero _)
    | succ fu ih2 =>
      intro k hkn hfu2
      refine r_iload_n C dX0_atPlace_2 0 rfl ?_
      refine r_aload_n C dX0_atPlace_3 1 rfl ?_
      refine r_geti C dX0_atPlace_4 3 f_X0_21 rfl rfl ?_
      refine r_valI (y := nI (vB V)) (hV.1) ?_
      refine r_icmp_ge (tgt := 27) C dX0_atPlace_7 (by decide) (fun h => absurd h ((nI_ge (by omega) (by omega) : ¬ nI (vB V) ≤ nI k))) (fun _ => ?_)
      refine r_aload_n C dX0_atPlace_10 1 rfl ?_
      refine r_iload_n C dX0_atPlace_11 0 rfl ?_
      refine r_callVI (As := [.int (nI k)]) (rest := []) C dX0_atPlace_12 s_X0_29 (c_X0_placeOf l G hG M g V hT hV k (by omega)) (by decide) rfl rfl rfl rfl (Nat.le_of_ble_eq_true rfl) (Nat.le_of_ble_eq_true rfl) (Nat.le_of_ble_eq_true rfl) (pk_I ?_)
      refine r_iload_n C dX0_atPlace_15 2 rfl ?_
      refine r_icmp_ne (tgt := 21) C dX0_atPlace_16 (by decide) (fun c16 => ?_) (fun c16 => ?_)
      ·
        refine r_iinc (v := nI (k + 1)) (L' := [(2, .int (nI (k + 1))), (0, .ref (mA G 11)), (1, .int (nI x))]) C dX0_atPlace_21 0 rfl (nI_inc _) (by decide) rfl ?_
        refine r_goto (tgt := 2) C dX0_atPlace_24 (by decide) ?_
        refine r_sub (L' := [(2, .int (nI (k + 1))), (0, .ref (mA G 11)), (1, .int (nI x))]) [0, 1, 2] rfl ?_
        exact ih2 (k + 1) (by have : k ≠ boilAt V x := (fun h => c16 (by rw [h, ha2])); omega) (by omega)
      ·
        refine r_iload_n C dX0_atPlace_19 0 rfl ?_
        exact hend _ _ _ _ _ dX0_atPlace_20 (rfl) (⟨congrArg nI (placeN_inj V (by omega) ha1 (((nI_eq (by have := placeN_lt V (b := k) (by omega); omega) (by omega)).mp c16).trans ha2.symm)), rfl, rfl⟩)
  refine r_sub (L' := [(2, .int (nI 0)), (0, .ref (mA G 11)), (1, .int (nI x))]) [0, 1, 2] rfl ?_
  exact lp2 _ 0 (by omega) (Nat.lt_succ_self _)

set_option maxRecDepth 20000 in
set_option maxHeartbeats 1000000 in
theorem c_X2_addUpTheTree (l : Launch) (G : mG) (hG : mInj G) (M : Mem) (g : Glo) (V : View) (hT : wfT V) (hV : cNet M 2 V) (r : Nat) (hr : lay r = (0, [16])) (hr9 : 70 < r) : mcV l G yX2_addUpTheTree cX2_addUpTheTree 3 2 [.ref (mA G 2), .ref (mA G r)] M g (fun M' g' => M' = mrow M r (addUp (vP V) (vN V - 1) (M r)) ∧ g' = g) := by
  refine mcV_of (L0 := [(0, .ref (mA G 2)), (1, .ref (mA G r))]) hG (by decide) (Nat.le_of_ble_eq_true rfl) rfl ?_
  intro p e s m args below meth c Q C hend
  have hT0 := hT
  obtain ⟨hn1, hn16, hb4, ⟨hd0, hd3, hd5, hd6⟩, hpar⟩ := hT0
  refine r_aload_n C dX2_addUpTheTree_0 0 rfl ?_
  refine r_geti C dX2_addUpTheTree_1 8 f_X2_65 rfl rfl ?_
  refine r_valI (y := nI (vN V)) (hV.1) ?_
  refine r_iconst (v := 1) C dX2_addUpTheTree_4 rfl ?_
  refine r_isub C dX2_addUpTheTree_5 ?_
  refine r_valI (y := nI (vN V - 1)) (pk_sub (by omega)) ?_
  refine r_istore_n (L' := [(2, .int (nI (vN V - 1))), (0, .ref (mA G 2)), (1, .ref (mA G r))]) C dX2_addUpTheTree_6 (by decide) rfl ?_
  have lp7 : ∀ (fu : Nat) (k : Nat) (f : Nat → Int32), (k < vN V) → (addUp (vP V) k f = addUp (vP V) (vN V - 1) (M r)) → k < fu → At p l e (rmD 2 0 0) s m args below meth c G 3 0 0 Q (mrow M r f) g [(2, .int (nI k)), (0, .ref (mA G 2)), (1, .ref (mA G r))] 7 [] := by
    intro fu
    induction fu with
    | zero => intro k f hkn hf hfu; exact absurd hfu (Nat.not_lt_zero _)
    | succ fu ih7 =>
      intro k f hkn hf hfu7
      have hV2 : cNet (mrow M r f) 2 V := hV.off (offR.row f (Nat.le_refl r) (Nat.le_refl r)) (by omega)
      refine r_iload_n C dX2_addUpTheTree_7 0 rfl ?_
      refine r_if_le (tgt := 39) C dX2_addUpTheTree_8 (by decide) (fun c8 => ?_) (fun c8 => ?_)
      ·
        have hk0 : k = 0 := by rcases Nat.eq_zero_or_pos k with q | q; exact q; exact absurd c8 (nI_nle q (by omega))
        exact hend _ _ _ _ dX2_addUpTheTree_39 (⟨by rw [← hf, hk0]; rfl, rfl⟩)
      ·
        have hk0 : 0 < k := by rcases Nat.eq_zero_or_pos k with q | q; exact absurd (by subst q; decide) c8; exact q
        have hpk := hpar k hk0 hkn
        refine r_aload_n C dX2_addUpTheTree_11 1 rfl ?_
        refine r_iload_n C dX2_addUpTheTree_12 0 rfl ?_
        refine r_callVI (As := [.int (nI k)]) (rest := []) C dX2_addUpTheTree_13 s_X2_122 (c_X3_hasParent l G hG (mrow M r f) g V hT hV2 k hk0 hkn) (by decide) rfl rfl rfl rfl (Nat.le_of_ble_eq_true rfl) (Nat.le_of_ble_eq_true rfl) (Nat.le_of_ble_eq_true rfl) (pk_I ?_)
        refine r_if_eq (tgt := 33) C dX2_addUpTheTree_16 (by decide) (fun h => absurd h (by decide)) (fun _ => ?_)
        refine r_aload_n C dX2_addUpTheTree_19 2 rfl ?_
        refine r_aload_n C dX2_addUpTheTree_20 1 rfl ?_
        refine r_getr (q2 := 3) C dX2_addUpTheTree_21 0 f_X2_126 rfl rfl ?_
        refine r_iload_n C dX2_addUpTheTree_24 0 rfl ?_
        refine r_ialdN (j := k) (v := nI (vP V k)) C dX2_addUpTheTree_25 rfl (rfl) (by omega) (by decide) ((hV2.at 0 (by decide) hkn).trans hpk.1) ?_
        refine r_dup2 C dX2_addUpTheTree_26 rfl rfl ?_
        refine r_ialdN (j := vP V k) (v := f (vP V k)) C dX2_addUpTheTree_27 (hr) (rfl) (by omega) (by decide) (by rw [mrow_at]) ?_
        refine r_aload_n C dX2_addUpTheTree_28 2 rfl ?_
        refine r_iload_n C dX2_addUpTheTree_29 0 rfl ?_
        refine r_ialdN (j := k) (v := f k) C dX2_addUpTheTree_30 (hr) (rfl) (by omega) (by decide) (by rw [mrow_at]) ?_
        refine r_iadd C dX2_addUpTheTree_31 ?_
        refine r_iastN (j := vP V k) C dX2_addUpTheTree_32 (hr) (rfl) (by omega) (by decide) ?_
        refine r_mem (M' := mrow M r (upd f (vP V k) (f (vP V k) + f k))) (mset_row _ _ _ _ _) ?_
        refine r_iinc (v := nI (k - 1)) (L' := [(2, .int (nI (k - 1))), (0, .ref (mA G 2)), (1, .ref (mA G r))]) C dX2_addUpTheTree_33 0 rfl (nI_dec1 (by omega)) (by decide) rfl ?_
        refine r_goto (tgt := 7) C dX2_addUpTheTree_36 (by decide) ?_
        refine r_sub (L' := [(2, .int (nI (k - 1))), (0, .ref (mA G 2)), (1, .ref (mA G r))]) [0, 1, 2] rfl ?_
        exact ih7 (k - 1) (upd f (vP V k) (f (vP V k) + f k)) (by omega) (by rw [← hf, addUp_s _ hk0]) (by omega)
  refine r_mem (M' := mrow M r (M r)) (mrow_self M r).symm ?_
  refine r_sub (L' := [(2, .int (nI (vN V - 1))), (0, .ref (mA G 2)), (1, .ref (mA G r))]) [0, 1, 2] rfl ?_
  exact lp7 _ (vN V - 1) (M r) (by omega) rfl (Nat.lt_succ_self _)

set_option maxRecDepth 20000 in
set_option maxHeartbeats 1000000 in
theorem c_X2_settleFlows (l : Launch) (G : mG) (hG : mInj G) (M : Mem) (g : Glo) (V : View) (hT : wfT V) (hV : cNet M 2 V) (H : Nat) (hH : isHour H) (hH9 : 70 < H) : mcV l G yX2_settleFlows cX2_settleFlows 3 3 [.ref (mA G H), .ref (mA G 2)] M g (fun M' g' => (∃ f, M' = mrow M (H + 1) f ∧ ∀ j, j < vN V → f j = flowF V j) ∧ g' = g) := by
  refine mcV_of (L0 := [(0, .ref (mA G H)), (1, .ref (mA G 2))]) hG (by decide) (Nat.le_of_ble_eq_true rfl) rfl ?_
  intro p e s m args below meth c Q C hend
  have hT0 := hT
  obtain ⟨hn1, hn16, hb4, ⟨hd0, hd3, hd5, hd6⟩, hpar⟩ := hT0
  refine r_iconst (v := nI 0) C dX2_settleFlows_0 rfl ?_
  refine r_istore_n (L' := [(2, .int (nI 0)), (0, .ref (mA G H)), (1, .ref (mA G 2))]) C dX2_settleFlows_1 (by decide) rfl ?_
  have lp2 : ∀ (fu : Nat) (k : Nat) (f : Nat → Int32), (k ≤ vN V) → (∀ j, j < k → f j = vD V 3 j + vD V 5 j) → (vN V - k) < fu → At p l e (rmD 3 0 0) s m args below meth c G 3 0 0 Q (mrow M (H + 1) f) g [(2, .int (nI k)), (0, .ref (mA G H)), (1, .ref (mA G 2))] 2 [] := by
    intro fu
    induction fu with
    | zero => intro k f hkn hf hfu; exact absurd hfu (Nat.not_lt_zero _)
    | succ fu ih2 =>
      intro k f hkn hf hfu2
      have hV2 : cNet (mrow M (H + 1) f) 2 V := hV.off (offR.row f (Nat.le_refl _) (Nat.le_refl _)) (by omega)
      refine r_iload_n C dX2_settleFlows_2 0 rfl ?_
      refine r_aload_n C dX2_settleFlows_3 2 rfl ?_
      refine r_geti C dX2_settleFlows_4 8 f_X2_65 rfl rfl ?_
      refine r_valI (y := nI (vN V)) (hV2.1) ?_
      refine r_icmp_ge (tgt := 35) C dX2_settleFlows_7 (by decide) (fun c7 => ?_) (fun c7 => ?_)
      ·
        have hkn2 : k = vN V := by have := le_of_le (by omega) (by omega) c7; omega
        refine r_aload_n C dX2_settleFlows_35 2 rfl ?_
        refine r_aload_n C dX2_settleFlows_36 1 rfl ?_
        refine r_getr (q2 := (H + 1)) C dX2_settleFlows_37 0 f_X2_9 (hH.1) rfl ?_
        refine r_callSV (As := [.ref (mA G 2), .ref (mA G (H + 1))]) (rest := []) C dX2_settleFlows_40 s_X2_76 (c_X2_addUpTheTree l G hG (mrow M (H + 1) f) g V hT hV2 (H + 1) hH.2.1 (by omega)) (by decide) rfl rfl (Nat.le_of_ble_eq_true rfl) (Nat.le_of_ble_eq_true rfl) (Nat.le_of_ble_eq_true rfl) (pk_V ?_)
        exact hend _ _ _ _ dX2_settleFlows_43 (⟨⟨_, mrow_mrow _ _ _ _, fun j hj => by rw [mrow_at]; exact addUp_cong (vN V - 1) _ _ (by omega) (fun j h1 h2 => (hpar j h1 (by omega)).2) (fun j hj => by by_cases e : j = 0; (subst e; rw [hf 0 (by omega), hd3, hd5]; rfl); rw [hf j (by omega), if_neg e]) j hj⟩, rfl⟩)
      ·
        have hlt : k < vN V := lt_of_nle (by omega) c7
        refine r_aload_n C dX2_settleFlows_10 1 rfl ?_
        refine r_getr (q2 := (H + 1)) C dX2_settleFlows_11 0 f_X2_9 (hH.1) rfl ?_
        refine r_iload_n C dX2_settleFlows_14 0 rfl ?_
        refine r_aload_n C dX2_settleFlows_15 2 rfl ?_
        refine r_getr (q2 := 6) C dX2_settleFlows_16 3 f_X2_70 rfl rfl ?_
        refine r_iload_n C dX2_settleFlows_19 0 rfl ?_
        refine r_ialdN (j := k) (v := vD V 3 k) C dX2_settleFlows_20 rfl (rfl) (by omega) (by decide) (hV2.at 3 (by decide) hlt) ?_
        refine r_aload_n C dX2_settleFlows_21 2 rfl ?_
        refine r_getr (q2 := 8) C dX2_settleFlows_22 5 f_X2_73 rfl rfl ?_
        refine r_iload_n C dX2_settleFlows_25 0 rfl ?_
        refine r_ialdN (j := k) (v := vD V 5 k) C dX2_settleFlows_26 rfl (rfl) (by omega) (by decide) (hV2.at 5 (by decide) hlt) ?_
        refine r_iadd C dX2_settleFlows_27 ?_
        refine r_iastN (j := k) C dX2_settleFlows_28 ((hH).2.1) (rfl) (by omega) (by decide) ?_
        refine r_mem (M' := mrow M (H + 1) (upd f k (vD V 3 k + vD V 5 k))) (mset_row _ _ _ _ _) ?_
        refine r_iinc (v := nI (k + 1)) (L' := [(2, .int (nI (k + 1))), (0, .ref (mA G H)), (1, .ref (mA G 2))]) C dX2_settleFlows_29 0 rfl (nI_inc _) (by decide) rfl ?_
        refine r_goto (tgt := 2) C dX2_settleFlows_32 (by decide) ?_
        refine r_sub (L' := [(2, .int (nI (k + 1))), (0, .ref (mA G H)), (1, .ref (mA G 2))]) [0, 1, 2] rfl ?_
        exact ih2 (k + 1) (upd f k (vD V 3 k + vD V 5 k)) (by omega) (fun j hj => by rcases Nat.lt_or_ge j k with q | q; rw [upd_ne (by omega)]; exact hf j q; (have e9 : j = k := by omega); subst e9; rw [upd_at]) (by omega)
  refine r_mem (M' := mrow M (H + 1) (M (H + 1))) (mrow_self _ _).symm ?_
  refine r_sub (L' := [(2, .int (nI 0)), (0, .ref (mA G H)), (1, .ref (mA G 2))]) [0, 1, 2] rfl ?_
  exact lp2 _ 0 (M (H + 1)) (by omega) (fun j hj => by omega) (Nat.lt_succ_self _)

set_option maxRecDepth 20000 in
set_option maxHeartbeats 1000000 in
theorem c_X2_warmthBehind (l : Launch) (G : mG) (hG : mInj G) (M : Mem) (g : Glo) (a b w f : Int32) (hz : ¬ f ≤ 0 → ¬ 1000 * f = 0) : mcI l G yX2_warmthBehind cX2_warmthBehind 5 .int 1 [.int a, .int b, .int w, .int f] M g (fun r M' g' => r = behindF a b w f ∧ M' = M ∧ g' = g) := by
  refine mcI_of (L0 := [(0, .int a), (1, .int b), (2, .int w), (3, .int f)]) hG (by decide) (Nat.le_of_ble_eq_true rfl) rfl ?_
  intro p e s m args below meth c Q C hend
  refine r_iload_n C dX2_warmthBehind_0 3 rfl ?_
  refine r_if_gt (tgt := 10) C dX2_warmthBehind_1 (by decide) (fun c1 => ?_) (fun c1 => ?_)
  ·
    refine r_iload_n C dX2_warmthBehind_10 0 rfl ?_
    refine r_iload_n C dX2_warmthBehind_11 1 rfl ?_
    refine r_icmp_gt (tgt := 17) C dX2_warmthBehind_12 (by decide) (fun c12 => ?_) (fun c12 => ?_)
    ·
      refine r_iload_n C dX2_warmthBehind_17 0 rfl ?_
      refine r_iload_n C dX2_warmthBehind_18 1 rfl ?_
      refine r_isub C dX2_warmthBehind_19 ?_
      refine r_istore (L' := [(4, .int (a - b)), (0, .int a), (1, .int b), (2, .int w), (3, .int f)]) C dX2_warmthBehind_20 (by decide) rfl ?_
      refine r_iload_n C dX2_warmthBehind_22 1 rfl ?_
      refine r_iload C dX2_warmthBehind_23 0 rfl ?_
      refine r_iload C dX2_warmthBehind_25 0 rfl ?_
      refine r_iload_n C dX2_warmthBehind_27 3 rfl ?_
      refine r_imul C dX2_warmthBehind_28 ?_
      refine r_sipush (v := 1000) C dX2_warmthBehind_29 rfl ?_
      refine r_iload_n C dX2_warmthBehind_32 4 rfl ?_
      refine r_imul C dX2_warmthBehind_33 ?_
      refine r_idiv C dX2_warmthBehind_34 (hz (i32_nle.mpr c1)) ?_
      refine r_min (v := minI (a - b) ((a - b) * w / (1000 * f))) C dX2_warmthBehind_35 s_X2_110 (Nat.le_of_ble_eq_true rfl) (Nat.le_of_ble_eq_true rfl) (Nat.le_of_ble_eq_true rfl) (rfl) ?_
      refine r_isub C dX2_warmthBehind_38 ?_
      exact hend _ _ _ _ _ dX2_warmthBehind_39 (rfl) (⟨by unfold behindF; rw [if_neg (i32_nle.mpr c1), if_neg (i32_nle.mpr c12)], rfl, rfl⟩)
    ·
      refine r_iload_n C dX2_warmthBehind_15 0 rfl ?_
      exact hend _ _ _ _ _ dX2_warmthBehind_16 (rfl) (⟨by unfold behindF; rw [if_neg (i32_nle.mpr c1), if_pos (i32_nlt.mp c12)], rfl, rfl⟩)
  ·
    refine r_iload_n C dX2_warmthBehind_4 0 rfl ?_
    refine r_iload_n C dX2_warmthBehind_5 1 rfl ?_
    refine r_min (v := minI a b) C dX2_warmthBehind_6 s_X2_110 (Nat.le_of_ble_eq_true rfl) (Nat.le_of_ble_eq_true rfl) (Nat.le_of_ble_eq_true rfl) (rfl) ?_
    exact hend _ _ _ _ _ dX2_warmthBehind_9 (rfl) (⟨by unfold behindF; rw [if_pos (i32_nlt.mp c1)], rfl, rfl⟩)

set_option maxRecDepth 20000 in
set_option maxHeartbeats 1000000 in
theorem c_X2_warmthAbove (l : Launch) (G : mG) (hG : mInj G) (M : Mem) (g : Glo) (V : View) (hT : wfT V) (hV : cNet M 2 V) (H : Nat) (hH : isHour H) (hH9 : 70 < H) (j : Nat) (h0 : 0 < j) (hj : j < vN V) : mcI l G yX2_warmthAbove cX2_warmthAbove 3 .int 2 [.ref (mA G H), .ref (mA G 2), .int (nI j)] M g (fun r M' g' => r = M (H + 2) (vP V j) ∧ M' = M ∧ g' = g) := by
  refine mcI_of (L0 := [(0, .ref (mA G H)), (1, .ref (mA G 2)), (2, .int (nI j))]) hG (by decide) (Nat.le_of_ble_eq_true rfl) rfl ?_
  intro p e s m args below meth c Q C hend
  have hT0 := hT
  obtain ⟨hn1, hn16, hb4, ⟨hd0, hd3, hd5, hd6⟩, hpar⟩ := hT0
  obtain ⟨hp1, hp2⟩ := hpar j h0 hj
  refine r_aload_n C dX2_warmthAbove_0 1 rfl ?_
  refine r_iload_n C dX2_warmthAbove_1 2 rfl ?_
  refine r_callVI (As := [.int (nI j)]) (rest := []) C dX2_warmthAbove_2 s_X2_122 (c_X3_hasParent l G hG M g V hT hV j h0 hj) (by decide) rfl rfl rfl rfl (Nat.le_of_ble_eq_true rfl) (Nat.le_of_ble_eq_true rfl) (Nat.le_of_ble_eq_true rfl) (pk_I ?_)
  refine r_if_eq (tgt := 22) C dX2_warmthAbove_5 (by decide) (fun h => absurd h (by decide)) (fun _ => ?_)
  refine r_aload_n C dX2_warmthAbove_8 0 rfl ?_
  refine r_getr (q2 := (H + 2)) C dX2_warmthAbove_9 1 f_X2_15 (hH.1) rfl ?_
  refine r_aload_n C dX2_warmthAbove_12 1 rfl ?_
  refine r_getr (q2 := 3) C dX2_warmthAbove_13 0 f_X2_126 rfl rfl ?_
  refine r_iload_n C dX2_warmthAbove_16 2 rfl ?_
  refine r_ialdN (j := j) (v := nI (vP V j)) C dX2_warmthAbove_17 rfl (rfl) (by omega) (by decide) ((hV.at 0 (by decide) hj).trans hp1) ?_
  refine r_ialdN (j := vP V j) (v := M (H + 2) (vP V j)) C dX2_warmthAbove_18 ((hH).2.2.1) (rfl) (by omega) (by decide) (rfl) ?_
  refine r_goto (tgt := 23) C dX2_warmthAbove_19 (by decide) ?_
  exact hend _ _ _ _ _ dX2_warmthAbove_23 (rfl) (⟨rfl, rfl, rfl⟩)

set_option maxRecDepth 20000 in
set_option maxHeartbeats 1000000 in
theorem c_X2_returnOf (l : Launch) (G : mG) (hG : mInj G) (M : Mem) (g : Glo) (V : View) (hT : wfT V) (hV : cNet M 2 V) (H : Nat) (hH : isHour H) (hH9 : 70 < H) (j : Nat) (hj : j < vN V) : mcI l G yX2_returnOf cX2_returnOf 3 .int 1 [.ref (mA G H), .ref (mA G 2), .int (nI j)] M g (fun r M' g' => r = minI (vD V 4 j) (M (H + 2) j) ∧ M' = M ∧ g' = g) := by
  refine mcI_of (L0 := [(0, .ref (mA G H)), (1, .ref (mA G 2)), (2, .int (nI j))]) hG (by decide) (Nat.le_of_ble_eq_true rfl) rfl ?_
  intro p e s m args below meth c Q C hend
  have hT0 := hT
  obtain ⟨hn1, hn16, hb4, ⟨hd0, hd3, hd5, hd6⟩, hpar⟩ := hT0
  refine r_aload_n C dX2_returnOf_0 1 rfl ?_
  refine r_getr (q2 := 7) C dX2_returnOf_1 4 f_X2_119 rfl rfl ?_
  refine r_iload_n C dX2_returnOf_4 2 rfl ?_
  refine r_ialdN (j := j) (v := vD V 4 j) C dX2_returnOf_5 rfl (rfl) (by omega) (by decide) (hV.at 4 (by decide) hj) ?_
  refine r_aload_n C dX2_returnOf_6 0 rfl ?_
  refine r_getr (q2 := (H + 2)) C dX2_returnOf_7 1 f_X2_15 (hH.1) rfl ?_
  refine r_iload_n C dX2_returnOf_10 2 rfl ?_
  refine r_ialdN (j := j) (v := M (H + 2) j) C dX2_returnOf_11 ((hH).2.2.1) (rfl) (by omega) (by decide) (rfl) ?_
  refine r_min (v := minI (vD V 4 j) (M (H + 2) j)) C dX2_returnOf_12 s_X2_110 (Nat.le_of_ble_eq_true rfl) (Nat.le_of_ble_eq_true rfl) (Nat.le_of_ble_eq_true rfl) (rfl) ?_
  exact hend _ _ _ _ _ dX2_returnOf_15 (rfl) (⟨rfl, rfl, rfl⟩)

set_option maxRecDepth 20000 in
set_option maxHeartbeats 1000000 in
theorem c_X2_settleWarmth (l : Launch) (G : mG) (hG : mInj G) (M : Mem) (g : Glo) (V : View) (hT : wfT V) (hV : cNet M 2 V) (H : Nat) (hH : isHour H) (hH9 : 70 < H) (sup : Int32) (hgd : M 1 3 = vS V 1) (hfl : ∀ j, j < vN V → M (H + 1) j = flowF V j) (hdv : ∀ j, 0 < j → j < vN V → ¬ flowF V j ≤ 0 → ¬ 1000 * flowF V j = 0) : mcV l G yX2_settleWarmth cX2_settleWarmth 6 3 [.ref (mA G H), .ref (mA G 1), .int sup] M g (fun M' g' => (∃ f, M' = mrow M (H + 2) f ∧ ∀ j, j < vN V → f j = warmF V sup j) ∧ g' = g) := by
  refine mcV_of (L0 := [(0, .ref (mA G H)), (1, .ref (mA G 1)), (2, .int sup)]) hG (by decide) (Nat.le_of_ble_eq_true rfl) rfl ?_
  intro p e s m args below meth c Q C hend
  have hT0 := hT
  obtain ⟨hn1, hn16, hb4, ⟨hd0, hd3, hd5, hd6⟩, hpar⟩ := hT0
  refine r_aload_n C dX2_settleWarmth_0 1 rfl ?_
  refine r_getr (q2 := 2) C dX2_settleWarmth_1 0 f_X2_34 rfl rfl ?_
  refine r_astore_n (L' := [(3, .ref (mA G 2)), (0, .ref (mA G H)), (1, .ref (mA G 1)), (2, .int sup)]) C dX2_settleWarmth_4 (by decide) rfl ?_
  refine r_aload_n C dX2_settleWarmth_5 1 rfl ?_
  refine r_getr (q2 := (H + 2)) C dX2_settleWarmth_6 1 f_X2_15 (hH.1) rfl ?_
  refine r_iconst (v := 0) C dX2_settleWarmth_9 rfl ?_
  refine r_iload_n C dX2_settleWarmth_10 3 rfl ?_
  refine r_iastN (j := 0) C dX2_settleWarmth_11 ((hH).2.2.1) (rfl) (by omega) (by decide) ?_
  refine r_mem (M' := mrow M (H + 2) (upd (M (H + 2)) 0 sup)) (rfl) ?_
  refine r_iconst (v := nI 1) C dX2_settleWarmth_12 rfl ?_
  refine r_istore (L' := [(4, .int (nI 1)), (3, .ref (mA G 2)), (0, .ref (mA G H)), (1, .ref (mA G 1)), (2, .int sup)]) C dX2_settleWarmth_13 (by decide) rfl ?_
  have lp15 : ∀ (fu : Nat) (k : Nat) (f : Nat → Int32), (0 < k) → (k ≤ vN V) → (∀ j, j < k → f j = warmF V sup j) → (vN V - k) < fu → At p l e (rmD 3 0 0) s m args below meth c G 6 0 0 Q (mrow M (H + 2) f) g [(4, .int (nI k)), (3, .ref (mA G 2)), (0, .ref (mA G H)), (1, .ref (mA G 1)), (2, .int sup)] 15 [] := by
    intro fu
    induction fu with
    | zero => intro k f hk0 hkn hf hfu; exact absurd hfu (Nat.not_lt_zero _)
    | succ fu ih15 =>
      intro k f hk0 hkn hf hfu15
      have hV2 : cNet (mrow M (H + 2) f) 2 V := hV.off (offR.row f (Nat.le_refl _) (Nat.le_refl _)) (by omega)
      refine r_iload C dX2_settleWarmth_15 0 rfl ?_
      refine r_aload_n C dX2_settleWarmth_17 1 rfl ?_
      refine r_geti C dX2_settleWarmth_18 8 f_X2_65 rfl rfl ?_
      refine r_valI (y := nI (vN V)) (hV2.1) ?_
      refine r_icmp_ge (tgt := 77) C dX2_settleWarmth_21 (by decide) (fun c21 => ?_) (fun c21 => ?_)
      ·
        have hkn2 : k = vN V := by have := le_of_le (by omega) (by omega) c21; omega
        exact hend _ _ _ _ dX2_settleWarmth_77 (⟨⟨_, rfl, fun j hj => hf j (by omega)⟩, rfl⟩)
      ·
        have hlt : k < vN V := lt_of_nle (by omega) c21
        refine r_aload_n C dX2_settleWarmth_24 1 rfl ?_
        refine r_getr (q2 := 5) C dX2_settleWarmth_25 2 f_X2_80 rfl rfl ?_
        refine r_iload C dX2_settleWarmth_28 0 rfl ?_
        refine r_ialdN (j := k) (v := vD V 2 k) C dX2_settleWarmth_30 rfl (rfl) (by omega) (by decide) (hV2.at 2 (by decide) hlt) ?_
        refine r_aload_n C dX2_settleWarmth_31 1 rfl ?_
        refine r_getr (q2 := 4) C dX2_settleWarmth_32 1 f_X2_83 rfl rfl ?_
        refine r_iload C dX2_settleWarmth_35 0 rfl ?_
        refine r_ialdN (j := k) (v := vD V 1 k) C dX2_settleWarmth_37 rfl (rfl) (by omega) (by decide) (hV2.at 1 (by decide) hlt) ?_
        refine r_imul C dX2_settleWarmth_38 ?_
        refine r_istore (L' := [(5, .int ((vD V 2 k) * (vD V 1 k))), (4, .int (nI k)), (3, .ref (mA G 2)), (0, .ref (mA G H)), (1, .ref (mA G 1)), (2, .int sup)]) C dX2_settleWarmth_39 (by decide) rfl ?_
        refine r_aload_n C dX2_settleWarmth_41 3 rfl ?_
        refine r_getr (q2 := (H + 2)) C dX2_settleWarmth_42 1 f_X2_15 (hH.1) rfl ?_
        refine r_iload C dX2_settleWarmth_45 1 rfl ?_
        refine r_aload_n C dX2_settleWarmth_47 3 rfl ?_
        refine r_aload_n C dX2_settleWarmth_48 2 rfl ?_
        refine r_iload C dX2_settleWarmth_49 1 rfl ?_
        refine r_callVI (As := [.ref (mA G 2), .int (nI k)]) (rest := [.int (nI k), .ref (mA G (H + 2))]) C dX2_settleWarmth_51 s_X2_86 (c_X2_warmthAbove l G hG (mrow M (H + 2) f) g V hT hV2 H hH hH9 k hk0 hlt) (by decide) (hH.1) rfl rfl rfl (Nat.le_of_ble_eq_true rfl) (Nat.le_of_ble_eq_true rfl) (Nat.le_of_ble_eq_true rfl) (pk_I ?_)
        refine r_valI (y := f (vP V k)) (by rw [mrow_at]) ?_
        refine r_aload_n C dX2_settleWarmth_54 4 rfl ?_
        refine r_geti C dX2_settleWarmth_55 3 f_X2_90 rfl rfl ?_
        refine r_valI (y := vS V 1) ((congrFun (mrow_ne (by omega) f) 3).trans hgd) ?_
        refine r_iload C dX2_settleWarmth_58 0 rfl ?_
        refine r_aload_n C dX2_settleWarmth_60 3 rfl ?_
        refine r_getr (q2 := (H + 1)) C dX2_settleWarmth_61 0 f_X2_9 (hH.1) rfl ?_
        refine r_iload C dX2_settleWarmth_64 1 rfl ?_
        refine r_ialdN (j := k) (v := flowF V k) C dX2_settleWarmth_66 ((hH).2.1) (rfl) (by omega) (by decide) ((congrFun (mrow_ne (by omega) f) k).trans (hfl k hlt)) ?_
        refine r_callSI (As := [.int (f (vP V k)), .int (vS V 1), .int ((vD V 2 k) * (vD V 1 k)), .int (flowF V k)]) (rest := [.int (nI k), .ref (mA G (H + 2))]) C dX2_settleWarmth_67 s_X2_93 (c_X2_warmthBehind l G hG (mrow M (H + 2) f) g (f (vP V k)) (vS V 1) (vD V 2 k * vD V 1 k) (flowF V k) (hdv k hk0 hlt)) (by decide) rfl rfl (Nat.le_of_ble_eq_true rfl) (Nat.le_of_ble_eq_true rfl) (Nat.le_of_ble_eq_true rfl) (pk_I ?_)
        refine r_iastN (j := k) C dX2_settleWarmth_70 ((hH).2.2.1) (rfl) (by omega) (by decide) ?_
        refine r_mem (M' := mrow M (H + 2) (upd f k (behindF (f (vP V k)) (vS V 1) (vD V 2 k * vD V 1 k) (flowF V k)))) (mset_row _ _ _ _ _) ?_
        refine r_iinc (v := nI (k + 1)) (L' := [(4, .int (nI (k + 1))), (5, .int ((vD V 2 k) * (vD V 1 k))), (3, .ref (mA G 2)), (0, .ref (mA G H)), (1, .ref (mA G 1)), (2, .int sup)]) C dX2_settleWarmth_71 1 rfl (nI_inc _) (by decide) rfl ?_
        refine r_goto (tgt := 15) C dX2_settleWarmth_74 (by decide) ?_
        refine r_sub (L' := [(4, .int (nI (k + 1))), (3, .ref (mA G 2)), (0, .ref (mA G H)), (1, .ref (mA G 1)), (2, .int sup)]) [0, 2, 3, 4, 5] rfl ?_
        exact ih15 (k + 1) _ (by omega) (by omega) (fun j hj => by rcases Nat.lt_or_ge j k with q | q; rw [upd_ne (by omega)]; exact hf j q; (have e9 : j = k := by omega); subst e9; rw [upd_at, warmF_s V sup hk0 (hpar j hk0 hlt).2, hf _ (hpar j hk0 hlt).2]; rfl) (by omega)
  refine r_sub (L' := [(4, .int (nI 1)), (3, .ref (mA G 2)), (0, .ref (mA G H)), (1, .ref (mA G 1)), (2, .int sup)]) [0, 1, 2, 3, 4] rfl ?_
  exact lp15 _ 1 (upd (M (H + 2)) 0 sup) (by omega) hn1 (fun j hj => by (have e9 : j = 0 := by omega); subst e9; rw [upd_at, warmF_0]) (Nat.lt_succ_self _)

set_option maxRecDepth 20000 in
set_option maxHeartbeats 1000000 in
theorem c_X2_settleReturns (l : Launch) (G : mG) (hG : mInj G) (M : Mem) (g : Glo) (V : View) (hT : wfT V) (hV : cNet M 2 V) (H : Nat) (hH : isHour H) (hH9 : 70 < H) (sup : Int32) (hw : ∀ j, j < vN V → M (H + 2) j = warmF V sup j) : mcV l G yX2_settleReturns cX2_settleReturns 3 3 [.ref (mA G H), .ref (mA G 2)] M g (fun M' g' => (∃ f, M' = mrow M (H + 3) f ∧ ∀ j, j < vN V → f j = backF V sup j) ∧ g' = g) := by
  refine mcV_of (L0 := [(0, .ref (mA G H)), (1, .ref (mA G 2))]) hG (by decide) (Nat.le_of_ble_eq_true rfl) rfl ?_
  intro p e s m args below meth c Q C hend
  have hT0 := hT
  obtain ⟨hn1, hn16, hb4, ⟨hd0, hd3, hd5, hd6⟩, hpar⟩ := hT0
  refine r_iconst (v := nI 0) C dX2_settleReturns_0 rfl ?_
  refine r_istore_n (L' := [(2, .int (nI 0)), (0, .ref (mA G H)), (1, .ref (mA G 2))]) C dX2_settleReturns_1 (by decide) rfl ?_
  have lp2 : ∀ (fu : Nat) (k : Nat) (f : Nat → Int32), (k ≤ vN V) → (∀ j, j < k → f j = vD V 3 j * rF V sup j) → (vN V - k) < fu → At p l e (rmD 3 0 0) s m args below meth c G 3 0 0 Q (mrow M (H + 3) f) g [(2, .int (nI k)), (0, .ref (mA G H)), (1, .ref (mA G 2))] 2 [] := by
    intro fu
    induction fu with
    | zero => intro k f hkn hf hfu; exact absurd hfu (Nat.not_lt_zero _)
    | succ fu ih2 =>
      intro k f hkn hf hfu2
      have hV2 : cNet (mrow M (H + 3) f) 2 V := hV.off (offR.row f (Nat.le_refl _) (Nat.le_refl _)) (by omega)
      refine r_iload_n C dX2_settleReturns_2 0 rfl ?_
      refine r_aload_n C dX2_settleReturns_3 2 rfl ?_
      refine r_geti C dX2_settleReturns_4 8 f_X2_65 rfl rfl ?_
      refine r_valI (y := nI (vN V)) (hV2.1) ?_
      refine r_icmp_ge (tgt := 35) C dX2_settleReturns_7 (by decide) (fun c7 => ?_) (fun c7 => ?_)
      ·
        have hkn2 : k = vN V := by have := le_of_le (by omega) (by omega) c7; omega
        refine r_aload_n C dX2_settleReturns_35 2 rfl ?_
        refine r_aload_n C dX2_settleReturns_36 1 rfl ?_
        refine r_getr (q2 := (H + 3)) C dX2_settleReturns_37 2 f_X2_18 (hH.1) rfl ?_
        refine r_callSV (As := [.ref (mA G 2), .ref (mA G (H + 3))]) (rest := []) C dX2_settleReturns_40 s_X2_76 (c_X2_addUpTheTree l G hG (mrow M (H + 3) f) g V hT hV2 (H + 3) hH.2.2.2.1 (by omega)) (by decide) rfl rfl (Nat.le_of_ble_eq_true rfl) (Nat.le_of_ble_eq_true rfl) (Nat.le_of_ble_eq_true rfl) (pk_V ?_)
        exact hend _ _ _ _ dX2_settleReturns_43 (⟨⟨_, mrow_mrow _ _ _ _, fun j hj => by rw [mrow_at]; exact addUp_cong (vN V - 1) _ _ (by omega) (fun j h1 h2 => (hpar j h1 (by omega)).2) (fun j hj => by by_cases e : j = 0; (subst e; rw [hf 0 (by omega), hd3, if_pos rfl, Int32.zero_mul]); rw [hf j (by omega), if_neg e]) j hj⟩, rfl⟩)
      ·
        have hlt : k < vN V := lt_of_nle (by omega) c7
        refine r_aload_n C dX2_settleReturns_10 1 rfl ?_
        refine r_getr (q2 := (H + 3)) C dX2_settleReturns_11 2 f_X2_18 (hH.1) rfl ?_
        refine r_iload_n C dX2_settleReturns_14 0 rfl ?_
        refine r_aload_n C dX2_settleReturns_15 2 rfl ?_
        refine r_getr (q2 := 6) C dX2_settleReturns_16 3 f_X2_70 rfl rfl ?_
        refine r_iload_n C dX2_settleReturns_19 0 rfl ?_
        refine r_ialdN (j := k) (v := vD V 3 k) C dX2_settleReturns_20 rfl (rfl) (by omega) (by decide) (hV2.at 3 (by decide) hlt) ?_
        refine r_aload_n C dX2_settleReturns_21 1 rfl ?_
        refine r_aload_n C dX2_settleReturns_22 2 rfl ?_
        refine r_iload_n C dX2_settleReturns_23 0 rfl ?_
        refine r_callVI (As := [.ref (mA G 2), .int (nI k)]) (rest := [.int (vD V 3 k), .int (nI k), .ref (mA G (H + 3))]) C dX2_settleReturns_24 s_X2_97 (c_X2_returnOf l G hG (mrow M (H + 3) f) g V hT hV2 H hH hH9 k hlt) (by decide) (hH.1) rfl rfl rfl (Nat.le_of_ble_eq_true rfl) (Nat.le_of_ble_eq_true rfl) (Nat.le_of_ble_eq_true rfl) (pk_I ?_)
        refine r_valI (y := rF V sup k) (by rw [mrow_ne (by omega), hw k hlt]; rfl) ?_
        refine r_imul C dX2_settleReturns_27 ?_
        refine r_iastN (j := k) C dX2_settleReturns_28 ((hH).2.2.2.1) (rfl) (by omega) (by decide) ?_
        refine r_mem (M' := mrow M (H + 3) (upd f k (vD V 3 k * rF V sup k))) (mset_row _ _ _ _ _) ?_
        refine r_iinc (v := nI (k + 1)) (L' := [(2, .int (nI (k + 1))), (0, .ref (mA G H)), (1, .ref (mA G 2))]) C dX2_settleReturns_29 0 rfl (nI_inc _) (by decide) rfl ?_
        refine r_goto (tgt := 2) C dX2_settleReturns_32 (by decide) ?_
        refine r_sub (L' := [(2, .int (nI (k + 1))), (0, .ref (mA G H)), (1, .ref (mA G 2))]) [0, 1, 2] rfl ?_
        exact ih2 (k + 1) (upd f k (vD V 3 k * rF V sup k)) (by omega) (fun j hj => by rcases Nat.lt_or_ge j k with q | q; rw [upd_ne (by omega)]; exact hf j q; (have e9 : j = k := by omega); subst e9; rw [upd_at]) (by omega)
  refine r_mem (M' := mrow M (H + 3) (M (H + 3))) (mrow_self _ _).symm ?_
  refine r_sub (L' := [(2, .int (nI 0)), (0, .ref (mA G H)), (1, .ref (mA G 2))]) [0, 1, 2] rfl ?_
  exact lp2 _ 0 (M (H + 3)) (by omega) (fun j hj => by omega) (Nat.lt_succ_self _)
