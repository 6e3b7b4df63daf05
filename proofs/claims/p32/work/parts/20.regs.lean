set_option maxRecDepth 20000 in
set_option maxHeartbeats 1000000 in
theorem c_X5_hasMeter (l : Launch) (G : mG) (hG : mInj G) (M : Mem) (g : Glo) (Z : Nat) (hZ : isRegs Z) (hZ9 : 70 < Z) (j : Nat) (hj : j < 16) : mcI l G yX5_hasMeter cX5_hasMeter 2 .boolean 1 [.ref (mA G Z), .int (nI j)] M g (fun r M' g' => r = b2i (decide (j = 0 ∨ ¬ M (Z + 1) j = 0)) ∧ M' = M ∧ g' = g) := by
  refine mcI_of (L0 := [(0, .ref (mA G Z)), (1, .int (nI j))]) hG (by decide) (Nat.le_of_ble_eq_true rfl) rfl ?_
  intro p e s m args below meth c Q C hend
  refine r_iload_n C dX5_hasMeter_0 1 rfl ?_
  refine r_if_eq (tgt := 13) C dX5_hasMeter_1 (by decide) (fun c1 => ?_) (fun c1 => ?_)
  ·
    refine r_iconst (v := 1) C dX5_hasMeter_13 rfl ?_
    refine r_goto (tgt := 18) C dX5_hasMeter_14 (by decide) ?_
    exact hend _ _ _ _ _ dX5_hasMeter_18 (rfl) (⟨by have : j = 0 := (nI_eq (b := 0) (by omega) (by omega)).mp c1; simp [b2i, this], rfl, rfl⟩)
  ·
    refine r_aload_n C dX5_hasMeter_4 0 rfl ?_
    refine r_getr (q2 := (Z + 1)) C dX5_hasMeter_5 0 f_X5_9 (hZ.1) rfl ?_
    refine r_iload_n C dX5_hasMeter_8 1 rfl ?_
    refine r_ialdN (j := j) (v := M (Z + 1) j) C dX5_hasMeter_9 ((hZ).2.1) (rfl) (by omega) (by decide) (rfl) ?_
    refine r_if_eq (tgt := 17) C dX5_hasMeter_10 (by decide) (fun c10 => ?_) (fun c10 => ?_)
    ·
      refine r_iconst (v := 0) C dX5_hasMeter_17 rfl ?_
      exact hend _ _ _ _ _ dX5_hasMeter_18 (rfl) (⟨by have h9 : ¬ j = 0 := fun h => c1 (by rw [h]; rfl); simp [b2i, h9, c10], rfl, rfl⟩)
    ·
      refine r_iconst (v := 1) C dX5_hasMeter_13 rfl ?_
      refine r_goto (tgt := 18) C dX5_hasMeter_14 (by decide) ?_
      exact hend _ _ _ _ _ dX5_hasMeter_18 (rfl) (⟨by have h9 : ¬ j = 0 := fun h => c1 (by rw [h]; rfl); simp [b2i, h9, c10], rfl, rfl⟩)

theorem two_nI : (2 : Int32) = nI 2 := rfl
theorem nI_one : (1 : Int32) = nI 1 := rfl

set_option maxRecDepth 20000 in
set_option maxHeartbeats 1000000 in
theorem c_X5_takeMeters (l : Launch) (G : mG) (hG : mInj G) (M : Mem) (g : Glo) (Z : Nat) (hZ : isRegs Z) (hZ9 : 70 < Z) : mcV l G yX5_takeMeters cX5_takeMeters 2 2 [.ref (mA G Z), .ref (mA G 2)] M g (fun M' g' => (∃ f, M' = mrow M (Z + 1) f ∧ ∀ j, j < 16 → f j = M 9 j) ∧ g' = g) := by
  refine mcV_of (L0 := [(0, .ref (mA G Z)), (1, .ref (mA G 2))]) hG (by decide) (Nat.le_of_ble_eq_true rfl) rfl ?_
  intro p e s m args below meth c Q C hend
  refine r_aload_n C dX5_takeMeters_0 1 rfl ?_
  refine r_getr (q2 := 9) C dX5_takeMeters_1 6 f_X5_31 rfl rfl ?_
  refine r_aload_n C dX5_takeMeters_4 0 rfl ?_
  refine r_getr (q2 := (Z + 1)) C dX5_takeMeters_5 0 f_X5_9 (hZ.1) rfl ?_
  refine r_callNV (As := [.ref (mA G 9), .ref (mA G (Z + 1))]) (rest := []) C dX5_takeMeters_8 s_X5_34 (c_X7_copyRow16 l G hG M g 9 (Z + 1) rfl hZ.2.1) (by decide) rfl rfl (Nat.le_of_ble_eq_true rfl) (Nat.le_of_ble_eq_true rfl) (Nat.le_of_ble_eq_true rfl) (fun M8 g8 hp8 => ?_)
  obtain ⟨⟨f, rfl, hf⟩, eg8⟩ := hp8
  rw [eg8]
  exact hend _ _ _ _ dX5_takeMeters_11 (⟨⟨f, rfl, hf⟩, rfl⟩)

set_option maxRecDepth 20000 in
set_option maxHeartbeats 1000000 in
theorem c_X5_clearCounts (l : Launch) (G : mG) (hG : mInj G) (M : Mem) (g : Glo) (Z : Nat) (hZ : isRegs Z) (hZ9 : 70 < Z) (n : Nat) (hn : n ≤ 16) (hc : M Z 5 = nI n) : mcV l G yX5_clearCounts cX5_clearCounts 2 1 [.ref (mA G Z)] M g (fun M' g' => (∃ f2 f3 f4 f5, M' = mR M Z (nI n) f2 f3 f4 f5 ∧ f2 0 = 0 ∧ ∀ j, j < n → f3 j = (if j = 0 then 0 else 1) ∧ f4 j = 0 ∧ f5 j = 0) ∧ g' = g) := by
  refine mcV_of (L0 := [(0, .ref (mA G Z))]) hG (by decide) (Nat.le_of_ble_eq_true rfl) rfl ?_
  intro p e s m args below meth c Q C hend
  refine r_mem (M' := mR M Z (nI n) (M (Z + 2)) (M (Z + 3)) (M (Z + 4)) (M (Z + 5))) (mR_id hc) ?_
  refine r_aload_n C dX5_clearCounts_0 0 rfl ?_
  refine r_getr (q2 := (Z + 2)) C dX5_clearCounts_1 1 f_X5_15 (hZ.1) rfl ?_
  refine r_iconst (v := 0) C dX5_clearCounts_4 rfl ?_
  refine r_iconst (v := 0) C dX5_clearCounts_5 rfl ?_
  refine r_iastN (j := 0) C dX5_clearCounts_6 ((hZ).2.2.1) (rfl) (by omega) (by decide) ?_
  refine r_mem (M' := mR M Z (nI n) (upd (M (Z + 2)) 0 0) (M (Z + 3)) (M (Z + 4)) (M (Z + 5))) (mR_s2) ?_
  refine r_iconst (v := nI 0) C dX5_clearCounts_7 rfl ?_
  refine r_istore_n (L' := [(1, .int (nI 0)), (0, .ref (mA G Z))]) C dX5_clearCounts_8 (by decide) rfl ?_
  have lp9 : ∀ (fu : Nat) (k : Nat) (f2 f3 f4 f5 : Nat → Int32), (k ≤ n) → (f2 0 = 0) → (∀ j, j < k → f3 j = (if j = 0 then 0 else 1) ∧ f4 j = 0 ∧ f5 j = 0) → (n - k) < fu → At p l e (rmD 1 0 0) s m args below meth c G 2 0 0 Q (mR M Z (nI n) (f2) (f3) (f4) (f5)) g [(1, .int (nI k)), (0, .ref (mA G Z))] 9 [] := by
    intro fu
    induction fu with
    | zero => intro k f2 f3 f4 f5 hkn h2 hf hfu; exact absurd hfu (Nat.not_lt_zero _)
    | succ fu ih9 =>
      intro k f2 f3 f4 f5 hkn h2 hf hfu9
      refine r_iload_n C dX5_clearCounts_9 0 rfl ?_
      refine r_aload_n C dX5_clearCounts_10 1 rfl ?_
      refine r_geti C dX5_clearCounts_11 5 f_X5_27 (hZ.1) rfl ?_
      refine r_valI (y := nI n) (mR_c) ?_
      refine r_icmp_ge (tgt := 52) C dX5_clearCounts_14 (by decide) (fun c14 => ?_) (fun c14 => ?_)
      ·
        have hkn2 : k = n := by have := le_of_le (by omega) (by omega) c14; omega
        exact hend _ _ _ _ dX5_clearCounts_52 (⟨⟨f2, f3, f4, f5, rfl, h2, fun j hj => hf j (by omega)⟩, rfl⟩)
      ·
        have hlt : k < n := lt_of_nle (by omega) c14
        refine r_aload_n C dX5_clearCounts_17 1 rfl ?_
        refine r_getr (q2 := (Z + 4)) C dX5_clearCounts_18 3 f_X5_21 (hZ.1) rfl ?_
        refine r_iload_n C dX5_clearCounts_21 0 rfl ?_
        refine r_iconst (v := 0) C dX5_clearCounts_22 rfl ?_
        refine r_iastN (j := k) C dX5_clearCounts_23 ((hZ).2.2.2.2.1) (rfl) (by omega) (by decide) ?_
        refine r_mem (M' := mR M Z (nI n) (f2) (f3) (upd f4 k 0) (f5)) (mR_s4) ?_
        refine r_aload_n C dX5_clearCounts_24 1 rfl ?_
        refine r_getr (q2 := (Z + 5)) C dX5_clearCounts_25 4 f_X5_24 (hZ.1) rfl ?_
        refine r_iload_n C dX5_clearCounts_28 0 rfl ?_
        refine r_iconst (v := 0) C dX5_clearCounts_29 rfl ?_
        refine r_iastN (j := k) C dX5_clearCounts_30 ((hZ).2.2.2.2.2) (rfl) (by omega) (by decide) ?_
        refine r_mem (M' := mR M Z (nI n) (f2) (f3) (upd f4 k 0) (upd f5 k 0)) (mR_s5) ?_
        refine r_aload_n C dX5_clearCounts_31 1 rfl ?_
        refine r_getr (q2 := (Z + 3)) C dX5_clearCounts_32 2 f_X5_18 (hZ.1) rfl ?_
        refine r_iload_n C dX5_clearCounts_35 0 rfl ?_
        refine r_iload_n C dX5_clearCounts_36 0 rfl ?_
        refine r_if_ne (tgt := 44) C dX5_clearCounts_37 (by decide) (fun c37 => ?_) (fun c37 => ?_)
        ·
          refine r_iconst (v := 1) C dX5_clearCounts_44 rfl ?_
          refine r_iastN (j := k) C dX5_clearCounts_45 ((hZ).2.2.2.1) (rfl) (by omega) (by decide) ?_
          refine r_mem (M' := mR M Z (nI n) (f2) (upd f3 k 1) (upd f4 k 0) (upd f5 k 0)) (mR_s3) ?_
          refine r_iinc (v := nI (k + 1)) (L' := [(1, .int (nI (k + 1))), (0, .ref (mA G Z))]) C dX5_clearCounts_46 0 rfl (nI_inc _) (by decide) rfl ?_
          refine r_goto (tgt := 9) C dX5_clearCounts_49 (by decide) ?_
          refine r_sub (L' := [(1, .int (nI (k + 1))), (0, .ref (mA G Z))]) [0, 1] rfl ?_
          exact ih9 (k + 1) _ _ _ _ (by omega) h2 (fun j hj => by rcases Nat.lt_or_ge j k with q | q; (rw [upd_ne (by omega), upd_ne (by omega), upd_ne (by omega)]; exact hf j q); (have e9 : j = k := by omega); subst e9; rw [upd_at, upd_at, upd_at]; exact ⟨(if_neg (fun h => c37 (by rw [h]; rfl))).symm, rfl, rfl⟩) (by omega)
        ·
          refine r_iconst (v := 0) C dX5_clearCounts_40 rfl ?_
          refine r_goto (tgt := 45) C dX5_clearCounts_41 (by decide) ?_
          refine r_iastN (j := k) C dX5_clearCounts_45 ((hZ).2.2.2.1) (rfl) (by omega) (by decide) ?_
          refine r_mem (M' := mR M Z (nI n) (f2) (upd f3 k 0) (upd f4 k 0) (upd f5 k 0)) (mR_s3) ?_
          refine r_iinc (v := nI (k + 1)) (L' := [(1, .int (nI (k + 1))), (0, .ref (mA G Z))]) C dX5_clearCounts_46 0 rfl (nI_inc _) (by decide) rfl ?_
          refine r_goto (tgt := 9) C dX5_clearCounts_49 (by decide) ?_
          refine r_sub (L' := [(1, .int (nI (k + 1))), (0, .ref (mA G Z))]) [0, 1] rfl ?_
          exact ih9 (k + 1) _ _ _ _ (by omega) h2 (fun j hj => by rcases Nat.lt_or_ge j k with q | q; (rw [upd_ne (by omega), upd_ne (by omega), upd_ne (by omega)]; exact hf j q); (have e9 : j = k := by omega); subst e9; rw [upd_at, upd_at, upd_at]; exact ⟨(if_pos ((nI_eq (b := 0) (by omega) (by omega)).mp c37)).symm, rfl, rfl⟩) (by omega)
  refine r_sub (L' := [(1, .int (nI 0)), (0, .ref (mA G Z))]) [0, 1] rfl ?_
  exact lp9 _ 0 _ _ _ _ (by omega) (upd_at _ _ _) (fun j hj => absurd hj (Nat.not_lt_zero j)) (Nat.lt_succ_self _)

set_option maxRecDepth 20000 in
set_option maxHeartbeats 1000000 in
theorem c_X5_headAbove (l : Launch) (G : mG) (hG : mInj G) (M : Mem) (g : Glo) (V : View) (hT : wfT V) (hV : cNet M 2 V) (Z : Nat) (hZ : isRegs Z) (hZ9 : 70 < Z) (j h : Nat) (h0 : 0 < j) (hj : j < vN V) (hh : M (Z + 2) (vP V j) = nI h) (hlt : h < j) : mcI l G yX5_headAbove cX5_headAbove 4 .int 2 [.ref (mA G Z), .ref (mA G 2), .int (nI j)] M g (fun r M' g' => r = nI h ∧ M' = M ∧ g' = g) := by
  refine mcI_of (L0 := [(0, .ref (mA G Z)), (1, .ref (mA G 2)), (2, .int (nI j))]) hG (by decide) (Nat.le_of_ble_eq_true rfl) rfl ?_
  intro p e s m args below meth c Q C hend
  have hT0 := hT
  obtain ⟨hn1, hn16, hb4, ⟨hd0, hd3, hd5, hd6⟩, hpar⟩ := hT0
  obtain ⟨hp1, hp2⟩ := hpar j h0 hj
  refine r_aload_n C dX5_headAbove_0 1 rfl ?_
  refine r_iload_n C dX5_headAbove_1 2 rfl ?_
  refine r_callVI (As := [.int (nI j)]) (rest := []) C dX5_headAbove_2 s_X5_57 (c_X3_hasParent l G hG M g V hT hV j h0 hj) (by decide) rfl rfl rfl rfl (Nat.le_of_ble_eq_true rfl) (Nat.le_of_ble_eq_true rfl) (Nat.le_of_ble_eq_true rfl) (pk_I ?_)
  refine r_if_eq (tgt := 22) C dX5_headAbove_5 (by decide) (fun h => absurd h (by decide)) (fun _ => ?_)
  refine r_aload_n C dX5_headAbove_8 0 rfl ?_
  refine r_getr (q2 := (Z + 2)) C dX5_headAbove_9 1 f_X5_15 (hZ.1) rfl ?_
  refine r_aload_n C dX5_headAbove_12 1 rfl ?_
  refine r_getr (q2 := 3) C dX5_headAbove_13 0 f_X5_60 rfl rfl ?_
  refine r_iload_n C dX5_headAbove_16 2 rfl ?_
  refine r_ialdN (j := j) (v := nI (vP V j)) C dX5_headAbove_17 rfl (rfl) (by omega) (by decide) ((hV.at 0 (by decide) hj).trans hp1) ?_
  refine r_ialdN (j := vP V j) (v := nI h) C dX5_headAbove_18 ((hZ).2.2.1) (rfl) (by omega) (by decide) (hh) ?_
  refine r_goto (tgt := 23) C dX5_headAbove_19 (by decide) ?_
  refine r_istore_n (L' := [(3, .int (nI h)), (0, .ref (mA G Z)), (1, .ref (mA G 2)), (2, .int (nI j))]) C dX5_headAbove_23 (by decide) rfl ?_
  refine r_iload_n C dX5_headAbove_24 0 rfl ?_
  refine r_if_lt (tgt := 37) C dX5_headAbove_25 (by decide) (fun h => absurd h (nI_pos (by omega))) (fun _ => ?_)
  refine r_iload_n C dX5_headAbove_28 0 rfl ?_
  refine r_iload_n C dX5_headAbove_29 3 rfl ?_
  refine r_icmp_ge (tgt := 37) C dX5_headAbove_30 (by decide) (fun h => absurd h (nI_ge hlt (by omega))) (fun _ => ?_)
  refine r_iload_n C dX5_headAbove_33 0 rfl ?_
  refine r_goto (tgt := 38) C dX5_headAbove_34 (by decide) ?_
  exact hend _ _ _ _ _ dX5_headAbove_38 (rfl) (⟨rfl, rfl, rfl⟩)

set_option maxRecDepth 20000 in
set_option maxHeartbeats 1000000 in
theorem c_X5_countBranches (l : Launch) (G : mG) (hG : mInj G) (M : Mem) (g : Glo) (V : View) (hT : wfT V) (hV : cNet M 2 V) (Z : Nat) (hZ : isRegs Z) (hZ9 : 70 < Z) (hc : M Z 5 = nI (vN V)) : mcV l G yX5_countBranches cX5_countBranches 3 2 [.ref (mA G Z), .ref (mA G 2)] M g (fun M' g' => M' = mrow M (Z + 3) (ibUp (vP V) (M (Z + 1)) (vN V - 1) (M (Z + 3))) ∧ g' = g) := by
  refine mcV_of (L0 := [(0, .ref (mA G Z)), (1, .ref (mA G 2))]) hG (by decide) (Nat.le_of_ble_eq_true rfl) rfl ?_
  intro p e s m args below meth c Q C hend
  have hT0 := hT
  obtain ⟨hn1, hn16, hb4, ⟨hd0, hd3, hd5, hd6⟩, hpar⟩ := hT0
  refine r_aload_n C dX5_countBranches_0 0 rfl ?_
  refine r_geti C dX5_countBranches_1 5 f_X5_27 (hZ.1) rfl ?_
  refine r_valI (y := nI (vN V)) (hc) ?_
  refine r_iconst (v := 1) C dX5_countBranches_4 rfl ?_
  refine r_isub C dX5_countBranches_5 ?_
  refine r_valI (y := nI (vN V - 1)) (pk_sub (by omega)) ?_
  refine r_istore_n (L' := [(2, .int (nI (vN V - 1))), (0, .ref (mA G Z)), (1, .ref (mA G 2))]) C dX5_countBranches_6 (by decide) rfl ?_
  have lp7 : ∀ (fu : Nat) (k : Nat) (f : Nat → Int32), (k < vN V) → (ibUp (vP V) (M (Z + 1)) k f = ibUp (vP V) (M (Z + 1)) (vN V - 1) (M (Z + 3))) → k < fu → At p l e (rmD 2 0 0) s m args below meth c G 3 0 0 Q (mrow M (Z + 3) f) g [(2, .int (nI k)), (0, .ref (mA G Z)), (1, .ref (mA G 2))] 7 [] := by
    intro fu
    induction fu with
    | zero => intro k f hkn hf hfu; exact absurd hfu (Nat.not_lt_zero _)
    | succ fu ih7 =>
      intro k f hkn hf hfu7
      have hV2 : cNet (mrow M (Z + 3) f) 2 V := hV.off (offR.row f (Nat.le_refl _) (Nat.le_refl _)) (by omega)
      refine r_iload_n C dX5_countBranches_7 0 rfl ?_
      refine r_if_le (tgt := 53) C dX5_countBranches_8 (by decide) (fun c8 => ?_) (fun c8 => ?_)
      ·
        have hk0 : k = 0 := by rcases Nat.eq_zero_or_pos k with q | q; exact q; exact absurd c8 (nI_nle q (by omega))
        exact hend _ _ _ _ dX5_countBranches_53 (⟨by rw [← hf, hk0]; rfl, rfl⟩)
      ·
        have hk0 : 0 < k := by rcases Nat.eq_zero_or_pos k with q | q; exact absurd (by subst q; decide) c8; exact q
        have hpk := hpar k hk0 hkn
        refine r_aload_n C dX5_countBranches_11 1 rfl ?_
        refine r_iload_n C dX5_countBranches_12 0 rfl ?_
        refine r_callVI (As := [.int (nI k)]) (rest := []) C dX5_countBranches_13 s_X5_42 (c_X5_hasMeter l G hG (mrow M (Z + 3) f) g Z hZ hZ9 k (by omega)) (by decide) (hZ.1) rfl rfl rfl (Nat.le_of_ble_eq_true rfl) (Nat.le_of_ble_eq_true rfl) (Nat.le_of_ble_eq_true rfl) (pk_I ?_)
        refine r_if_ne (tgt := 47) C dX5_countBranches_16 (by decide) (fun c16 => ?_) (fun c16 => ?_)
        ·
          have hm16 : ¬ M (Z + 1) k = 0 := by have h9 := of_decide_eq_true (b2i_1.mp c16); rw [mrow_ne (by omega)] at h9; exact h9.resolve_left (by omega)
          refine r_mem (M' := mrow M (Z + 3) f) (rfl) ?_
          refine r_iinc (v := nI (k - 1)) (L' := [(2, .int (nI (k - 1))), (0, .ref (mA G Z)), (1, .ref (mA G 2))]) C dX5_countBranches_47 0 rfl (nI_dec1 (by omega)) (by decide) rfl ?_
          refine r_goto (tgt := 7) C dX5_countBranches_50 (by decide) ?_
          refine r_sub (L' := [(2, .int (nI (k - 1))), (0, .ref (mA G Z)), (1, .ref (mA G 2))]) [0, 1, 2] rfl ?_
          exact ih7 (k - 1) (f) (by omega) (by rw [← hf, ibUp_s _ _ hk0, if_neg hm16]) (by omega)
        ·
          have hm16 : M (Z + 1) k = 0 := by have h9 := of_decide_eq_false (b2i_0.mp c16); rw [mrow_ne (by omega)] at h9; exact Classical.byContradiction (fun z => h9 (Or.inr z))
          refine r_aload_n C dX5_countBranches_19 2 rfl ?_
          refine r_iload_n C dX5_countBranches_20 0 rfl ?_
          refine r_callVI (As := [.int (nI k)]) (rest := []) C dX5_countBranches_21 s_X5_57 (c_X3_hasParent l G hG (mrow M (Z + 3) f) g V hT hV2 k hk0 hkn) (by decide) rfl rfl rfl rfl (Nat.le_of_ble_eq_true rfl) (Nat.le_of_ble_eq_true rfl) (Nat.le_of_ble_eq_true rfl) (pk_I ?_)
          refine r_if_eq (tgt := 47) C dX5_countBranches_24 (by decide) (fun h => absurd h (by decide)) (fun _ => ?_)
          refine r_aload_n C dX5_countBranches_27 1 rfl ?_
          refine r_getr (q2 := (Z + 3)) C dX5_countBranches_28 2 f_X5_18 (hZ.1) rfl ?_
          refine r_aload_n C dX5_countBranches_31 2 rfl ?_
          refine r_getr (q2 := 3) C dX5_countBranches_32 0 f_X5_60 rfl rfl ?_
          refine r_iload_n C dX5_countBranches_35 0 rfl ?_
          refine r_ialdN (j := k) (v := nI (vP V k)) C dX5_countBranches_36 rfl (rfl) (by omega) (by decide) ((hV2.at 0 (by decide) hkn).trans hpk.1) ?_
          refine r_dup2 C dX5_countBranches_37 rfl rfl ?_
          refine r_ialdN (j := vP V k) (v := f (vP V k)) C dX5_countBranches_38 ((hZ).2.2.2.1) (rfl) (by omega) (by decide) (by rw [mrow_at]) ?_
          refine r_aload_n C dX5_countBranches_39 1 rfl ?_
          refine r_getr (q2 := (Z + 3)) C dX5_countBranches_40 2 f_X5_18 (hZ.1) rfl ?_
          refine r_iload_n C dX5_countBranches_43 0 rfl ?_
          refine r_ialdN (j := k) (v := f k) C dX5_countBranches_44 ((hZ).2.2.2.1) (rfl) (by omega) (by decide) (by rw [mrow_at]) ?_
          refine r_iadd C dX5_countBranches_45 ?_
          refine r_iastN (j := vP V k) C dX5_countBranches_46 ((hZ).2.2.2.1) (rfl) (by omega) (by decide) ?_
          refine r_mem (M' := mrow M (Z + 3) (upd f (vP V k) (f (vP V k) + f k))) (mset_row _ _ _ _ _) ?_
          refine r_iinc (v := nI (k - 1)) (L' := [(2, .int (nI (k - 1))), (0, .ref (mA G Z)), (1, .ref (mA G 2))]) C dX5_countBranches_47 0 rfl (nI_dec1 (by omega)) (by decide) rfl ?_
          refine r_goto (tgt := 7) C dX5_countBranches_50 (by decide) ?_
          refine r_sub (L' := [(2, .int (nI (k - 1))), (0, .ref (mA G Z)), (1, .ref (mA G 2))]) [0, 1, 2] rfl ?_
          exact ih7 (k - 1) (upd f (vP V k) (f (vP V k) + f k)) (by omega) (by rw [← hf, ibUp_s _ _ hk0, if_pos hm16]) (by omega)
  refine r_mem (M' := mrow M (Z + 3) (M (Z + 3))) (mrow_self _ _).symm ?_
  refine r_sub (L' := [(2, .int (nI (vN V - 1))), (0, .ref (mA G Z)), (1, .ref (mA G 2))]) [0, 1, 2] rfl ?_
  exact lp7 _ (vN V - 1) (M (Z + 3)) (by omega) rfl (Nat.lt_succ_self _)

set_option maxRecDepth 20000 in
set_option maxHeartbeats 1000000 in
theorem c_X5_settle (l : Launch) (G : mG) (hG : mInj G) (M : Mem) (g : Glo) (V : View) (hT : wfT V) (hV : cNet M 2 V) (Z : Nat) (hZ : isRegs Z) (hZ9 : 70 < Z) : mcV l G yX5_settle cX5_settle 4 3 [.ref (mA G Z), .ref (mA G 2)] M g (fun M' g' => (rgOK M' Z V (M (Z + 1)) ∧ offR M M' Z (Z + 5)) ∧ g' = g) := by
  refine mcV_of (L0 := [(0, .ref (mA G Z)), (1, .ref (mA G 2))]) hG (by decide) (Nat.le_of_ble_eq_true rfl) rfl ?_
  intro p e s m args below meth c Q C hend
  have hT0 := hT
  obtain ⟨hn1, hn16, hb4, ⟨hd0, hd3, hd5, hd6⟩, hpar⟩ := hT0
  have hVg : ∀ f2 f3 f4 f5 : Nat → Int32, cNet (mR M Z (nI (vN V)) f2 f3 f4 f5) 2 V := fun f2 f3 f4 f5 => hV.off (a := Z) (b := Z + 5) (fun q hq => mR_o (by omega)) (by omega)
  refine r_aload_n C dX5_settle_0 0 rfl ?_
  refine r_aload_n C dX5_settle_1 1 rfl ?_
  refine r_geti C dX5_settle_2 8 f_X5_38 rfl rfl ?_
  refine r_valI (y := nI (vN V)) (hV.1) ?_
  refine r_puti C dX5_settle_5 5 fi_X5_27 (hZ.1) rfl ?_
  refine r_mem (M' := mR M Z (nI (vN V)) (M (Z + 2)) (M (Z + 3)) (M (Z + 4)) (M (Z + 5))) (mR_set) ?_
  refine r_aload_n C dX5_settle_8 0 rfl ?_
  refine r_callVV (As := []) (rest := []) C dX5_settle_9 s_X5_39 (c_X5_clearCounts l G hG (mR M Z (nI (vN V)) (M (Z + 2)) (M (Z + 3)) (M (Z + 4)) (M (Z + 5))) g Z hZ hZ9 (vN V) hn16 mR_c) (by decide) (hZ.1) rfl rfl rfl (Nat.le_of_ble_eq_true rfl) (Nat.le_of_ble_eq_true rfl) (Nat.le_of_ble_eq_true rfl) (fun M9 g9 hp9 => ?_)
  obtain ⟨⟨f2, f3, f4, f5, rfl, hf2, hf⟩, eg9⟩ := hp9
  rw [eg9]
  rw [mR_mR]
  refine r_iconst (v := nI 1) C dX5_settle_12 rfl ?_
  refine r_istore_n (L' := [(2, .int (nI 1)), (0, .ref (mA G Z)), (1, .ref (mA G 2))]) C dX5_settle_13 (by decide) rfl ?_
  have lp14 : ∀ (fu : Nat) (k : Nat) (f2 f4 f5 : Nat → Int32), (0 < k) → (k ≤ vN V) → (∀ j, j < k → f2 j = nI (hdF V (M (Z + 1)) j)) → (∀ t, t < vN V → f4 t = szR V (M (Z + 1)) k t) → (∀ t, t < vN V → f5 t = lkR V (M (Z + 1)) k t) → (vN V - k) < fu → At p l e (rmD 3 0 0) s m args below meth c G 4 0 0 Q (mR M Z (nI (vN V)) (f2) (f3) (f4) (f5)) g [(2, .int (nI k)), (0, .ref (mA G Z)), (1, .ref (mA G 2))] 14 [] := by
    intro fu
    induction fu with
    | zero => intro k f2 f4 f5 hk0 hkn h2 h4 h5 hfu; exact absurd hfu (Nat.not_lt_zero _)
    | succ fu ih14 =>
      intro k f2 f4 f5 hk0 hkn h2 h4 h5 hfu14
      refine r_iload_n C dX5_settle_14 0 rfl ?_
      refine r_aload_n C dX5_settle_15 1 rfl ?_
      refine r_geti C dX5_settle_16 5 f_X5_27 (hZ.1) rfl ?_
      refine r_valI (y := nI (vN V)) (mR_c) ?_
      refine r_icmp_ge (tgt := 79) C dX5_settle_19 (by decide) (fun c19 => ?_) (fun c19 => ?_)
      ·
        have hkn2 : k = vN V := by have := le_of_le (by omega) (by omega) c19; omega
        refine r_aload_n C dX5_settle_79 1 rfl ?_
        refine r_aload_n C dX5_settle_80 2 rfl ?_
        refine r_callVV (As := [.ref (mA G 2)]) (rest := []) C dX5_settle_81 s_X5_53 (c_X5_countBranches l G hG (mR M Z (nI (vN V)) (f2) (f3) (f4) (f5)) g V hT (hVg f2 f3 f4 f5) Z hZ hZ9 mR_c) (by decide) (hZ.1) rfl rfl rfl (Nat.le_of_ble_eq_true rfl) (Nat.le_of_ble_eq_true rfl) (Nat.le_of_ble_eq_true rfl) (pk_V ?_)
        exact hend _ _ _ _ dX5_settle_84 (⟨⟨⟨by rw [mrow_ne (by omega)]; exact mR_c, fun j hj => by rw [mrow_ne (by omega), mR_o (by omega)], fun j hj => ⟨by rw [mrow_ne (by omega), mR_2]; exact h2 j (by omega), by rw [mrow_at, mR_3]; exact ibUp_cong (vN V - 1) _ _ (by omega) (fun j h8 h9 => (hpar j h8 (by omega)).2) (fun j hj => by rw [mR_o (by omega)]) (fun j hj => (hf j hj).1) j hj, by rw [mrow_ne (by omega), mR_4, h4 j hj, hkn2]; rfl, by rw [mrow_ne (by omega), mR_5, h5 j hj, hkn2]; rfl⟩⟩, fun q hq => by rw [mrow_ne (by omega), mR_o (by omega)]⟩, rfl⟩)
      ·
        have hlt : k < vN V := lt_of_nle (by omega) c19
        have hle := hdF_le hT (M (Z + 1)) k k (Nat.le_refl k) hlt
        refine r_aload_n C dX5_settle_22 1 rfl ?_
        refine r_iload_n C dX5_settle_23 0 rfl ?_
        refine r_callVI (As := [.int (nI k)]) (rest := []) C dX5_settle_24 s_X5_42 (c_X5_hasMeter l G hG (mR M Z (nI (vN V)) (f2) (f3) (f4) (f5)) g Z hZ hZ9 k (by omega)) (by decide) (hZ.1) rfl rfl rfl (Nat.le_of_ble_eq_true rfl) (Nat.le_of_ble_eq_true rfl) (Nat.le_of_ble_eq_true rfl) (pk_I ?_)
        refine r_if_eq (tgt := 34) C dX5_settle_27 (by decide) (fun c27 => ?_) (fun c27 => ?_)
        ·
          have hm27 : M (Z + 1) k = 0 := by have h9 := of_decide_eq_false (b2i_0.mp c27); rw [mR_o (by omega)] at h9; exact Classical.byContradiction (fun z => h9 (Or.inr z))
          refine r_aload_n C dX5_settle_34 1 rfl ?_
          refine r_aload_n C dX5_settle_35 2 rfl ?_
          refine r_iload_n C dX5_settle_36 0 rfl ?_
          refine r_callVI (As := [.ref (mA G 2), .int (nI k)]) (rest := []) C dX5_settle_37 s_X5_46 (c_X5_headAbove l G hG (mR M Z (nI (vN V)) (f2) (f3) (f4) (f5)) g V hT (hVg f2 f3 f4 f5) Z hZ hZ9 k (hdF V (M (Z + 1)) (vP V k)) hk0 hlt (by rw [mR_2]; exact h2 _ (hpar k hk0 hlt).2) (by have := (hpar k hk0 hlt).2; have := hdF_le hT (M (Z + 1)) _ (vP V k) (Nat.le_refl _) (by omega); omega)) (by decide) (hZ.1) rfl rfl rfl (Nat.le_of_ble_eq_true rfl) (Nat.le_of_ble_eq_true rfl) (Nat.le_of_ble_eq_true rfl) (pk_I ?_)
          refine r_valI (y := nI (hdF V (M (Z + 1)) k)) (by rw [hdF_s V (M (Z + 1)) hk0 (hpar k hk0 hlt).2, if_pos hm27]) ?_
          refine r_istore_n (L' := [(3, .int (nI (hdF V (M (Z + 1)) k))), (2, .int (nI k)), (0, .ref (mA G Z)), (1, .ref (mA G 2))]) C dX5_settle_40 (by decide) rfl ?_
          refine r_aload_n C dX5_settle_41 2 rfl ?_
          refine r_getr (q2 := (Z + 2)) C dX5_settle_42 1 f_X5_15 (hZ.1) rfl ?_
          refine r_iload_n C dX5_settle_45 1 rfl ?_
          refine r_iload_n C dX5_settle_46 0 rfl ?_
          refine r_iastN (j := k) C dX5_settle_47 ((hZ).2.2.1) (rfl) (by omega) (by decide) ?_
          refine r_mem (M' := mR M Z (nI (vN V)) (upd f2 k (nI (hdF V (M (Z + 1)) k))) (f3) (f4) (f5)) (mR_s2) ?_
          refine r_aload_n C dX5_settle_48 2 rfl ?_
          refine r_getr (q2 := (Z + 4)) C dX5_settle_49 3 f_X5_21 (hZ.1) rfl ?_
          refine r_iload_n C dX5_settle_52 0 rfl ?_
          refine r_dup2 C dX5_settle_53 rfl rfl ?_
          refine r_ialdN (j := (hdF V (M (Z + 1)) k)) (v := f4 (hdF V (M (Z + 1)) k)) C dX5_settle_54 ((hZ).2.2.2.2.1) (rfl) (by omega) (by decide) (by rw [mR_4]) ?_
          refine r_iconst (v := 1) C dX5_settle_55 rfl ?_
          refine r_iadd C dX5_settle_56 ?_
          refine r_iastN (j := (hdF V (M (Z + 1)) k)) C dX5_settle_57 ((hZ).2.2.2.2.1) (rfl) (by omega) (by decide) ?_
          refine r_mem (M' := mR M Z (nI (vN V)) (upd f2 k (nI (hdF V (M (Z + 1)) k))) (f3) (upd f4 (hdF V (M (Z + 1)) k) (f4 (hdF V (M (Z + 1)) k) + 1)) (f5)) (mR_s4) ?_
          refine r_aload_n C dX5_settle_58 2 rfl ?_
          refine r_getr (q2 := (Z + 5)) C dX5_settle_59 4 f_X5_24 (hZ.1) rfl ?_
          refine r_iload_n C dX5_settle_62 0 rfl ?_
          refine r_dup2 C dX5_settle_63 rfl rfl ?_
          refine r_ialdN (j := (hdF V (M (Z + 1)) k)) (v := f5 (hdF V (M (Z + 1)) k)) C dX5_settle_64 ((hZ).2.2.2.2.2) (rfl) (by omega) (by decide) (by rw [mR_5]) ?_
          refine r_aload_n C dX5_settle_65 3 rfl ?_
          refine r_getr (q2 := 8) C dX5_settle_66 5 f_X5_50 rfl rfl ?_
          refine r_iload_n C dX5_settle_69 1 rfl ?_
          refine r_ialdN (j := k) (v := vD V 5 k) C dX5_settle_70 rfl (rfl) (by omega) (by decide) ((hVg _ _ _ _).at 5 (by decide) hlt) ?_
          refine r_iadd C dX5_settle_71 ?_
          refine r_iastN (j := (hdF V (M (Z + 1)) k)) C dX5_settle_72 ((hZ).2.2.2.2.2) (rfl) (by omega) (by decide) ?_
          refine r_mem (M' := mR M Z (nI (vN V)) (upd f2 k (nI (hdF V (M (Z + 1)) k))) (f3) (upd f4 (hdF V (M (Z + 1)) k) (f4 (hdF V (M (Z + 1)) k) + 1)) (upd f5 (hdF V (M (Z + 1)) k) (f5 (hdF V (M (Z + 1)) k) + vD V 5 k))) (mR_s5) ?_
          refine r_iinc (v := nI (k + 1)) (L' := [(2, .int (nI (k + 1))), (3, .int (nI (hdF V (M (Z + 1)) k))), (0, .ref (mA G Z)), (1, .ref (mA G 2))]) C dX5_settle_73 1 rfl (nI_inc _) (by decide) rfl ?_
          refine r_goto (tgt := 14) C dX5_settle_76 (by decide) ?_
          refine r_sub (L' := [(2, .int (nI (k + 1))), (0, .ref (mA G Z)), (1, .ref (mA G 2))]) [0, 2, 3] rfl ?_
          exact ih14 (k + 1) _ _ _ (by omega) (by omega) (fun j hj => by rcases Nat.lt_or_ge j k with q | q; (rw [upd_ne (by omega)]; exact h2 j q); (have e9 : j = k := by omega); subst e9; rw [upd_at]) (fun t ht => by unfold szR; rw [sumP_s _ hk0]; by_cases e9 : t = (hdF V (M (Z + 1)) k); (subst e9; rw [upd_at, h4 _ ht]; simp [szR, b2i]); (rw [upd_ne e9, h4 t ht]; simp [szR, b2i, Ne.symm e9])) (fun t ht => by unfold lkR; rw [sumP_s _ hk0]; by_cases e9 : t = (hdF V (M (Z + 1)) k); (subst e9; rw [upd_at, h5 _ ht]; simp [lkR]); (rw [upd_ne e9, h5 t ht]; simp [lkR, Ne.symm e9])) (by omega)
        ·
          have hm27 : ¬ M (Z + 1) k = 0 := by have h9 := of_decide_eq_true (b2i_1.mp c27); rw [mR_o (by omega)] at h9; exact h9.resolve_left (by omega)
          refine r_iload_n C dX5_settle_30 0 rfl ?_
          refine r_goto (tgt := 40) C dX5_settle_31 (by decide) ?_
          refine r_valI (y := nI (hdF V (M (Z + 1)) k)) (by rw [hdF_s V (M (Z + 1)) hk0 (hpar k hk0 hlt).2, if_neg hm27]) ?_
          refine r_istore_n (L' := [(3, .int (nI (hdF V (M (Z + 1)) k))), (2, .int (nI k)), (0, .ref (mA G Z)), (1, .ref (mA G 2))]) C dX5_settle_40 (by decide) rfl ?_
          refine r_aload_n C dX5_settle_41 2 rfl ?_
          refine r_getr (q2 := (Z + 2)) C dX5_settle_42 1 f_X5_15 (hZ.1) rfl ?_
          refine r_iload_n C dX5_settle_45 1 rfl ?_
          refine r_iload_n C dX5_settle_46 0 rfl ?_
          refine r_iastN (j := k) C dX5_settle_47 ((hZ).2.2.1) (rfl) (by omega) (by decide) ?_
          refine r_mem (M' := mR M Z (nI (vN V)) (upd f2 k (nI (hdF V (M (Z + 1)) k))) (f3) (f4) (f5)) (mR_s2) ?_
          refine r_aload_n C dX5_settle_48 2 rfl ?_
          refine r_getr (q2 := (Z + 4)) C dX5_settle_49 3 f_X5_21 (hZ.1) rfl ?_
          refine r_iload_n C dX5_settle_52 0 rfl ?_
          refine r_dup2 C dX5_settle_53 rfl rfl ?_
          refine r_ialdN (j := (hdF V (M (Z + 1)) k)) (v := f4 (hdF V (M (Z + 1)) k)) C dX5_settle_54 ((hZ).2.2.2.2.1) (rfl) (by omega) (by decide) (by rw [mR_4]) ?_
          refine r_iconst (v := 1) C dX5_settle_55 rfl ?_
          refine r_iadd C dX5_settle_56 ?_
          refine r_iastN (j := (hdF V (M (Z + 1)) k)) C dX5_settle_57 ((hZ).2.2.2.2.1) (rfl) (by omega) (by decide) ?_
          refine r_mem (M' := mR M Z (nI (vN V)) (upd f2 k (nI (hdF V (M (Z + 1)) k))) (f3) (upd f4 (hdF V (M (Z + 1)) k) (f4 (hdF V (M (Z + 1)) k) + 1)) (f5)) (mR_s4) ?_
          refine r_aload_n C dX5_settle_58 2 rfl ?_
          refine r_getr (q2 := (Z + 5)) C dX5_settle_59 4 f_X5_24 (hZ.1) rfl ?_
          refine r_iload_n C dX5_settle_62 0 rfl ?_
          refine r_dup2 C dX5_settle_63 rfl rfl ?_
          refine r_ialdN (j := (hdF V (M (Z + 1)) k)) (v := f5 (hdF V (M (Z + 1)) k)) C dX5_settle_64 ((hZ).2.2.2.2.2) (rfl) (by omega) (by decide) (by rw [mR_5]) ?_
          refine r_aload_n C dX5_settle_65 3 rfl ?_
          refine r_getr (q2 := 8) C dX5_settle_66 5 f_X5_50 rfl rfl ?_
          refine r_iload_n C dX5_settle_69 1 rfl ?_
          refine r_ialdN (j := k) (v := vD V 5 k) C dX5_settle_70 rfl (rfl) (by omega) (by decide) ((hVg _ _ _ _).at 5 (by decide) hlt) ?_
          refine r_iadd C dX5_settle_71 ?_
          refine r_iastN (j := (hdF V (M (Z + 1)) k)) C dX5_settle_72 ((hZ).2.2.2.2.2) (rfl) (by omega) (by decide) ?_
          refine r_mem (M' := mR M Z (nI (vN V)) (upd f2 k (nI (hdF V (M (Z + 1)) k))) (f3) (upd f4 (hdF V (M (Z + 1)) k) (f4 (hdF V (M (Z + 1)) k) + 1)) (upd f5 (hdF V (M (Z + 1)) k) (f5 (hdF V (M (Z + 1)) k) + vD V 5 k))) (mR_s5) ?_
          refine r_iinc (v := nI (k + 1)) (L' := [(2, .int (nI (k + 1))), (3, .int (nI (hdF V (M (Z + 1)) k))), (0, .ref (mA G Z)), (1, .ref (mA G 2))]) C dX5_settle_73 1 rfl (nI_inc _) (by decide) rfl ?_
          refine r_goto (tgt := 14) C dX5_settle_76 (by decide) ?_
          refine r_sub (L' := [(2, .int (nI (k + 1))), (0, .ref (mA G Z)), (1, .ref (mA G 2))]) [0, 2, 3] rfl ?_
          exact ih14 (k + 1) _ _ _ (by omega) (by omega) (fun j hj => by rcases Nat.lt_or_ge j k with q | q; (rw [upd_ne (by omega)]; exact h2 j q); (have e9 : j = k := by omega); subst e9; rw [upd_at]) (fun t ht => by unfold szR; rw [sumP_s _ hk0]; by_cases e9 : t = (hdF V (M (Z + 1)) k); (subst e9; rw [upd_at, h4 _ ht]; simp [szR, b2i]); (rw [upd_ne e9, h4 t ht]; simp [szR, b2i, Ne.symm e9])) (fun t ht => by unfold lkR; rw [sumP_s _ hk0]; by_cases e9 : t = (hdF V (M (Z + 1)) k); (subst e9; rw [upd_at, h5 _ ht]; simp [lkR]); (rw [upd_ne e9, h5 t ht]; simp [lkR, Ne.symm e9])) (by omega)
  refine r_sub (L' := [(2, .int (nI 1)), (0, .ref (mA G Z)), (1, .ref (mA G 2))]) [0, 1, 2] rfl ?_
  exact lp14 _ 1 f2 f4 f5 (by omega) hn1 (fun j hj => by (have e9 : j = 0 := by omega); subst e9; rw [hf2]; rfl) (fun t ht => by rw [(hf t ht).2.1]; exact (sumP_1 _).symm) (fun t ht => by rw [(hf t ht).2.2]; exact (sumP_1 _).symm) (Nat.lt_succ_self _)
