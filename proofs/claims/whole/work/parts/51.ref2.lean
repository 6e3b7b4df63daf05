theorem belA_s {V : View} {n f k : Nat} (hf : 0 < f) (h : n < k) : belA V n f k = belA V n (f - 1) (vP V k) := by
  cases f with
  | zero => omega
  | succ f => rw [belA, if_pos h]; rfl
theorem belA_e {V : View} {n f k : Nat} (h : ¬ n < k) : belA V n f k = decide (k = n) := by
  cases f with
  | zero => rfl
  | succ f => rw [belA, if_neg h]
set_option maxRecDepth 20000 in
set_option maxHeartbeats 1000000 in
theorem c_X8_meterAt (l : Launch) (G : mG) (hG : mInj G) (M : Mem) (g : Glo) (V : View) (hW : wfV V) (hV : rV (M 108) V) (j : Nat) (hj : j < vN V) : mcI l G yX8_meterAt cX8_meterAt 3 .int 2 [.ref (mA G 107), .int (nI j)] M g (fun r M' g' => r = nI (hdF V (vD V 6) j) ∧ M' = M ∧ g' = g) := by
  refine mcI_of (L0 := [(0, .ref (mA G 107)), (1, .int (nI j))]) hG (by decide) (Nat.le_of_ble_eq_true rfl) rfl ?_
  intro p e s m args below meth c Q C hend
  have hT := hW.1
  obtain ⟨hn1, hn16, hb4, ⟨hd0, hd3, hd5, hd6⟩, hpar⟩ := id hT
  refine r_iload_n C dX8_meterAt_0 1 rfl ?_
  refine r_istore_n (L' := [(2, .int (nI j)), (0, .ref (mA G 107)), (1, .int (nI j))]) C dX8_meterAt_1 (by decide) rfl ?_
  have lp2 : ∀ (fu : Nat) (k : Nat), (k < vN V) → (hdF V (vD V 6) k = hdF V (vD V 6) j) → k < fu → At p l e (rmD 2 0 0) s m args below meth c G 3 0 0 Q M g [(2, .int (nI k)), (0, .ref (mA G 107)), (1, .int (nI j))] 2 [] := by
    intro fu
    induction fu with
    | zero => intro k hkn hk hfu; exact absurd hfu (Nat.not_lt_zero _)
    | succ fu ih2 =>
      intro k hkn hk hfu2
      refine r_iload_n C dX8_meterAt_2 0 rfl ?_
      refine r_if_le (tgt := 26) C dX8_meterAt_3 (by decide) (fun c3 => ?_) (fun c3 => ?_)
      ·
        have hk0 : k = 0 := by rcases Nat.eq_zero_or_pos k with q | q; exact q; exact absurd c3 (nI_nle q (by omega))
        refine r_iload_n C dX8_meterAt_26 0 rfl ?_
        exact hend _ _ _ _ _ dX8_meterAt_27 (rfl) (⟨by rw [← hk, hk0]; rfl, rfl, rfl⟩)
      ·
        have hk0 : 0 < k := by rcases Nat.eq_zero_or_pos k with q | q; exact absurd (by subst q; decide) c3; exact q
        have hpk := hpar k hk0 hkn
        refine r_aload_n C dX8_meterAt_6 1 rfl ?_
        refine r_iload_n C dX8_meterAt_7 0 rfl ?_
        refine r_bipush (v := 6) C dX8_meterAt_8 rfl ?_
        refine r_callVI (As := [.int (nI k), .int 6]) (rest := []) C dX8_meterAt_10 s_X8_48 (c_X8_of l G hG M g V hW hV k hkn 6 (by decide)) (by decide) rfl rfl rfl rfl (Nat.le_of_ble_eq_true rfl) (Nat.le_of_ble_eq_true rfl) (Nat.le_of_ble_eq_true rfl) (pk_I ?_)
        refine r_if_ne (tgt := 26) C dX8_meterAt_13 (by decide) (fun c13 => ?_) (fun c13 => ?_)
        ·
          refine r_iload_n C dX8_meterAt_26 0 rfl ?_
          exact hend _ _ _ _ _ dX8_meterAt_27 (rfl) (⟨by rw [← hk, hdF_s V (vD V 6) hk0 hpk.2, if_neg c13], rfl, rfl⟩)
        ·
          refine r_aload_n C dX8_meterAt_16 1 rfl ?_
          refine r_iload_n C dX8_meterAt_17 0 rfl ?_
          refine r_iconst (v := 0) C dX8_meterAt_18 rfl ?_
          refine r_callVI (As := [.int (nI k), .int 0]) (rest := []) C dX8_meterAt_19 s_X8_48 (c_X8_of l G hG M g V hW hV k hkn 0 (by decide)) (by decide) rfl rfl rfl rfl (Nat.le_of_ble_eq_true rfl) (Nat.le_of_ble_eq_true rfl) (Nat.le_of_ble_eq_true rfl) (pk_I ?_)
          refine r_valI (y := nI (vP V k)) (hpk.1) ?_
          refine r_istore_n (L' := [(2, .int (nI (vP V k))), (0, .ref (mA G 107)), (1, .int (nI j))]) C dX8_meterAt_22 (by decide) rfl ?_
          refine r_goto (tgt := 2) C dX8_meterAt_23 (by decide) ?_
          refine r_sub (L' := [(2, .int (nI (vP V k))), (0, .ref (mA G 107)), (1, .int (nI j))]) [0, 1, 2] rfl ?_
          exact ih2 (vP V k) (by omega) (by rw [← hk, hdF_s V (vD V 6) hk0 hpk.2, if_pos c13]) (by omega)
  refine r_sub (L' := [(2, .int (nI j)), (0, .ref (mA G 107)), (1, .int (nI j))]) [0, 1, 2] rfl ?_
  exact lp2 _ j hj rfl (Nat.lt_succ_self _)

set_option maxRecDepth 20000 in
set_option maxHeartbeats 1000000 in
theorem c_X8_hasMeter (l : Launch) (G : mG) (hG : mInj G) (M : Mem) (g : Glo) (V : View) (hW : wfV V) (hV : rV (M 108) V) (j : Nat) (hj : j < vN V) : mcI l G yX8_hasMeter cX8_hasMeter 2 .boolean 2 [.ref (mA G 107), .int (nI j)] M g (fun r M' g' => yn r (j = 0 ∨ ¬ vD V 6 j = 0) ∧ M' = M ∧ g' = g) := by
  refine mcI_of (L0 := [(0, .ref (mA G 107)), (1, .int (nI j))]) hG (by decide) (Nat.le_of_ble_eq_true rfl) rfl ?_
  intro p e s m args below meth c Q C hend
  have hT := hW.1
  obtain ⟨hn1, hn16, hb4, ⟨hd0, hd3, hd5, hd6⟩, hpar⟩ := id hT
  refine r_iload_n C dX8_hasMeter_0 1 rfl ?_
  refine r_if_eq (tgt := 15) C dX8_hasMeter_1 (by decide) (fun c1 => ?_) (fun c1 => ?_)
  ·
    have hj0 : j = 0 := (nI_eq (b := 0) (by omega) (by decide)).mp c1
    refine r_iconst (v := 1) C dX8_hasMeter_15 rfl ?_
    refine r_goto (tgt := 20) C dX8_hasMeter_16 (by decide) ?_
    exact hend _ _ _ _ _ dX8_hasMeter_20 (rfl) (⟨Or.inl ⟨rfl, Or.inl hj0⟩, rfl, rfl⟩)
  ·
    have hj1 : ¬ j = 0 := fun z => c1 (by rw [z]; rfl)
    refine r_aload_n C dX8_hasMeter_4 0 rfl ?_
    refine r_iload_n C dX8_hasMeter_5 1 rfl ?_
    refine r_bipush (v := 6) C dX8_hasMeter_6 rfl ?_
    refine r_callVI (As := [.int (nI j), .int 6]) (rest := []) C dX8_hasMeter_8 s_X8_48 (c_X8_of l G hG M g V hW hV j hj 6 (by decide)) (by decide) rfl rfl rfl rfl (Nat.le_of_ble_eq_true rfl) (Nat.le_of_ble_eq_true rfl) (Nat.le_of_ble_eq_true rfl) (pk_I ?_)
    refine r_iconst (v := 1) C dX8_hasMeter_11 rfl ?_
    refine r_icmp_ne (tgt := 19) C dX8_hasMeter_12 (by decide) (fun c12 => ?_) (fun c12 => ?_)
    ·
      refine r_iconst (v := 0) C dX8_hasMeter_19 rfl ?_
      exact hend _ _ _ _ _ dX8_hasMeter_20 (rfl) (⟨Or.inr ⟨rfl, fun z => by rcases z with q | q; exact hj1 q; exact q ((hW.2.2.1 j (by omega) hj).2.2.2.2.2.resolve_right c12)⟩, rfl, rfl⟩)
    ·
      refine r_iconst (v := 1) C dX8_hasMeter_15 rfl ?_
      refine r_goto (tgt := 20) C dX8_hasMeter_16 (by decide) ?_
      exact hend _ _ _ _ _ dX8_hasMeter_20 (rfl) (⟨Or.inl ⟨rfl, Or.inr (by rw [c12]; decide)⟩, rfl, rfl⟩)

set_option maxRecDepth 20000 in
set_option maxHeartbeats 1000000 in
theorem c_X8_isBelow (l : Launch) (G : mG) (hG : mInj G) (M : Mem) (g : Glo) (V : View) (hW : wfV V) (hV : rV (M 108) V) (t n : Nat) (ht : t < vN V) (hn : n < vN V) : mcI l G yX8_isBelow cX8_isBelow 4 .boolean 2 [.ref (mA G 107), .int (nI t), .int (nI n)] M g (fun r M' g' => r = b2i (belF V n t) ∧ M' = M ∧ g' = g) := by
  refine mcI_of (L0 := [(0, .ref (mA G 107)), (1, .int (nI t)), (2, .int (nI n))]) hG (by decide) (Nat.le_of_ble_eq_true rfl) rfl ?_
  intro p e s m args below meth c Q C hend
  have hT := hW.1
  obtain ⟨hn1, hn16, hb4, ⟨hd0, hd3, hd5, hd6⟩, hpar⟩ := id hT
  refine r_iload_n C dX8_isBelow_0 1 rfl ?_
  refine r_istore_n (L' := [(3, .int (nI t)), (0, .ref (mA G 107)), (1, .int (nI t)), (2, .int (nI n))]) C dX8_isBelow_1 (by decide) rfl ?_
  have lp2 : ∀ (fu : Nat) (k : Nat) (f : Nat), (k < vN V) → (k ≤ f) → (belA V n f k = belF V n t) → k < fu → At p l e (rmD 2 0 0) s m args below meth c G 4 0 0 Q M g [(3, .int (nI k)), (0, .ref (mA G 107)), (1, .int (nI t)), (2, .int (nI n))] 2 [] := by
    intro fu
    induction fu with
    | zero => intro k f hkn hkf hb hfu; exact absurd hfu (Nat.not_lt_zero _)
    | succ fu ih2 =>
      intro k f hkn hkf hb hfu2
      refine r_iload_n C dX8_isBelow_2 0 rfl ?_
      refine r_iload_n C dX8_isBelow_3 3 rfl ?_
      refine r_icmp_le (tgt := 17) C dX8_isBelow_4 (by decide) (fun c4 => ?_) (fun c4 => ?_)
      ·
        have hle : ¬ n < k := by have := le_of_le (by omega) (by omega) c4; omega
        refine r_iload_n C dX8_isBelow_17 0 rfl ?_
        refine r_iload_n C dX8_isBelow_18 3 rfl ?_
        refine r_icmp_ne (tgt := 26) C dX8_isBelow_19 (by decide) (fun c19 => ?_) (fun c19 => ?_)
        ·
          refine r_iconst (v := 0) C dX8_isBelow_26 rfl ?_
          exact hend _ _ _ _ _ dX8_isBelow_27 (rfl) (⟨by rw [← hb, belA_e hle, decide_eq_false (fun z => c19 (by rw [z]))]; rfl, rfl, rfl⟩)
        ·
          refine r_iconst (v := 1) C dX8_isBelow_22 rfl ?_
          refine r_goto (tgt := 27) C dX8_isBelow_23 (by decide) ?_
          exact hend _ _ _ _ _ dX8_isBelow_27 (rfl) (⟨by rw [← hb, belA_e hle, decide_eq_true ((nI_eq (by omega) (by omega)).mp c19)]; rfl, rfl, rfl⟩)
      ·
        have hlt : n < k := lt_of_nle (by omega) c4
        have hpk := hpar k (by omega) hkn
        refine r_aload_n C dX8_isBelow_7 1 rfl ?_
        refine r_iload_n C dX8_isBelow_8 0 rfl ?_
        refine r_iconst (v := 0) C dX8_isBelow_9 rfl ?_
        refine r_callVI (As := [.int (nI k), .int 0]) (rest := []) C dX8_isBelow_10 s_X8_48 (c_X8_of l G hG M g V hW hV k hkn 0 (by decide)) (by decide) rfl rfl rfl rfl (Nat.le_of_ble_eq_true rfl) (Nat.le_of_ble_eq_true rfl) (Nat.le_of_ble_eq_true rfl) (pk_I ?_)
        refine r_valI (y := nI (vP V k)) (hpk.1) ?_
        refine r_istore_n (L' := [(3, .int (nI (vP V k))), (0, .ref (mA G 107)), (1, .int (nI t)), (2, .int (nI n))]) C dX8_isBelow_13 (by decide) rfl ?_
        refine r_goto (tgt := 2) C dX8_isBelow_14 (by decide) ?_
        refine r_sub (L' := [(3, .int (nI (vP V k))), (0, .ref (mA G 107)), (1, .int (nI t)), (2, .int (nI n))]) [0, 1, 2, 3] rfl ?_
        exact ih2 (vP V k) (f - 1) (by omega) (by omega) (by rw [← hb, belA_s (by omega) hlt]) (by omega)
  refine r_sub (L' := [(3, .int (nI t)), (0, .ref (mA G 107)), (1, .int (nI t)), (2, .int (nI n))]) [0, 1, 2, 3] rfl ?_
  exact lp2 _ t t ht (Nat.le_refl _) rfl (Nat.lt_succ_self _)
