set_option maxRecDepth 20000 in
set_option maxHeartbeats 1000000 in
theorem c_L_low (l : Launch) (G : mG) (hG : mInj G) (M : Mem) (g : Glo) (x : Int32) (n : Nat) (h0 : 0 < n) (hn : n < 2 ^ 31) : mcI l G yL_low cL_low 2 .int 1 [.int x, .int (nI n)] M g (fun r M' g' => (∃ j, j < n ∧ r = nI j) ∧ M' = M ∧ g' = g) := by
  refine mcI_of (L0 := [(0, .int x), (1, .int (nI n))]) hG (by decide) (Nat.le_of_ble_eq_true rfl) rfl ?_
  intro p e s m args below meth c Q C hend
  obtain ⟨q, hq, eq⟩ := pk_andE x (m := 2147483647) 31 (by decide)
  refine r_iload_n C dL_low_0 0 rfl ?_
  refine r_ldc (v := 2147483647) C dL_low_1 (gd_t 377 (by decide +kernel) rfl) ?_
  refine r_iand C dL_low_3 ?_
  refine r_valI (y := nI q) (eq) ?_
  refine r_iload_n C dL_low_4 1 rfl ?_
  refine r_irem C dL_low_5 (nI_ne0 (by omega) (by omega)) ?_
  refine r_valI (y := nI (q % n)) (pk_rem (a := q) (d := n) (by omega) (by omega) (by omega)) ?_
  exact hend _ _ _ _ _ dL_low_6 (rfl) (⟨⟨q % n, Nat.mod_lt _ h0, rfl⟩, rfl, rfl⟩)

set_option maxRecDepth 20000 in
set_option maxHeartbeats 1000000 in
theorem c_L_begins (l : Launch) (G : mG) (hG : mInj G) (M : Mem) (g : Glo)  : mcV l G yL_begins cL_begins 1 1 [.ref (mA G 107)] M g (fun M' g' => M' = mset (mset (mset (mset (mset (mset M 107 0 800) 107 1 80) 107 2 50) 107 3 400) 107 4 10) 107 5 1 ∧ g' = g) := by
  refine mcV_of (L0 := [(0, .ref (mA G 107))]) hG (by decide) (Nat.le_of_ble_eq_true rfl) rfl ?_
  intro p e s m args below meth c Q C hend
  refine r_aload_n C dL_begins_0 0 rfl ?_
  refine r_iconst (v := 0) C dL_begins_1 rfl ?_
  refine r_sipush (v := 800) C dL_begins_2 rfl ?_
  refine r_iastN (j := 0) C dL_begins_5 rfl (rfl) (by omega) (by decide) ?_
  refine r_aload_n C dL_begins_6 0 rfl ?_
  refine r_iconst (v := 1) C dL_begins_7 rfl ?_
  refine r_bipush (v := 80) C dL_begins_8 rfl ?_
  refine r_iastN (j := 1) C dL_begins_10 rfl (rfl) (by omega) (by decide) ?_
  refine r_aload_n C dL_begins_11 0 rfl ?_
  refine r_iconst (v := 2) C dL_begins_12 rfl ?_
  refine r_bipush (v := 50) C dL_begins_13 rfl ?_
  refine r_iastN (j := 2) C dL_begins_15 rfl (rfl) (by omega) (by decide) ?_
  refine r_aload_n C dL_begins_16 0 rfl ?_
  refine r_iconst (v := 3) C dL_begins_17 rfl ?_
  refine r_sipush (v := 400) C dL_begins_18 rfl ?_
  refine r_iastN (j := 3) C dL_begins_21 rfl (rfl) (by omega) (by decide) ?_
  refine r_aload_n C dL_begins_22 0 rfl ?_
  refine r_iconst (v := 4) C dL_begins_23 rfl ?_
  refine r_bipush (v := 10) C dL_begins_24 rfl ?_
  refine r_iastN (j := 4) C dL_begins_26 rfl (rfl) (by omega) (by decide) ?_
  refine r_aload_n C dL_begins_27 0 rfl ?_
  refine r_iconst (v := 5) C dL_begins_28 rfl ?_
  refine r_iconst (v := 1) C dL_begins_29 rfl ?_
  refine r_iastN (j := 5) C dL_begins_30 rfl (rfl) (by omega) (by decide) ?_
  exact hend _ _ _ _ dL_begins_31 (⟨rfl, rfl⟩)

set_option maxRecDepth 20000 in
set_option maxHeartbeats 1000000 in
theorem c_L_below (l : Launch) (G : mG) (hG : mInj G) (M : Mem) (g : Glo) (V : View) (hW : wfV V) (hE : eOK M V) (t n : Nat) (ht : t < vN V) (hn : n < vN V) : mcI l G yL_below cL_below 4 .boolean 1 [.ref (mA G 108), .int (nI t), .int (nI n)] M g (fun r M' g' => r = b2i (belF V n t) ∧ M' = M ∧ g' = g) := by
  refine mcI_of (L0 := [(0, .ref (mA G 108)), (1, .int (nI t)), (2, .int (nI n))]) hG (by decide) (Nat.le_of_ble_eq_true rfl) rfl ?_
  intro p e s m args below meth c Q C hend
  have hT := hW.1
  obtain ⟨hn1, hn16, hb4, ⟨hd0, hd3, hd5, hd6⟩, hpar⟩ := id hT
  have h8 := hE.le
  refine r_iload_n C dL_below_0 1 rfl ?_
  refine r_istore_n (L' := [(3, .int (nI t)), (0, .ref (mA G 108)), (1, .int (nI t)), (2, .int (nI n))]) C dL_below_1 (by decide) rfl ?_
  have lp2 : ∀ (fu : Nat) (k : Nat) (f : Nat), (k < vN V) → (k ≤ f) → (belA V n f k = belF V n t) → k < fu → At p l e (rmD 1 0 0) s m args below meth c G 4 0 0 Q M g [(3, .int (nI k)), (0, .ref (mA G 108)), (1, .int (nI t)), (2, .int (nI n))] 2 [] := by
    intro fu
    induction fu with
    | zero => intro k f hkn hkf hb hfu; exact absurd hfu (Nat.not_lt_zero _)
    | succ fu ih2 =>
      intro k f hkn hkf hb hfu2
      refine r_iload_n C dL_below_2 0 rfl ?_
      refine r_iload_n C dL_below_3 3 rfl ?_
      refine r_icmp_le (tgt := 17) C dL_below_4 (by decide) (fun c4 => ?_) (fun c4 => ?_)
      ·
        have hle : ¬ n < k := by have := le_of_le (by omega) (by omega) c4; omega
        refine r_iload_n C dL_below_17 0 rfl ?_
        refine r_iload_n C dL_below_18 3 rfl ?_
        refine r_icmp_ne (tgt := 26) C dL_below_19 (by decide) (fun c19 => ?_) (fun c19 => ?_)
        ·
          refine r_iconst (v := 0) C dL_below_26 rfl ?_
          exact hend _ _ _ _ _ dL_below_27 (rfl) (⟨by rw [← hb, belA_e hle, decide_eq_false (fun z => c19 (by rw [z]))]; rfl, rfl, rfl⟩)
        ·
          refine r_iconst (v := 1) C dL_below_22 rfl ?_
          refine r_goto (tgt := 27) C dL_below_23 (by decide) ?_
          exact hend _ _ _ _ _ dL_below_27 (rfl) (⟨by rw [← hb, belA_e hle, decide_eq_true ((nI_eq (by omega) (by omega)).mp c19)]; rfl, rfl, rfl⟩)
      ·
        have hlt : n < k := lt_of_nle (by omega) c4
        have hpk := hpar k (by omega) hkn
        refine r_aload_n C dL_below_7 1 rfl ?_
        refine r_bipush (v := 8) C dL_below_8 rfl ?_
        refine r_iload_n C dL_below_10 0 rfl ?_
        refine r_imul C dL_below_11 ?_
        refine r_valI (y := nI (8 * k)) (pk_mul 8 k) ?_
        refine r_ialdN (j := 8 * k) (v := nI (vP V k)) C dL_below_12 rfl (rfl) (by omega) (by decide) (hE.par hT k (by omega) hkn) ?_
        refine r_istore_n (L' := [(3, .int (nI (vP V k))), (0, .ref (mA G 108)), (1, .int (nI t)), (2, .int (nI n))]) C dL_below_13 (by decide) rfl ?_
        refine r_goto (tgt := 2) C dL_below_14 (by decide) ?_
        refine r_sub (L' := [(3, .int (nI (vP V k))), (0, .ref (mA G 108)), (1, .int (nI t)), (2, .int (nI n))]) [0, 1, 2, 3] rfl ?_
        exact ih2 (vP V k) (f - 1) (by omega) (by omega) (by rw [← hb, belA_s (by omega) hlt]) (by omega)
  refine r_sub (L' := [(3, .int (nI t)), (0, .ref (mA G 108)), (1, .int (nI t)), (2, .int (nI n))]) [0, 1, 2, 3] rfl ?_
  exact lp2 _ t t ht (Nat.le_refl _) rfl (Nat.lt_succ_self _)

set_option maxRecDepth 20000 in
set_option maxHeartbeats 1000000 in
theorem c_L_bill (l : Launch) (G : mG) (hG : mInj G) (M : Mem) (g : Glo) (V : View) (hW : wfV V) (n : Nat) (hd : M 108 (8 * n + 3) = vD V 3 n) (h2 : M 107 2 = vS V 2) (h3 : M 107 3 = vS V 3) (h4 : M 107 4 = vS V 4) (h8 : vN V ≤ 8) (hO : tOK (M 110) V) (h0 : 0 < n) (hn : n < vN V) : mcI l G yL_bill cL_bill 5 .int 1 [.ref (mA G 107), .ref (mA G 108), .ref (mA G 110), .int (nI n)] M g (fun r M' g' => r = billF V n ∧ M' = M ∧ g' = g) := by
  refine mcI_of (L0 := [(0, .ref (mA G 107)), (1, .ref (mA G 108)), (2, .ref (mA G 110)), (3, .int (nI n))]) hG (by decide) (Nat.le_of_ble_eq_true rfl) rfl ?_
  intro p e s m args below meth c Q C hend
  refine r_aload_n C dL_bill_0 1 rfl ?_
  refine r_bipush (v := 8) C dL_bill_1 rfl ?_
  refine r_iload_n C dL_bill_3 3 rfl ?_
  refine r_imul C dL_bill_4 ?_
  refine r_valI (y := nI (8 * n)) (pk_mul 8 n) ?_
  refine r_iconst (v := 3) C dL_bill_5 rfl ?_
  refine r_iadd C dL_bill_6 ?_
  refine r_valI (y := nI (8 * n + 3)) (nI_add (8 * n) 3) ?_
  refine r_ialdN (j := 8 * n + 3) (v := vD V 3 n) C dL_bill_7 rfl (rfl) (by omega) (by decide) (hd) ?_
  refine r_istore (L' := [(4, .int (vD V 3 n)), (0, .ref (mA G 107)), (1, .ref (mA G 108)), (2, .ref (mA G 110)), (3, .int (nI n))]) C dL_bill_8 (by decide) rfl ?_
  refine r_iload C dL_bill_10 0 rfl ?_
  refine r_aload_n C dL_bill_12 3 rfl ?_
  refine r_bipush (v := 8) C dL_bill_13 rfl ?_
  refine r_iload_n C dL_bill_15 4 rfl ?_
  refine r_iadd C dL_bill_16 ?_
  refine r_valI (y := nI (8 + n)) (nI_add 8 n) ?_
  refine r_ialdN (j := 8 + n) (v := warmF V (vSup V) n) C dL_bill_17 rfl (rfl) (by omega) (by decide) (hO.wm hn) ?_
  refine r_aload_n C dL_bill_18 3 rfl ?_
  refine r_bipush (v := 16) C dL_bill_19 rfl ?_
  refine r_iload_n C dL_bill_21 4 rfl ?_
  refine r_iadd C dL_bill_22 ?_
  refine r_valI (y := nI (16 + n)) (nI_add 16 n) ?_
  refine r_ialdN (j := 16 + n) (v := rF V (vSup V) n) C dL_bill_23 rfl (rfl) (by omega) (by decide) (hO.rt h0 hn) ?_
  refine r_isub C dL_bill_24 ?_
  refine r_imul C dL_bill_25 ?_
  refine r_aload_n C dL_bill_26 1 rfl ?_
  refine r_iconst (v := 2) C dL_bill_27 rfl ?_
  refine r_ialdN (j := 2) (v := vS V 2) C dL_bill_28 rfl (rfl) (by omega) (by decide) (h2) ?_
  refine r_imul C dL_bill_29 ?_
  refine r_sipush (v := 1000) C dL_bill_30 rfl ?_
  refine r_idiv C dL_bill_33 (by decide) ?_
  refine r_iload C dL_bill_34 0 rfl ?_
  refine r_aload_n C dL_bill_36 3 rfl ?_
  refine r_bipush (v := 16) C dL_bill_37 rfl ?_
  refine r_iload_n C dL_bill_39 4 rfl ?_
  refine r_iadd C dL_bill_40 ?_
  refine r_valI (y := nI (16 + n)) (nI_add 16 n) ?_
  refine r_ialdN (j := 16 + n) (v := rF V (vSup V) n) C dL_bill_41 rfl (rfl) (by omega) (by decide) (hO.rt h0 hn) ?_
  refine r_aload_n C dL_bill_42 1 rfl ?_
  refine r_iconst (v := 3) C dL_bill_43 rfl ?_
  refine r_ialdN (j := 3) (v := vS V 3) C dL_bill_44 rfl (rfl) (by omega) (by decide) (h3) ?_
  refine r_isub C dL_bill_45 ?_
  refine r_imul C dL_bill_46 ?_
  refine r_aload_n C dL_bill_47 1 rfl ?_
  refine r_iconst (v := 4) C dL_bill_48 rfl ?_
  refine r_ialdN (j := 4) (v := vS V 4) C dL_bill_49 rfl (rfl) (by omega) (by decide) (h4) ?_
  refine r_imul C dL_bill_50 ?_
  refine r_sipush (v := 1000) C dL_bill_51 rfl ?_
  refine r_idiv C dL_bill_54 (by decide) ?_
  refine r_iadd C dL_bill_55 ?_
  exact hend _ _ _ _ _ dL_bill_56 (rfl) (⟨rfl, rfl, rfl⟩)
