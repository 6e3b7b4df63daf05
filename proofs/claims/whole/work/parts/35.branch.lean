def bRow (V : View) (j : Nat) : Nat → Int32
  | 0 => (1 : Int32) <<< (nI j &&& 31)
  | k + 1 => if j < k ∧ ¬ ((bRow V j k >>> (nI (vP V k) &&& 31)) &&& 1) = 0 then bRow V j k ||| ((1 : Int32) <<< (nI k &&& 31)) else bRow V j k
def usr (x y : Int32) : Int32 := (x.toUInt32 >>> (y.toUInt32 &&& Int32.toUInt32 31)).toInt32
def bc1 (x : Int32) : Int32 := x - (usr x 1 &&& 1431655765)
def bc2 (x : Int32) : Int32 := (x &&& 858993459) + (usr x 2 &&& 858993459)
def bc3 (x : Int32) : Int32 := (x + usr x 4) &&& 252645135
def bc4 (x : Int32) : Int32 := x + usr x 8
def bc5 (x : Int32) : Int32 := (x + usr x 16) &&& 63
def bcW (x : Int32) : Int32 := bc5 (bc4 (bc3 (bc2 (bc1 x))))
theorem s_X3_48 : mSs RX3 48 yJ6_bitCount_0f7a4 cJ6_bitCount_0f7a4 1 (some .int) 1 := ⟨⟨gd_t 530 (by decide +kernel) rfl, gd_t 18 (by decide +kernel) rfl, gd_t 532 (by decide +kernel) rfl, by decide, by decide, by decide +kernel, by decide⟩, gd_t 531 (by decide +kernel) rfl⟩
def branchF (V : View) (j : Nat) : Int32 := bcW (bRow V j (vN V))
theorem bRow_lo (V : View) (j : Nat) : ∀ k, k ≤ j + 1 → bRow V j k = (1 : Int32) <<< (nI j &&& 31)
  | 0, _ => rfl
  | k + 1, h => by
    rw [bRow, if_neg (fun z => by omega)]
    exact bRow_lo V j k (by omega)

set_option maxRecDepth 20000 in
set_option maxHeartbeats 1000000 in
theorem c_J6_bitCount (l : Launch) (G : mG) (hG : mInj G) (M : Mem) (g : Glo) (x : Int32) : mcI l G yJ6_bitCount_0f7a4 cJ6_bitCount_0f7a4 1 .int 1 [.int x] M g (fun r M' g' => r = bcW x ∧ M' = M ∧ g' = g) := by
  refine mcI_of (L0 := [(0, .int x)]) hG (by decide) (Nat.le_of_ble_eq_true rfl) rfl ?_
  intro p e s m args below meth c Q C hend
  refine r_iload_n C dJ6_bitCount_0f7a4_0 0 rfl ?_
  refine r_iload_n C dJ6_bitCount_0f7a4_1 0 rfl ?_
  refine r_iconst (v := 1) C dJ6_bitCount_0f7a4_2 rfl ?_
  refine r_iushr C dJ6_bitCount_0f7a4_3 ?_
  refine r_ldcw (v := 1431655765) C dJ6_bitCount_0f7a4_4 (gd_t 533 (by decide +kernel) rfl) ?_
  refine r_iand C dJ6_bitCount_0f7a4_7 ?_
  refine r_isub C dJ6_bitCount_0f7a4_8 ?_
  refine r_istore_n (L' := [(0, .int (x - ((usr x 1) &&& 1431655765)))]) C dJ6_bitCount_0f7a4_9 (by decide) rfl ?_
  refine r_iload_n C dJ6_bitCount_0f7a4_10 0 rfl ?_
  refine r_ldcw (v := 858993459) C dJ6_bitCount_0f7a4_11 (gd_t 534 (by decide +kernel) rfl) ?_
  refine r_iand C dJ6_bitCount_0f7a4_14 ?_
  refine r_iload_n C dJ6_bitCount_0f7a4_15 0 rfl ?_
  refine r_iconst (v := 2) C dJ6_bitCount_0f7a4_16 rfl ?_
  refine r_iushr C dJ6_bitCount_0f7a4_17 ?_
  refine r_ldcw (v := 858993459) C dJ6_bitCount_0f7a4_18 (gd_t 534 (by decide +kernel) rfl) ?_
  refine r_iand C dJ6_bitCount_0f7a4_21 ?_
  refine r_iadd C dJ6_bitCount_0f7a4_22 ?_
  refine r_istore_n (L' := [(0, .int (((x - ((usr x 1) &&& 1431655765)) &&& 858993459) + ((usr (x - ((usr x 1) &&& 1431655765)) 2) &&& 858993459)))]) C dJ6_bitCount_0f7a4_23 (by decide) rfl ?_
  refine r_iload_n C dJ6_bitCount_0f7a4_24 0 rfl ?_
  refine r_iload_n C dJ6_bitCount_0f7a4_25 0 rfl ?_
  refine r_iconst (v := 4) C dJ6_bitCount_0f7a4_26 rfl ?_
  refine r_iushr C dJ6_bitCount_0f7a4_27 ?_
  refine r_iadd C dJ6_bitCount_0f7a4_28 ?_
  refine r_ldcw (v := 252645135) C dJ6_bitCount_0f7a4_29 (gd_t 535 (by decide +kernel) rfl) ?_
  refine r_iand C dJ6_bitCount_0f7a4_32 ?_
  refine r_istore_n (L' := [(0, .int (((((x - ((usr x 1) &&& 1431655765)) &&& 858993459) + ((usr (x - ((usr x 1) &&& 1431655765)) 2) &&& 858993459)) + (usr (((x - ((usr x 1) &&& 1431655765)) &&& 858993459) + ((usr (x - ((usr x 1) &&& 1431655765)) 2) &&& 858993459)) 4)) &&& 252645135))]) C dJ6_bitCount_0f7a4_33 (by decide) rfl ?_
  refine r_iload_n C dJ6_bitCount_0f7a4_34 0 rfl ?_
  refine r_iload_n C dJ6_bitCount_0f7a4_35 0 rfl ?_
  refine r_bipush (v := 8) C dJ6_bitCount_0f7a4_36 rfl ?_
  refine r_iushr C dJ6_bitCount_0f7a4_38 ?_
  refine r_iadd C dJ6_bitCount_0f7a4_39 ?_
  refine r_istore_n (L' := [(0, .int ((((((x - ((usr x 1) &&& 1431655765)) &&& 858993459) + ((usr (x - ((usr x 1) &&& 1431655765)) 2) &&& 858993459)) + (usr (((x - ((usr x 1) &&& 1431655765)) &&& 858993459) + ((usr (x - ((usr x 1) &&& 1431655765)) 2) &&& 858993459)) 4)) &&& 252645135) + (usr (((((x - ((usr x 1) &&& 1431655765)) &&& 858993459) + ((usr (x - ((usr x 1) &&& 1431655765)) 2) &&& 858993459)) + (usr (((x - ((usr x 1) &&& 1431655765)) &&& 858993459) + ((usr (x - ((usr x 1) &&& 1431655765)) 2) &&& 858993459)) 4)) &&& 252645135) 8)))]) C dJ6_bitCount_0f7a4_40 (by decide) rfl ?_
  refine r_iload_n C dJ6_bitCount_0f7a4_41 0 rfl ?_
  refine r_iload_n C dJ6_bitCount_0f7a4_42 0 rfl ?_
  refine r_bipush (v := 16) C dJ6_bitCount_0f7a4_43 rfl ?_
  refine r_iushr C dJ6_bitCount_0f7a4_45 ?_
  refine r_iadd C dJ6_bitCount_0f7a4_46 ?_
  refine r_istore_n (L' := [(0, .int (((((((x - ((usr x 1) &&& 1431655765)) &&& 858993459) + ((usr (x - ((usr x 1) &&& 1431655765)) 2) &&& 858993459)) + (usr (((x - ((usr x 1) &&& 1431655765)) &&& 858993459) + ((usr (x - ((usr x 1) &&& 1431655765)) 2) &&& 858993459)) 4)) &&& 252645135) + (usr (((((x - ((usr x 1) &&& 1431655765)) &&& 858993459) + ((usr (x - ((usr x 1) &&& 1431655765)) 2) &&& 858993459)) + (usr (((x - ((usr x 1) &&& 1431655765)) &&& 858993459) + ((usr (x - ((usr x 1) &&& 1431655765)) 2) &&& 858993459)) 4)) &&& 252645135) 8)) + (usr ((((((x - ((usr x 1) &&& 1431655765)) &&& 858993459) + ((usr (x - ((usr x 1) &&& 1431655765)) 2) &&& 858993459)) + (usr (((x - ((usr x 1) &&& 1431655765)) &&& 858993459) + ((usr (x - ((usr x 1) &&& 1431655765)) 2) &&& 858993459)) 4)) &&& 252645135) + (usr (((((x - ((usr x 1) &&& 1431655765)) &&& 858993459) + ((usr (x - ((usr x 1) &&& 1431655765)) 2) &&& 858993459)) + (usr (((x - ((usr x 1) &&& 1431655765)) &&& 858993459) + ((usr (x - ((usr x 1) &&& 1431655765)) 2) &&& 858993459)) 4)) &&& 252645135) 8)) 16)))]) C dJ6_bitCount_0f7a4_47 (by decide) rfl ?_
  refine r_iload_n C dJ6_bitCount_0f7a4_48 0 rfl ?_
  refine r_bipush (v := 63) C dJ6_bitCount_0f7a4_49 rfl ?_
  refine r_iand C dJ6_bitCount_0f7a4_51 ?_
  exact hend _ _ _ _ _ dJ6_bitCount_0f7a4_52 (rfl) (⟨rfl, rfl, rfl⟩)

set_option maxRecDepth 20000 in
set_option maxHeartbeats 1000000 in
theorem c_X3_branchOf (l : Launch) (G : mG) (hG : mInj G) (M : Mem) (g : Glo) (V : View) (hT : wfT V) (hV : cNet M 2 V) (j : Nat) (hj : j < vN V) : mcI l G yX3_branchOf cX3_branchOf 4 .int 2 [.ref (mA G 2), .int (nI j)] M g (fun r M' g' => r = branchF V j ∧ M' = M ∧ g' = g) := by
  refine mcI_of (L0 := [(0, .ref (mA G 2)), (1, .int (nI j))]) hG (by decide) (Nat.le_of_ble_eq_true rfl) rfl ?_
  intro p e s m args below meth c Q C hend
  obtain ⟨hn1, hn16, hb4, ⟨hd0, hd3, hd5, hd6⟩, hpar⟩ := id hT
  refine r_iconst (v := 1) C dX3_branchOf_0 rfl ?_
  refine r_iload_n C dX3_branchOf_1 1 rfl ?_
  refine r_ishl C dX3_branchOf_2 ?_
  refine r_istore_n (L' := [(2, .int (1 <<< ((nI j) &&& 31))), (0, .ref (mA G 2)), (1, .int (nI j))]) C dX3_branchOf_3 (by decide) rfl ?_
  refine r_iload_n C dX3_branchOf_4 2 rfl ?_
  refine r_iconst (v := 1) C dX3_branchOf_5 rfl ?_
  refine r_iadd C dX3_branchOf_6 ?_
  refine r_valI (y := nI (j + 1)) (nI_inc _) ?_
  refine r_istore_n (L' := [(3, .int (nI (j + 1))), (2, .int (1 <<< ((nI j) &&& 31))), (0, .ref (mA G 2)), (1, .int (nI j))]) C dX3_branchOf_7 (by decide) rfl ?_
  have lp8 : ∀ (fu : Nat) (k : Nat) (x : Int32), (j < k) → (k ≤ vN V) → (x = bRow V j k) → (vN V - k) < fu → At p l e (rmD 2 0 0) s m args below meth c G 4 0 0 Q M g [(3, .int (nI k)), (2, .int x), (0, .ref (mA G 2)), (1, .int (nI j))] 8 [] := by
    intro fu
    induction fu with
    | zero => intro k x hjk hkn hx hfu; exact absurd hfu (Nat.not_lt_zero _)
    | succ fu ih8 =>
      intro k x hjk hkn hx hfu8
      refine r_iload_n C dX3_branchOf_8 0 rfl ?_
      refine r_aload_n C dX3_branchOf_9 2 rfl ?_
      refine r_geti C dX3_branchOf_10 8 f_X3_36 rfl rfl ?_
      refine r_valI (y := nI (vN V)) (hV.1) ?_
      refine r_icmp_ge (tgt := 49) C dX3_branchOf_13 (by decide) (fun c13 => ?_) (fun c13 => ?_)
      ·
        have hkn2 : k = vN V := by have := le_of_le (by omega) (by omega) c13; omega
        refine r_iload_n C dX3_branchOf_49 1 rfl ?_
        refine r_callSI (As := [.int x]) (rest := []) C dX3_branchOf_50 s_X3_48 (c_J6_bitCount l G hG M g x) (by decide) rfl rfl (Nat.le_of_ble_eq_true rfl) (Nat.le_of_ble_eq_true rfl) (Nat.le_of_ble_eq_true rfl) (pk_I ?_)
        exact hend _ _ _ _ _ dX3_branchOf_53 (rfl) (⟨by rw [hx, hkn2]; rfl, rfl, rfl⟩)
      ·
        have hlt : k < vN V := lt_of_nle (by omega) c13
        refine r_aload_n C dX3_branchOf_16 2 rfl ?_
        refine r_iload_n C dX3_branchOf_17 0 rfl ?_
        refine r_callVI (As := [.int (nI k)]) (rest := []) C dX3_branchOf_18 s_X3_44 (c_X3_hasParent l G hG M g V hT hV k (by omega) hlt) (by decide) rfl rfl rfl rfl (Nat.le_of_ble_eq_true rfl) (Nat.le_of_ble_eq_true rfl) (Nat.le_of_ble_eq_true rfl) (pk_I ?_)
        refine r_if_eq (tgt := 43) C dX3_branchOf_21 (by decide) (fun h => absurd h ((by decide : ¬ (1 : Int32) = 0))) (fun _ => ?_)
        refine r_iload_n C dX3_branchOf_24 1 rfl ?_
        refine r_aload_n C dX3_branchOf_25 2 rfl ?_
        refine r_getr (q2 := 3) C dX3_branchOf_26 0 f_X3_9 rfl rfl ?_
        refine r_iload_n C dX3_branchOf_29 0 rfl ?_
        refine r_ialdN (j := k) (v := nI (vP V k)) C dX3_branchOf_30 rfl (rfl) (by omega) (by decide) ((hV.at 0 (by decide) hlt).trans (hpar k (by omega) hlt).1) ?_
        refine r_ishr C dX3_branchOf_31 ?_
        refine r_iconst (v := 1) C dX3_branchOf_32 rfl ?_
        refine r_iand C dX3_branchOf_33 ?_
        refine r_if_eq (tgt := 43) C dX3_branchOf_34 (by decide) (fun c34 => ?_) (fun c34 => ?_)
        ·
          refine r_iinc (v := nI (k + 1)) (L' := [(3, .int (nI (k + 1))), (2, .int x), (0, .ref (mA G 2)), (1, .int (nI j))]) C dX3_branchOf_43 0 rfl (nI_inc _) (by decide) rfl ?_
          refine r_goto (tgt := 8) C dX3_branchOf_46 (by decide) ?_
          refine r_sub (L' := [(3, .int (nI (k + 1))), (2, .int x), (0, .ref (mA G 2)), (1, .int (nI j))]) [0, 1, 2, 3] rfl ?_
          exact ih8 (k + 1) x (by omega) (by omega) (by rw [hx, bRow, if_neg (fun z => z.2 (by rw [← hx]; exact c34))]) (by omega)
        ·
          refine r_iload_n C dX3_branchOf_37 1 rfl ?_
          refine r_iconst (v := 1) C dX3_branchOf_38 rfl ?_
          refine r_iload_n C dX3_branchOf_39 0 rfl ?_
          refine r_ishl C dX3_branchOf_40 ?_
          refine r_ior C dX3_branchOf_41 ?_
          refine r_istore_n (L' := [(2, .int (x ||| (1 <<< ((nI k) &&& 31)))), (3, .int (nI k)), (0, .ref (mA G 2)), (1, .int (nI j))]) C dX3_branchOf_42 (by decide) rfl ?_
          refine r_iinc (v := nI (k + 1)) (L' := [(3, .int (nI (k + 1))), (2, .int (x ||| (1 <<< ((nI k) &&& 31)))), (0, .ref (mA G 2)), (1, .int (nI j))]) C dX3_branchOf_43 1 rfl (nI_inc _) (by decide) rfl ?_
          refine r_goto (tgt := 8) C dX3_branchOf_46 (by decide) ?_
          refine r_sub (L' := [(3, .int (nI (k + 1))), (2, .int (x ||| (1 <<< ((nI k) &&& 31)))), (0, .ref (mA G 2)), (1, .int (nI j))]) [0, 1, 2, 3] rfl ?_
          exact ih8 (k + 1) _ (by omega) (by omega) (by rw [hx, bRow, if_pos ⟨by omega, by rw [← hx]; exact c34⟩]) (by omega)
  refine r_sub (L' := [(3, .int (nI (j + 1))), (2, .int (1 <<< ((nI j) &&& 31))), (0, .ref (mA G 2)), (1, .int (nI j))]) [0, 1, 2, 3] rfl ?_
  exact lp8 _ (j + 1) _ (by omega) (by omega) (bRow_lo V j (j + 1) (Nat.le_refl _)).symm (Nat.lt_succ_self _)
