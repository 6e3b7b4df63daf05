theorem nx_tk {hd : Nat → Nat} {mt ib sz : Nat → Int32} {node k : Nat} {bs ls : Int32} (hb : (bs, ls) = nxS hd mt ib sz node k) (hk : 0 < k) (h1 : hd k = node) (h2 : mt k = 0) (h3 : bs = -1 ∨ absI (2 * ib k - sz node) < ls) : (nI k, absI (2 * ib k - sz node)) = nxS hd mt ib sz node (k + 1) := by
  rw [nxS, if_neg (by omega), if_pos ⟨h1, h2⟩, ← hb, if_pos h3]
theorem nx_kp {hd : Nat → Nat} {mt ib sz : Nat → Int32} {node k : Nat} {bs ls : Int32} (hb : (bs, ls) = nxS hd mt ib sz node k) (hk : 0 < k) (h1 : hd k = node) (h2 : mt k = 0) (h3 : ¬ (bs = -1 ∨ absI (2 * ib k - sz node) < ls)) : (bs, ls) = nxS hd mt ib sz node (k + 1) := by
  rw [nxS, if_neg (by omega), if_pos ⟨h1, h2⟩, ← hb, if_neg h3]
theorem nx_no {hd : Nat → Nat} {mt ib sz : Nat → Int32} {node k : Nat} {bs ls : Int32} (hb : (bs, ls) = nxS hd mt ib sz node k) (hk : 0 < k) (h : ¬ (hd k = node ∧ mt k = 0)) : (bs, ls) = nxS hd mt ib sz node (k + 1) := by
  rw [nxS, if_neg (by omega), if_neg h, ← hb]
theorem nx_ne {bs : Int32} {k : Nat} (h : bs = -1 ∨ ∃ i, i < k ∧ bs = nI i) (hk : k < 2 ^ 31) : ¬ bs = nI k := by
  intro e
  rcases h with q | ⟨i, q, r⟩
  · exact nI_nm1 hk (e.symm.trans q)
  · have := (nI_eq (by omega) hk).mp (r.symm.trans e)
    omega
theorem nx_none1 {V : View} {mt : Nat → Int32} {j : Nat} (h : balF mt (lkF V mt) j < 1) : nextF V mt j = -1 := by
  unfold nextF nextR
  rw [if_pos (Or.inl (by
    have a := i32_lt.mp h
    rw [show (1 : Int32).toInt = 1 from by decide] at a
    rw [i32_le, show (0 : Int32).toInt = 0 from by decide]
    omega))]
theorem nx_has {V : View} {mt : Nat → Int32} {j : Nat} (h : ¬ balF mt (lkF V mt) j < 1) : j = 0 ∨ ¬ mt j = 0 := by
  rcases Classical.em (j = 0 ∨ ¬ mt j = 0) with q | q
  · exact q
  · exact absurd (by unfold balF; rw [if_neg q]; decide) h
theorem nx_none2 {V : View} {mt : Nat → Int32} {j : Nat} (h : ¬ balF mt (lkF V mt) j < 1) (h2 : ¬ 2 ≤ balF mt (szF V mt) j) : nextF V mt j = -1 := by
  have e : balF mt (szF V mt) j = szF V mt j := if_pos (nx_has h)
  rw [e] at h2
  unfold nextF nextR
  rw [if_pos (Or.inr (by
    have a := i32_lt.mp (i32_nle.mp h2)
    rw [show (2 : Int32).toInt = 2 from by decide] at a
    rw [i32_le, show (1 : Int32).toInt = 1 from by decide]
    omega))]
theorem nx_some {V : View} {mt : Nat → Int32} {j : Nat} (h : ¬ balF mt (lkF V mt) j < 1) (h2 : 2 ≤ balF mt (szF V mt) j) : nextF V mt j = (nxS (hdF V mt) mt (ibF V mt) (szF V mt) j (vN V)).1 ∧ balF mt (szF V mt) j = szF V mt j := by
  have e : balF mt (szF V mt) j = szF V mt j := if_pos (nx_has h)
  rw [e] at h2
  refine ⟨?_, e⟩
  unfold nextF nextR
  rw [if_neg (fun z => by
    have a := i32_le.mp (i32_nlt.mp h)
    have b := i32_le.mp h2
    rw [show (1 : Int32).toInt = 1 from by decide] at a
    rw [show (2 : Int32).toInt = 2 from by decide] at b
    rcases z with q | q
    · have c := i32_le.mp q
      rw [show (0 : Int32).toInt = 0 from by decide] at c
      omega
    · have c := i32_le.mp q
      rw [show (1 : Int32).toInt = 1 from by decide] at c
      omega)]
theorem fn_go {nx : Nat → Int32} {k n : Nat} (h : k < n) (e : nx k = -1) : fnS nx (n - k) k = fnS nx (n - (k + 1)) (k + 1) := by
  rw [show n - k = (n - (k + 1)) + 1 by omega, fnS, if_pos e]
theorem fn_hit {nx : Nat → Int32} {k n : Nat} (h : k < n) (e : ¬ nx k = -1) : fnS nx (n - k) k = nx k := by
  rw [show n - k = (n - (k + 1)) + 1 by omega, fnS, if_neg e]
set_option maxRecDepth 20000 in
set_option maxHeartbeats 1000000 in
theorem c_X8_inBranch (l : Launch) (G : mG) (hG : mInj G) (M : Mem) (g : Glo) (V : View) (hW : wfV V) (hV : rV (M 108) V) (j t : Nat) (hj : j < vN V) (ht : t < vN V) : mcI l G yX8_inBranch cX8_inBranch 5 .int 3 [.ref (mA G 107), .int (nI j), .int (nI t)] M g (fun r M' g' => r = sumP (fun k => b2i (decide (hdF V (vD V 6) k = j) && belF V t k)) (vN V) ∧ M' = M ∧ g' = g) := by
  refine mcI_of (L0 := [(0, .ref (mA G 107)), (1, .int (nI j)), (2, .int (nI t))]) hG (by decide) (Nat.le_of_ble_eq_true rfl) rfl ?_
  intro p e s m args below meth c Q C hend
  have hT := hW.1
  obtain ⟨hn1, hn16, hb4, ⟨hd0, hd3, hd5, hd6⟩, hpar⟩ := id hT
  refine r_iconst (v := 0) C dX8_inBranch_0 rfl ?_
  refine r_istore_n (L' := [(3, .int 0), (0, .ref (mA G 107)), (1, .int (nI j)), (2, .int (nI t))]) C dX8_inBranch_1 (by decide) rfl ?_
  refine r_iconst (v := nI 1) C dX8_inBranch_2 rfl ?_
  refine r_istore (L' := [(4, .int (nI 1)), (3, .int 0), (0, .ref (mA G 107)), (1, .int (nI j)), (2, .int (nI t))]) C dX8_inBranch_3 (by decide) rfl ?_
  have lp5 : ∀ (fu : Nat) (k : Nat) (a : Int32), (0 < k) → (k ≤ vN V) → (a = sumP (fun k => b2i (decide (hdF V (vD V 6) k = j) && belF V t k)) k) → (vN V - k) < fu → At p l e (rmD 3 0 0) s m args below meth c G 5 0 0 Q M g [(4, .int (nI k)), (3, .int a), (0, .ref (mA G 107)), (1, .int (nI j)), (2, .int (nI t))] 5 [] := by
    intro fu
    induction fu with
    | zero => intro k a hk0 hkn ha hfu; exact absurd hfu (Nat.not_lt_zero _)
    | succ fu ih5 =>
      intro k a hk0 hkn ha hfu5
      refine r_iload C dX8_inBranch_5 0 rfl ?_
      refine r_aload_n C dX8_inBranch_7 2 rfl ?_
      refine r_getr (q2 := 108) C dX8_inBranch_8 0 f_X8_7 rfl rfl ?_
      refine r_iconst (v := 5) C dX8_inBranch_11 rfl ?_
      refine r_ialdN (j := 5) (v := nI (vN V)) C dX8_inBranch_12 rfl (rfl) (by omega) (by decide) (hV.1.1) ?_
      refine r_icmp_ge (tgt := 50) C dX8_inBranch_13 (by decide) (fun c13 => ?_) (fun c13 => ?_)
      ·
        have hkn2 : k = vN V := by have := le_of_le (by omega) (by omega) c13; omega
        refine r_iload_n C dX8_inBranch_50 1 rfl ?_
        exact hend _ _ _ _ _ dX8_inBranch_51 (rfl) (⟨by rw [ha, hkn2], rfl, rfl⟩)
      ·
        have hlt : k < vN V := lt_of_nle (by omega) c13
        have hdl := hdF_le hT (vD V 6) k k (Nat.le_refl _) hlt
        refine r_iload_n C dX8_inBranch_16 1 rfl ?_
        refine r_aload_n C dX8_inBranch_17 2 rfl ?_
        refine r_iload C dX8_inBranch_18 0 rfl ?_
        refine r_callVI (As := [.int (nI k)]) (rest := [.int a]) C dX8_inBranch_20 s_X8_157 (c_X8_meterAt l G hG M g V hW hV k hlt) (by decide) rfl rfl rfl rfl (Nat.le_of_ble_eq_true rfl) (Nat.le_of_ble_eq_true rfl) (Nat.le_of_ble_eq_true rfl) (pk_I ?_)
        refine r_iload_n C dX8_inBranch_23 3 rfl ?_
        refine r_icmp_ne (tgt := 41) C dX8_inBranch_24 (by decide) (fun c24 => ?_) (fun c24 => ?_)
        ·
          refine r_iconst (v := 0) C dX8_inBranch_41 rfl ?_
          refine r_valI (y := b2i (decide (hdF V (vD V 6) k = j) && belF V t k)) (by rw [decide_eq_false (fun z => c24 (by rw [z])), Bool.false_and]; rfl) ?_
          refine r_iadd C dX8_inBranch_42 ?_
          refine r_istore_n (L' := [(3, .int (a + (b2i (decide (hdF V (vD V 6) k = j) && belF V t k)))), (4, .int (nI k)), (0, .ref (mA G 107)), (1, .int (nI j)), (2, .int (nI t))]) C dX8_inBranch_43 (by decide) rfl ?_
          refine r_iinc (v := nI (k + 1)) (L' := [(4, .int (nI (k + 1))), (3, .int (a + (b2i (decide (hdF V (vD V 6) k = j) && belF V t k)))), (0, .ref (mA G 107)), (1, .int (nI j)), (2, .int (nI t))]) C dX8_inBranch_44 1 rfl (nI_inc _) (by decide) rfl ?_
          refine r_goto (tgt := 5) C dX8_inBranch_47 (by decide) ?_
          refine r_sub (L' := [(4, .int (nI (k + 1))), (3, .int (a + (b2i (decide (hdF V (vD V 6) k = j) && belF V t k)))), (0, .ref (mA G 107)), (1, .int (nI j)), (2, .int (nI t))]) [0, 1, 2, 3, 4] rfl ?_
          exact ih5 (k + 1) _ (by omega) (by omega) (by rw [ha, sumP_s _ hk0]) (by omega)
        ·
          refine r_aload_n C dX8_inBranch_27 2 rfl ?_
          refine r_iload C dX8_inBranch_28 0 rfl ?_
          refine r_iload_n C dX8_inBranch_30 4 rfl ?_
          refine r_callVI (As := [.int (nI k), .int (nI t)]) (rest := [.int a]) C dX8_inBranch_31 s_X8_117 (c_X8_isBelow l G hG M g V hW hV k t hlt ht) (by decide) rfl rfl rfl rfl (Nat.le_of_ble_eq_true rfl) (Nat.le_of_ble_eq_true rfl) (Nat.le_of_ble_eq_true rfl) (pk_I ?_)
          refine r_if_eq (tgt := 41) C dX8_inBranch_34 (by decide) (fun c34 => ?_) (fun c34 => ?_)
          ·
            refine r_iconst (v := 0) C dX8_inBranch_41 rfl ?_
            refine r_valI (y := b2i (decide (hdF V (vD V 6) k = j) && belF V t k)) (by rw [b2i_0.mp c34, Bool.and_false]; rfl) ?_
            refine r_iadd C dX8_inBranch_42 ?_
            refine r_istore_n (L' := [(3, .int (a + (b2i (decide (hdF V (vD V 6) k = j) && belF V t k)))), (4, .int (nI k)), (0, .ref (mA G 107)), (1, .int (nI j)), (2, .int (nI t))]) C dX8_inBranch_43 (by decide) rfl ?_
            refine r_iinc (v := nI (k + 1)) (L' := [(4, .int (nI (k + 1))), (3, .int (a + (b2i (decide (hdF V (vD V 6) k = j) && belF V t k)))), (0, .ref (mA G 107)), (1, .int (nI j)), (2, .int (nI t))]) C dX8_inBranch_44 1 rfl (nI_inc _) (by decide) rfl ?_
            refine r_goto (tgt := 5) C dX8_inBranch_47 (by decide) ?_
            refine r_sub (L' := [(4, .int (nI (k + 1))), (3, .int (a + (b2i (decide (hdF V (vD V 6) k = j) && belF V t k)))), (0, .ref (mA G 107)), (1, .int (nI j)), (2, .int (nI t))]) [0, 1, 2, 3, 4] rfl ?_
            exact ih5 (k + 1) _ (by omega) (by omega) (by rw [ha, sumP_s _ hk0]) (by omega)
          ·
            refine r_iconst (v := 1) C dX8_inBranch_37 rfl ?_
            refine r_goto (tgt := 42) C dX8_inBranch_38 (by decide) ?_
            refine r_valI (y := b2i (decide (hdF V (vD V 6) k = j) && belF V t k)) (by rw [b2i_1.mp c34, decide_eq_true ((nI_eq (by omega) (by omega)).mp c24)]; rfl) ?_
            refine r_iadd C dX8_inBranch_42 ?_
            refine r_istore_n (L' := [(3, .int (a + (b2i (decide (hdF V (vD V 6) k = j) && belF V t k)))), (4, .int (nI k)), (0, .ref (mA G 107)), (1, .int (nI j)), (2, .int (nI t))]) C dX8_inBranch_43 (by decide) rfl ?_
            refine r_iinc (v := nI (k + 1)) (L' := [(4, .int (nI (k + 1))), (3, .int (a + (b2i (decide (hdF V (vD V 6) k = j) && belF V t k)))), (0, .ref (mA G 107)), (1, .int (nI j)), (2, .int (nI t))]) C dX8_inBranch_44 1 rfl (nI_inc _) (by decide) rfl ?_
            refine r_goto (tgt := 5) C dX8_inBranch_47 (by decide) ?_
            refine r_sub (L' := [(4, .int (nI (k + 1))), (3, .int (a + (b2i (decide (hdF V (vD V 6) k = j) && belF V t k)))), (0, .ref (mA G 107)), (1, .int (nI j)), (2, .int (nI t))]) [0, 1, 2, 3, 4] rfl ?_
            exact ih5 (k + 1) _ (by omega) (by omega) (by rw [ha, sumP_s _ hk0]) (by omega)
  refine r_sub (L' := [(4, .int (nI 1)), (3, .int 0), (0, .ref (mA G 107)), (1, .int (nI j)), (2, .int (nI t))]) [0, 1, 2, 3, 4] rfl ?_
  exact lp5 _ 1 0 (by omega) hn1 (sumP_1 _).symm (Nat.lt_succ_self _)

set_option maxRecDepth 20000 in
set_option maxHeartbeats 1000000 in
theorem c_X8_nextOf (l : Launch) (G : mG) (hG : mInj G) (M : Mem) (g : Glo) (V : View) (hW : wfV V) (hV : rV (M 108) V) (j : Nat) (hj : j < vN V) : mcI l G yX8_nextOf cX8_nextOf 6 .int 4 [.ref (mA G 107), .int (nI j)] M g (fun r M' g' => r = nextF V (vD V 6) j ∧ M' = M ∧ g' = g) := by
  refine mcI_of (L0 := [(0, .ref (mA G 107)), (1, .int (nI j))]) hG (by decide) (Nat.le_of_ble_eq_true rfl) rfl ?_
  intro p e s m args below meth c Q C hend
  have hT := hW.1
  obtain ⟨hn1, hn16, hb4, ⟨hd0, hd3, hd5, hd6⟩, hpar⟩ := id hT
  refine r_aload_n C dX8_nextOf_0 0 rfl ?_
  refine r_iload_n C dX8_nextOf_1 1 rfl ?_
  refine r_callVI (As := [.int (nI j)]) (rest := []) C dX8_nextOf_2 s_X8_160 (c_X8_balanceOf l G hG M g V hW hV j hj) (by decide) rfl rfl rfl rfl (Nat.le_of_ble_eq_true rfl) (Nat.le_of_ble_eq_true rfl) (Nat.le_of_ble_eq_true rfl) (pk_I ?_)
  refine r_iconst (v := 1) C dX8_nextOf_5 rfl ?_
  refine r_icmp_lt (tgt := 18) C dX8_nextOf_6 (by decide) (fun c6 => ?_) (fun c6 => ?_)
  ·
    refine r_iconst (v := (-1)) C dX8_nextOf_18 rfl ?_
    exact hend _ _ _ _ _ dX8_nextOf_19 (rfl) (⟨(nx_none1 c6).symm, rfl, rfl⟩)
  ·
    refine r_aload_n C dX8_nextOf_9 0 rfl ?_
    refine r_iload_n C dX8_nextOf_10 1 rfl ?_
    refine r_callVI (As := [.int (nI j)]) (rest := []) C dX8_nextOf_11 s_X8_163 (c_X8_regionOf l G hG M g V hW hV j hj) (by decide) rfl rfl rfl rfl (Nat.le_of_ble_eq_true rfl) (Nat.le_of_ble_eq_true rfl) (Nat.le_of_ble_eq_true rfl) (pk_I ?_)
    refine r_iconst (v := 2) C dX8_nextOf_14 rfl ?_
    refine r_icmp_ge (tgt := 20) C dX8_nextOf_15 (by decide) (fun c15 => ?_) (fun c15 => ?_)
    ·
      obtain ⟨hnx, hsz⟩ := nx_some c6 c15
      refine r_iconst (v := (-1)) C dX8_nextOf_20 rfl ?_
      refine r_istore_n (L' := [(2, .int (-1)), (0, .ref (mA G 107)), (1, .int (nI j))]) C dX8_nextOf_21 (by decide) rfl ?_
      refine r_iconst (v := 0) C dX8_nextOf_22 rfl ?_
      refine r_istore_n (L' := [(3, .int 0), (2, .int (-1)), (0, .ref (mA G 107)), (1, .int (nI j))]) C dX8_nextOf_23 (by decide) rfl ?_
      refine r_iconst (v := nI 1) C dX8_nextOf_24 rfl ?_
      refine r_istore (L' := [(4, .int (nI 1)), (3, .int 0), (2, .int (-1)), (0, .ref (mA G 107)), (1, .int (nI j))]) C dX8_nextOf_25 (by decide) rfl ?_
      have lp27 : ∀ (fu : Nat) (k : Nat) (bs ls : Int32), (0 < k) → (k ≤ vN V) → ((bs, ls) = nxS (hdF V (vD V 6)) (vD V 6) (ibF V (vD V 6)) (szF V (vD V 6)) j k) → (bs = -1 ∨ ∃ i, i < k ∧ bs = nI i) → (vN V - k) < fu → At p l e (rmD 4 0 0) s m args below meth c G 6 0 0 Q M g [(4, .int (nI k)), (3, .int ls), (2, .int bs), (0, .ref (mA G 107)), (1, .int (nI j))] 27 [] := by
        intro fu
        induction fu with
        | zero => intro k bs ls hk0 hkn hb hbk hfu; exact absurd hfu (Nat.not_lt_zero _)
        | succ fu ih27 =>
          intro k bs ls hk0 hkn hb hbk hfu27
          refine r_iload C dX8_nextOf_27 0 rfl ?_
          refine r_aload_n C dX8_nextOf_29 3 rfl ?_
          refine r_getr (q2 := 108) C dX8_nextOf_30 0 f_X8_7 rfl rfl ?_
          refine r_iconst (v := 5) C dX8_nextOf_33 rfl ?_
          refine r_ialdN (j := 5) (v := nI (vN V)) C dX8_nextOf_34 rfl (rfl) (by omega) (by decide) (hV.1.1) ?_
          refine r_icmp_ge (tgt := 128) C dX8_nextOf_35 (by decide) (fun c35 => ?_) (fun c35 => ?_)
          ·
            have hkn2 : k = vN V := by have := le_of_le (by omega) (by omega) c35; omega
            refine r_iload_n C dX8_nextOf_128 2 rfl ?_
            exact hend _ _ _ _ _ dX8_nextOf_129 (rfl) (⟨by have h9 := congrArg Prod.fst hb; rw [hnx, ← hkn2]; exact h9, rfl, rfl⟩)
          ·
            have hlt : k < vN V := lt_of_nle (by omega) c35
            have hdl := hdF_le hT (vD V 6) k k (Nat.le_refl _) hlt
            refine r_aload_n C dX8_nextOf_38 3 rfl ?_
            refine r_iload C dX8_nextOf_39 0 rfl ?_
            refine r_callVI (As := [.int (nI k)]) (rest := []) C dX8_nextOf_41 s_X8_157 (c_X8_meterAt l G hG M g V hW hV k hlt) (by decide) rfl rfl rfl rfl (Nat.le_of_ble_eq_true rfl) (Nat.le_of_ble_eq_true rfl) (Nat.le_of_ble_eq_true rfl) (pk_I ?_)
            refine r_iload_n C dX8_nextOf_44 4 rfl ?_
            refine r_icmp_ne (tgt := 122) C dX8_nextOf_45 (by decide) (fun c45 => ?_) (fun c45 => ?_)
            ·
              refine r_iinc (v := nI (k + 1)) (L' := [(4, .int (nI (k + 1))), (3, .int ls), (2, .int bs), (0, .ref (mA G 107)), (1, .int (nI j))]) C dX8_nextOf_122 0 rfl (nI_inc _) (by decide) rfl ?_
              refine r_goto (tgt := 27) C dX8_nextOf_125 (by decide) ?_
              refine r_sub (L' := [(4, .int (nI (k + 1))), (3, .int ls), (2, .int bs), (0, .ref (mA G 107)), (1, .int (nI j))]) [0, 1, 2, 3, 4] rfl ?_
              exact ih27 (k + 1) bs ls (by omega) (by omega) (nx_no hb hk0 (fun z => c45 (by rw [z.1]))) (hbk.imp id (fun ⟨i, a, b⟩ => ⟨i, by omega, b⟩)) (by omega)
            ·
              refine r_aload_n C dX8_nextOf_48 3 rfl ?_
              refine r_iload C dX8_nextOf_49 0 rfl ?_
              refine r_bipush (v := 6) C dX8_nextOf_51 rfl ?_
              refine r_callVI (As := [.int (nI k), .int 6]) (rest := []) C dX8_nextOf_53 s_X8_48 (c_X8_of l G hG M g V hW hV k hlt 6 (by decide)) (by decide) rfl rfl rfl rfl (Nat.le_of_ble_eq_true rfl) (Nat.le_of_ble_eq_true rfl) (Nat.le_of_ble_eq_true rfl) (pk_I ?_)
              refine r_if_ne (tgt := 122) C dX8_nextOf_56 (by decide) (fun c56 => ?_) (fun c56 => ?_)
              ·
                refine r_iinc (v := nI (k + 1)) (L' := [(4, .int (nI (k + 1))), (3, .int ls), (2, .int bs), (0, .ref (mA G 107)), (1, .int (nI j))]) C dX8_nextOf_122 0 rfl (nI_inc _) (by decide) rfl ?_
                refine r_goto (tgt := 27) C dX8_nextOf_125 (by decide) ?_
                refine r_sub (L' := [(4, .int (nI (k + 1))), (3, .int ls), (2, .int bs), (0, .ref (mA G 107)), (1, .int (nI j))]) [0, 1, 2, 3, 4] rfl ?_
                exact ih27 (k + 1) bs ls (by omega) (by omega) (nx_no hb hk0 (fun z => c56 z.2)) (hbk.imp id (fun ⟨i, a, b⟩ => ⟨i, by omega, b⟩)) (by omega)
              ·
                refine r_iconst (v := 2) C dX8_nextOf_59 rfl ?_
                refine r_aload_n C dX8_nextOf_60 3 rfl ?_
                refine r_iload_n C dX8_nextOf_61 4 rfl ?_
                refine r_iload C dX8_nextOf_62 0 rfl ?_
                refine r_callVI (As := [.int (nI j), .int (nI k)]) (rest := [.int 2]) C dX8_nextOf_64 s_X8_166 (c_X8_inBranch l G hG M g V hW hV j k hj hlt) (by decide) rfl rfl rfl rfl (Nat.le_of_ble_eq_true rfl) (Nat.le_of_ble_eq_true rfl) (Nat.le_of_ble_eq_true rfl) (pk_I ?_)
                refine r_valI (y := ibF V (vD V 6) k) (ib_eq hT hk0 hlt ((nI_eq (by omega) (by omega)).mp c45)) ?_
                refine r_imul C dX8_nextOf_67 ?_
                refine r_aload_n C dX8_nextOf_68 3 rfl ?_
                refine r_iload_n C dX8_nextOf_69 4 rfl ?_
                refine r_callVI (As := [.int (nI j)]) (rest := [.int (2 * (ibF V (vD V 6) k))]) C dX8_nextOf_70 s_X8_163 (c_X8_regionOf l G hG M g V hW hV j hj) (by decide) rfl rfl rfl rfl (Nat.le_of_ble_eq_true rfl) (Nat.le_of_ble_eq_true rfl) (Nat.le_of_ble_eq_true rfl) (pk_I ?_)
                refine r_valI (y := szF V (vD V 6) j) (hsz) ?_
                refine r_isub C dX8_nextOf_73 ?_
                refine r_istore (L' := [(5, .int ((2 * (ibF V (vD V 6) k)) - (szF V (vD V 6) j))), (4, .int (nI k)), (3, .int ls), (2, .int bs), (0, .ref (mA G 107)), (1, .int (nI j))]) C dX8_nextOf_74 (by decide) rfl ?_
                refine r_iload C dX8_nextOf_76 0 rfl ?_
                refine r_if_ge (tgt := 87) C dX8_nextOf_78 (by decide) (fun c78 => ?_) (fun c78 => ?_)
                ·
                  refine r_iload C dX8_nextOf_87 0 rfl ?_
                  refine r_valI (y := absI (2 * ibF V (vD V 6) k - szF V (vD V 6) j)) ((if_pos c78).symm) ?_
                  refine r_istore (L' := [(5, .int (absI (2 * ibF V (vD V 6) k - szF V (vD V 6) j))), (4, .int (nI k)), (3, .int ls), (2, .int bs), (0, .ref (mA G 107)), (1, .int (nI j))]) C dX8_nextOf_89 (by decide) rfl ?_
                  refine r_iload_n C dX8_nextOf_91 3 rfl ?_
                  refine r_iconst (v := (-1)) C dX8_nextOf_92 rfl ?_
                  refine r_icmp_eq (tgt := 102) C dX8_nextOf_93 (by decide) (fun c93 => ?_) (fun c93 => ?_)
                  ·
                    refine r_iload C dX8_nextOf_102 1 rfl ?_
                    refine r_goto (tgt := 108) C dX8_nextOf_104 (by decide) ?_
                    refine r_istore_n (L' := [(2, .int (nI k)), (5, .int (absI (2 * ibF V (vD V 6) k - szF V (vD V 6) j))), (4, .int (nI k)), (3, .int ls), (0, .ref (mA G 107)), (1, .int (nI j))]) C dX8_nextOf_108 (by decide) rfl ?_
                    refine r_iload_n C dX8_nextOf_109 0 rfl ?_
                    refine r_iload C dX8_nextOf_110 2 rfl ?_
                    refine r_icmp_ne (tgt := 120) C dX8_nextOf_112 (by decide) (fun h => absurd (rfl) h) (fun _ => ?_)
                    refine r_iload C dX8_nextOf_115 1 rfl ?_
                    refine r_goto (tgt := 121) C dX8_nextOf_117 (by decide) ?_
                    refine r_istore_n (L' := [(3, .int (absI (2 * ibF V (vD V 6) k - szF V (vD V 6) j))), (2, .int (nI k)), (5, .int (absI (2 * ibF V (vD V 6) k - szF V (vD V 6) j))), (4, .int (nI k)), (0, .ref (mA G 107)), (1, .int (nI j))]) C dX8_nextOf_121 (by decide) rfl ?_
                    refine r_iinc (v := nI (k + 1)) (L' := [(4, .int (nI (k + 1))), (3, .int (absI (2 * ibF V (vD V 6) k - szF V (vD V 6) j))), (2, .int (nI k)), (5, .int (absI (2 * ibF V (vD V 6) k - szF V (vD V 6) j))), (0, .ref (mA G 107)), (1, .int (nI j))]) C dX8_nextOf_122 3 rfl (nI_inc _) (by decide) rfl ?_
                    refine r_goto (tgt := 27) C dX8_nextOf_125 (by decide) ?_
                    refine r_sub (L' := [(4, .int (nI (k + 1))), (3, .int (absI (2 * ibF V (vD V 6) k - szF V (vD V 6) j))), (2, .int (nI k)), (0, .ref (mA G 107)), (1, .int (nI j))]) [0, 1, 2, 4, 5] rfl ?_
                    exact ih27 (k + 1) _ _ (by omega) (by omega) (nx_tk hb hk0 ((nI_eq (by omega) (by omega)).mp c45) c56 (Or.inl c93)) (Or.inr ⟨k, by omega, rfl⟩) (by omega)
                  ·
                    refine r_iload C dX8_nextOf_96 0 rfl ?_
                    refine r_iload_n C dX8_nextOf_98 2 rfl ?_
                    refine r_icmp_ge (tgt := 107) C dX8_nextOf_99 (by decide) (fun c99 => ?_) (fun c99 => ?_)
                    ·
                      refine r_iload_n C dX8_nextOf_107 3 rfl ?_
                      refine r_istore_n (L' := [(2, .int bs), (5, .int (absI (2 * ibF V (vD V 6) k - szF V (vD V 6) j))), (4, .int (nI k)), (3, .int ls), (0, .ref (mA G 107)), (1, .int (nI j))]) C dX8_nextOf_108 (by decide) rfl ?_
                      refine r_iload_n C dX8_nextOf_109 0 rfl ?_
                      refine r_iload C dX8_nextOf_110 2 rfl ?_
                      refine r_icmp_ne (tgt := 120) C dX8_nextOf_112 (by decide) (fun _ => ?_) (fun h => absurd h (nx_ne hbk (by omega)))
                      refine r_iload_n C dX8_nextOf_120 3 rfl ?_
                      refine r_istore_n (L' := [(3, .int ls), (2, .int bs), (5, .int (absI (2 * ibF V (vD V 6) k - szF V (vD V 6) j))), (4, .int (nI k)), (0, .ref (mA G 107)), (1, .int (nI j))]) C dX8_nextOf_121 (by decide) rfl ?_
                      refine r_iinc (v := nI (k + 1)) (L' := [(4, .int (nI (k + 1))), (3, .int ls), (2, .int bs), (5, .int (absI (2 * ibF V (vD V 6) k - szF V (vD V 6) j))), (0, .ref (mA G 107)), (1, .int (nI j))]) C dX8_nextOf_122 3 rfl (nI_inc _) (by decide) rfl ?_
                      refine r_goto (tgt := 27) C dX8_nextOf_125 (by decide) ?_
                      refine r_sub (L' := [(4, .int (nI (k + 1))), (3, .int ls), (2, .int bs), (0, .ref (mA G 107)), (1, .int (nI j))]) [0, 1, 2, 4, 5] rfl ?_
                      exact ih27 (k + 1) bs ls (by omega) (by omega) (nx_kp hb hk0 ((nI_eq (by omega) (by omega)).mp c45) c56 (fun z => z.elim c93 (fun y => absurd c99 (i32_nle.mpr y)))) (hbk.imp id (fun ⟨i, a, b⟩ => ⟨i, by omega, b⟩)) (by omega)
                    ·
                      refine r_iload C dX8_nextOf_102 1 rfl ?_
                      refine r_goto (tgt := 108) C dX8_nextOf_104 (by decide) ?_
                      refine r_istore_n (L' := [(2, .int (nI k)), (5, .int (absI (2 * ibF V (vD V 6) k - szF V (vD V 6) j))), (4, .int (nI k)), (3, .int ls), (0, .ref (mA G 107)), (1, .int (nI j))]) C dX8_nextOf_108 (by decide) rfl ?_
                      refine r_iload_n C dX8_nextOf_109 0 rfl ?_
                      refine r_iload C dX8_nextOf_110 2 rfl ?_
                      refine r_icmp_ne (tgt := 120) C dX8_nextOf_112 (by decide) (fun h => absurd (rfl) h) (fun _ => ?_)
                      refine r_iload C dX8_nextOf_115 1 rfl ?_
                      refine r_goto (tgt := 121) C dX8_nextOf_117 (by decide) ?_
                      refine r_istore_n (L' := [(3, .int (absI (2 * ibF V (vD V 6) k - szF V (vD V 6) j))), (2, .int (nI k)), (5, .int (absI (2 * ibF V (vD V 6) k - szF V (vD V 6) j))), (4, .int (nI k)), (0, .ref (mA G 107)), (1, .int (nI j))]) C dX8_nextOf_121 (by decide) rfl ?_
                      refine r_iinc (v := nI (k + 1)) (L' := [(4, .int (nI (k + 1))), (3, .int (absI (2 * ibF V (vD V 6) k - szF V (vD V 6) j))), (2, .int (nI k)), (5, .int (absI (2 * ibF V (vD V 6) k - szF V (vD V 6) j))), (0, .ref (mA G 107)), (1, .int (nI j))]) C dX8_nextOf_122 3 rfl (nI_inc _) (by decide) rfl ?_
                      refine r_goto (tgt := 27) C dX8_nextOf_125 (by decide) ?_
                      refine r_sub (L' := [(4, .int (nI (k + 1))), (3, .int (absI (2 * ibF V (vD V 6) k - szF V (vD V 6) j))), (2, .int (nI k)), (0, .ref (mA G 107)), (1, .int (nI j))]) [0, 1, 2, 4, 5] rfl ?_
                      exact ih27 (k + 1) _ _ (by omega) (by omega) (nx_tk hb hk0 ((nI_eq (by omega) (by omega)).mp c45) c56 (Or.inr (i32_nle.mp c99))) (Or.inr ⟨k, by omega, rfl⟩) (by omega)
                ·
                  refine r_iload C dX8_nextOf_81 0 rfl ?_
                  refine r_ineg C dX8_nextOf_83 ?_
                  refine r_goto (tgt := 89) C dX8_nextOf_84 (by decide) ?_
                  refine r_valI (y := absI (2 * ibF V (vD V 6) k - szF V (vD V 6) j)) (by unfold absI; rw [if_neg c78, Int32.zero_sub]) ?_
                  refine r_istore (L' := [(5, .int (absI (2 * ibF V (vD V 6) k - szF V (vD V 6) j))), (4, .int (nI k)), (3, .int ls), (2, .int bs), (0, .ref (mA G 107)), (1, .int (nI j))]) C dX8_nextOf_89 (by decide) rfl ?_
                  refine r_iload_n C dX8_nextOf_91 3 rfl ?_
                  refine r_iconst (v := (-1)) C dX8_nextOf_92 rfl ?_
                  refine r_icmp_eq (tgt := 102) C dX8_nextOf_93 (by decide) (fun c93 => ?_) (fun c93 => ?_)
                  ·
                    refine r_iload C dX8_nextOf_102 1 rfl ?_
                    refine r_goto (tgt := 108) C dX8_nextOf_104 (by decide) ?_
                    refine r_istore_n (L' := [(2, .int (nI k)), (5, .int (absI (2 * ibF V (vD V 6) k - szF V (vD V 6) j))), (4, .int (nI k)), (3, .int ls), (0, .ref (mA G 107)), (1, .int (nI j))]) C dX8_nextOf_108 (by decide) rfl ?_
                    refine r_iload_n C dX8_nextOf_109 0 rfl ?_
                    refine r_iload C dX8_nextOf_110 2 rfl ?_
                    refine r_icmp_ne (tgt := 120) C dX8_nextOf_112 (by decide) (fun h => absurd (rfl) h) (fun _ => ?_)
                    refine r_iload C dX8_nextOf_115 1 rfl ?_
                    refine r_goto (tgt := 121) C dX8_nextOf_117 (by decide) ?_
                    refine r_istore_n (L' := [(3, .int (absI (2 * ibF V (vD V 6) k - szF V (vD V 6) j))), (2, .int (nI k)), (5, .int (absI (2 * ibF V (vD V 6) k - szF V (vD V 6) j))), (4, .int (nI k)), (0, .ref (mA G 107)), (1, .int (nI j))]) C dX8_nextOf_121 (by decide) rfl ?_
                    refine r_iinc (v := nI (k + 1)) (L' := [(4, .int (nI (k + 1))), (3, .int (absI (2 * ibF V (vD V 6) k - szF V (vD V 6) j))), (2, .int (nI k)), (5, .int (absI (2 * ibF V (vD V 6) k - szF V (vD V 6) j))), (0, .ref (mA G 107)), (1, .int (nI j))]) C dX8_nextOf_122 3 rfl (nI_inc _) (by decide) rfl ?_
                    refine r_goto (tgt := 27) C dX8_nextOf_125 (by decide) ?_
                    refine r_sub (L' := [(4, .int (nI (k + 1))), (3, .int (absI (2 * ibF V (vD V 6) k - szF V (vD V 6) j))), (2, .int (nI k)), (0, .ref (mA G 107)), (1, .int (nI j))]) [0, 1, 2, 4, 5] rfl ?_
                    exact ih27 (k + 1) _ _ (by omega) (by omega) (nx_tk hb hk0 ((nI_eq (by omega) (by omega)).mp c45) c56 (Or.inl c93)) (Or.inr ⟨k, by omega, rfl⟩) (by omega)
                  ·
                    refine r_iload C dX8_nextOf_96 0 rfl ?_
                    refine r_iload_n C dX8_nextOf_98 2 rfl ?_
                    refine r_icmp_ge (tgt := 107) C dX8_nextOf_99 (by decide) (fun c99 => ?_) (fun c99 => ?_)
                    ·
                      refine r_iload_n C dX8_nextOf_107 3 rfl ?_
                      refine r_istore_n (L' := [(2, .int bs), (5, .int (absI (2 * ibF V (vD V 6) k - szF V (vD V 6) j))), (4, .int (nI k)), (3, .int ls), (0, .ref (mA G 107)), (1, .int (nI j))]) C dX8_nextOf_108 (by decide) rfl ?_
                      refine r_iload_n C dX8_nextOf_109 0 rfl ?_
                      refine r_iload C dX8_nextOf_110 2 rfl ?_
                      refine r_icmp_ne (tgt := 120) C dX8_nextOf_112 (by decide) (fun _ => ?_) (fun h => absurd h (nx_ne hbk (by omega)))
                      refine r_iload_n C dX8_nextOf_120 3 rfl ?_
                      refine r_istore_n (L' := [(3, .int ls), (2, .int bs), (5, .int (absI (2 * ibF V (vD V 6) k - szF V (vD V 6) j))), (4, .int (nI k)), (0, .ref (mA G 107)), (1, .int (nI j))]) C dX8_nextOf_121 (by decide) rfl ?_
                      refine r_iinc (v := nI (k + 1)) (L' := [(4, .int (nI (k + 1))), (3, .int ls), (2, .int bs), (5, .int (absI (2 * ibF V (vD V 6) k - szF V (vD V 6) j))), (0, .ref (mA G 107)), (1, .int (nI j))]) C dX8_nextOf_122 3 rfl (nI_inc _) (by decide) rfl ?_
                      refine r_goto (tgt := 27) C dX8_nextOf_125 (by decide) ?_
                      refine r_sub (L' := [(4, .int (nI (k + 1))), (3, .int ls), (2, .int bs), (0, .ref (mA G 107)), (1, .int (nI j))]) [0, 1, 2, 4, 5] rfl ?_
                      exact ih27 (k + 1) bs ls (by omega) (by omega) (nx_kp hb hk0 ((nI_eq (by omega) (by omega)).mp c45) c56 (fun z => z.elim c93 (fun y => absurd c99 (i32_nle.mpr y)))) (hbk.imp id (fun ⟨i, a, b⟩ => ⟨i, by omega, b⟩)) (by omega)
                    ·
                      refine r_iload C dX8_nextOf_102 1 rfl ?_
                      refine r_goto (tgt := 108) C dX8_nextOf_104 (by decide) ?_
                      refine r_istore_n (L' := [(2, .int (nI k)), (5, .int (absI (2 * ibF V (vD V 6) k - szF V (vD V 6) j))), (4, .int (nI k)), (3, .int ls), (0, .ref (mA G 107)), (1, .int (nI j))]) C dX8_nextOf_108 (by decide) rfl ?_
                      refine r_iload_n C dX8_nextOf_109 0 rfl ?_
                      refine r_iload C dX8_nextOf_110 2 rfl ?_
                      refine r_icmp_ne (tgt := 120) C dX8_nextOf_112 (by decide) (fun h => absurd (rfl) h) (fun _ => ?_)
                      refine r_iload C dX8_nextOf_115 1 rfl ?_
                      refine r_goto (tgt := 121) C dX8_nextOf_117 (by decide) ?_
                      refine r_istore_n (L' := [(3, .int (absI (2 * ibF V (vD V 6) k - szF V (vD V 6) j))), (2, .int (nI k)), (5, .int (absI (2 * ibF V (vD V 6) k - szF V (vD V 6) j))), (4, .int (nI k)), (0, .ref (mA G 107)), (1, .int (nI j))]) C dX8_nextOf_121 (by decide) rfl ?_
                      refine r_iinc (v := nI (k + 1)) (L' := [(4, .int (nI (k + 1))), (3, .int (absI (2 * ibF V (vD V 6) k - szF V (vD V 6) j))), (2, .int (nI k)), (5, .int (absI (2 * ibF V (vD V 6) k - szF V (vD V 6) j))), (0, .ref (mA G 107)), (1, .int (nI j))]) C dX8_nextOf_122 3 rfl (nI_inc _) (by decide) rfl ?_
                      refine r_goto (tgt := 27) C dX8_nextOf_125 (by decide) ?_
                      refine r_sub (L' := [(4, .int (nI (k + 1))), (3, .int (absI (2 * ibF V (vD V 6) k - szF V (vD V 6) j))), (2, .int (nI k)), (0, .ref (mA G 107)), (1, .int (nI j))]) [0, 1, 2, 4, 5] rfl ?_
                      exact ih27 (k + 1) _ _ (by omega) (by omega) (nx_tk hb hk0 ((nI_eq (by omega) (by omega)).mp c45) c56 (Or.inr (i32_nle.mp c99))) (Or.inr ⟨k, by omega, rfl⟩) (by omega)
      refine r_sub (L' := [(4, .int (nI 1)), (3, .int 0), (2, .int (-1)), (0, .ref (mA G 107)), (1, .int (nI j))]) [0, 1, 2, 3, 4] rfl ?_
      exact lp27 _ 1 (-1) 0 (by omega) hn1 rfl (Or.inl rfl) (Nat.lt_succ_self _)
    ·
      refine r_iconst (v := (-1)) C dX8_nextOf_18 rfl ?_
      exact hend _ _ _ _ _ dX8_nextOf_19 (rfl) (⟨(nx_none2 c6 c15).symm, rfl, rfl⟩)

set_option maxRecDepth 20000 in
set_option maxHeartbeats 1000000 in
theorem c_X8_firstNext (l : Launch) (G : mG) (hG : mInj G) (M : Mem) (g : Glo) (V : View) (hW : wfV V) (hV : rV (M 108) V) : mcI l G yX8_firstNext cX8_firstNext 2 .int 5 [.ref (mA G 107)] M g (fun r M' g' => r = fnF V (vD V 6) ∧ M' = M ∧ g' = g) := by
  refine mcI_of (L0 := [(0, .ref (mA G 107))]) hG (by decide) (Nat.le_of_ble_eq_true rfl) rfl ?_
  intro p e s m args below meth c Q C hend
  have hT := hW.1
  obtain ⟨hn1, hn16, hb4, ⟨hd0, hd3, hd5, hd6⟩, hpar⟩ := id hT
  refine r_iconst (v := nI 0) C dX8_firstNext_0 rfl ?_
  refine r_istore_n (L' := [(1, .int (nI 0)), (0, .ref (mA G 107))]) C dX8_firstNext_1 (by decide) rfl ?_
  have lp2 : ∀ (fu : Nat) (k : Nat), (k ≤ vN V) → (fnS (nextF V (vD V 6)) (vN V - k) k = fnF V (vD V 6)) → (vN V - k) < fu → At p l e (rmD 5 0 0) s m args below meth c G 2 0 0 Q M g [(1, .int (nI k)), (0, .ref (mA G 107))] 2 [] := by
    intro fu
    induction fu with
    | zero => intro k hkn hs hfu; exact absurd hfu (Nat.not_lt_zero _)
    | succ fu ih2 =>
      intro k hkn hs hfu2
      refine r_iload_n C dX8_firstNext_2 0 rfl ?_
      refine r_aload_n C dX8_firstNext_3 1 rfl ?_
      refine r_getr (q2 := 108) C dX8_firstNext_4 0 f_X8_7 rfl rfl ?_
      refine r_iconst (v := 5) C dX8_firstNext_7 rfl ?_
      refine r_ialdN (j := 5) (v := nI (vN V)) C dX8_firstNext_8 rfl (rfl) (by omega) (by decide) (hV.1.1) ?_
      refine r_icmp_ge (tgt := 33) C dX8_firstNext_9 (by decide) (fun c9 => ?_) (fun c9 => ?_)
      ·
        have hkn2 : k = vN V := by have := le_of_le (by omega) (by omega) c9; omega
        refine r_iconst (v := (-1)) C dX8_firstNext_33 rfl ?_
        exact hend _ _ _ _ _ dX8_firstNext_34 (rfl) (⟨by rw [← hs, hkn2, Nat.sub_self]; rfl, rfl, rfl⟩)
      ·
        have hlt : k < vN V := lt_of_nle (by omega) c9
        refine r_aload_n C dX8_firstNext_12 1 rfl ?_
        refine r_iload_n C dX8_firstNext_13 0 rfl ?_
        refine r_callVI (As := [.int (nI k)]) (rest := []) C dX8_firstNext_14 s_X8_169 (c_X8_nextOf l G hG M g V hW hV k hlt) (by decide) rfl rfl rfl rfl (Nat.le_of_ble_eq_true rfl) (Nat.le_of_ble_eq_true rfl) (Nat.le_of_ble_eq_true rfl) (pk_I ?_)
        refine r_iconst (v := (-1)) C dX8_firstNext_17 rfl ?_
        refine r_icmp_eq (tgt := 27) C dX8_firstNext_18 (by decide) (fun c18 => ?_) (fun c18 => ?_)
        ·
          refine r_iinc (v := nI (k + 1)) (L' := [(1, .int (nI (k + 1))), (0, .ref (mA G 107))]) C dX8_firstNext_27 0 rfl (nI_inc _) (by decide) rfl ?_
          refine r_goto (tgt := 2) C dX8_firstNext_30 (by decide) ?_
          refine r_sub (L' := [(1, .int (nI (k + 1))), (0, .ref (mA G 107))]) [0, 1] rfl ?_
          exact ih2 (k + 1) (by omega) (by rw [← hs, fn_go hlt c18]) (by omega)
        ·
          refine r_aload_n C dX8_firstNext_21 1 rfl ?_
          refine r_iload_n C dX8_firstNext_22 0 rfl ?_
          refine r_callVI (As := [.int (nI k)]) (rest := []) C dX8_firstNext_23 s_X8_169 (c_X8_nextOf l G hG M g V hW hV k hlt) (by decide) rfl rfl rfl rfl (Nat.le_of_ble_eq_true rfl) (Nat.le_of_ble_eq_true rfl) (Nat.le_of_ble_eq_true rfl) (pk_I ?_)
          exact hend _ _ _ _ _ dX8_firstNext_26 (rfl) (⟨by rw [← hs, fn_hit hlt c18], rfl, rfl⟩)
  refine r_sub (L' := [(1, .int (nI 0)), (0, .ref (mA G 107))]) [0, 1] rfl ?_
  exact lp2 _ 0 (by omega) rfl (Nat.lt_succ_self _)

set_option maxRecDepth 20000 in
set_option maxHeartbeats 1000000 in
theorem c_X8_nodeOf_0 (l : Launch) (G : mG) (hG : mInj G) (M : Mem) (g : Glo) (V : View) (hW : wfV V) (hV : rV (M 108) V) (hR : rOK M V) (j : Nat) (hj : j < vN V) : mcI l G yX8_nodeOf cX8_nodeOf 3 .int 4 [.ref (mA G 107), .int (nI j), .int 0] M g (fun r M' g' => r = nodeF V j 0 ∧ M' = M ∧ g' = g) := by
  refine mcI_of (L0 := [(0, .ref (mA G 107)), (1, .int (nI j)), (2, .int 0)]) hG (by decide) (Nat.le_of_ble_eq_true rfl) rfl ?_
  intro p e s m args below meth c Q C hend
  have hT := hW.1
  obtain ⟨hn1, hn16, hb4, ⟨hd0, hd3, hd5, hd6⟩, hpar⟩ := id hT
  refine r_iload_n C dX8_nodeOf_0 2 rfl ?_
  refine r_tableOut (tgt := 81) C dX8_nodeOf_1 (Or.inl (by decide)) (by decide) ?_
  refine r_aload_n C dX8_nodeOf_81 0 rfl ?_
  refine r_iload_n C dX8_nodeOf_82 1 rfl ?_
  refine r_iload_n C dX8_nodeOf_83 2 rfl ?_
  refine r_callVI (As := [.int (nI j), .int 0]) (rest := []) C dX8_nodeOf_84 s_X8_48 (c_X8_of l G hG M g V hW hV j hj 0 (by decide)) (by decide) rfl rfl rfl rfl (Nat.le_of_ble_eq_true rfl) (Nat.le_of_ble_eq_true rfl) (Nat.le_of_ble_eq_true rfl) (pk_I ?_)
  exact hend _ _ _ _ _ dX8_nodeOf_87 (rfl) (⟨rfl, rfl, rfl⟩)

set_option maxRecDepth 20000 in
set_option maxHeartbeats 1000000 in
theorem c_X8_nodeOf_1 (l : Launch) (G : mG) (hG : mInj G) (M : Mem) (g : Glo) (V : View) (hW : wfV V) (hV : rV (M 108) V) (hR : rOK M V) (j : Nat) (hj : j < vN V) : mcI l G yX8_nodeOf cX8_nodeOf 3 .int 4 [.ref (mA G 107), .int (nI j), .int 1] M g (fun r M' g' => r = nodeF V j 1 ∧ M' = M ∧ g' = g) := by
  refine mcI_of (L0 := [(0, .ref (mA G 107)), (1, .int (nI j)), (2, .int 1)]) hG (by decide) (Nat.le_of_ble_eq_true rfl) rfl ?_
  intro p e s m args below meth c Q C hend
  have hT := hW.1
  obtain ⟨hn1, hn16, hb4, ⟨hd0, hd3, hd5, hd6⟩, hpar⟩ := id hT
  refine r_iload_n C dX8_nodeOf_0 2 rfl ?_
  refine r_tableOut (tgt := 81) C dX8_nodeOf_1 (Or.inl (by decide)) (by decide) ?_
  refine r_aload_n C dX8_nodeOf_81 0 rfl ?_
  refine r_iload_n C dX8_nodeOf_82 1 rfl ?_
  refine r_iload_n C dX8_nodeOf_83 2 rfl ?_
  refine r_callVI (As := [.int (nI j), .int 1]) (rest := []) C dX8_nodeOf_84 s_X8_48 (c_X8_of l G hG M g V hW hV j hj 1 (by decide)) (by decide) rfl rfl rfl rfl (Nat.le_of_ble_eq_true rfl) (Nat.le_of_ble_eq_true rfl) (Nat.le_of_ble_eq_true rfl) (pk_I ?_)
  exact hend _ _ _ _ _ dX8_nodeOf_87 (rfl) (⟨rfl, rfl, rfl⟩)

set_option maxRecDepth 20000 in
set_option maxHeartbeats 1000000 in
theorem c_X8_nodeOf_2 (l : Launch) (G : mG) (hG : mInj G) (M : Mem) (g : Glo) (V : View) (hW : wfV V) (hV : rV (M 108) V) (hR : rOK M V) (j : Nat) (hj : j < vN V) : mcI l G yX8_nodeOf cX8_nodeOf 3 .int 4 [.ref (mA G 107), .int (nI j), .int 2] M g (fun r M' g' => r = nodeF V j 2 ∧ M' = M ∧ g' = g) := by
  refine mcI_of (L0 := [(0, .ref (mA G 107)), (1, .int (nI j)), (2, .int 2)]) hG (by decide) (Nat.le_of_ble_eq_true rfl) rfl ?_
  intro p e s m args below meth c Q C hend
  have hT := hW.1
  obtain ⟨hn1, hn16, hb4, ⟨hd0, hd3, hd5, hd6⟩, hpar⟩ := id hT
  refine r_iload_n C dX8_nodeOf_0 2 rfl ?_
  refine r_tableOut (tgt := 81) C dX8_nodeOf_1 (Or.inl (by decide)) (by decide) ?_
  refine r_aload_n C dX8_nodeOf_81 0 rfl ?_
  refine r_iload_n C dX8_nodeOf_82 1 rfl ?_
  refine r_iload_n C dX8_nodeOf_83 2 rfl ?_
  refine r_callVI (As := [.int (nI j), .int 2]) (rest := []) C dX8_nodeOf_84 s_X8_48 (c_X8_of l G hG M g V hW hV j hj 2 (by decide)) (by decide) rfl rfl rfl rfl (Nat.le_of_ble_eq_true rfl) (Nat.le_of_ble_eq_true rfl) (Nat.le_of_ble_eq_true rfl) (pk_I ?_)
  exact hend _ _ _ _ _ dX8_nodeOf_87 (rfl) (⟨rfl, rfl, rfl⟩)

set_option maxRecDepth 20000 in
set_option maxHeartbeats 1000000 in
theorem c_X8_nodeOf_3 (l : Launch) (G : mG) (hG : mInj G) (M : Mem) (g : Glo) (V : View) (hW : wfV V) (hV : rV (M 108) V) (hR : rOK M V) (j : Nat) (hj : j < vN V) : mcI l G yX8_nodeOf cX8_nodeOf 3 .int 4 [.ref (mA G 107), .int (nI j), .int 3] M g (fun r M' g' => r = nodeF V j 3 ∧ M' = M ∧ g' = g) := by
  refine mcI_of (L0 := [(0, .ref (mA G 107)), (1, .int (nI j)), (2, .int 3)]) hG (by decide) (Nat.le_of_ble_eq_true rfl) rfl ?_
  intro p e s m args below meth c Q C hend
  have hT := hW.1
  obtain ⟨hn1, hn16, hb4, ⟨hd0, hd3, hd5, hd6⟩, hpar⟩ := id hT
  refine r_iload_n C dX8_nodeOf_0 2 rfl ?_
  refine r_tableOut (tgt := 81) C dX8_nodeOf_1 (Or.inl (by decide)) (by decide) ?_
  refine r_aload_n C dX8_nodeOf_81 0 rfl ?_
  refine r_iload_n C dX8_nodeOf_82 1 rfl ?_
  refine r_iload_n C dX8_nodeOf_83 2 rfl ?_
  refine r_callVI (As := [.int (nI j), .int 3]) (rest := []) C dX8_nodeOf_84 s_X8_48 (c_X8_of l G hG M g V hW hV j hj 3 (by decide)) (by decide) rfl rfl rfl rfl (Nat.le_of_ble_eq_true rfl) (Nat.le_of_ble_eq_true rfl) (Nat.le_of_ble_eq_true rfl) (pk_I ?_)
  exact hend _ _ _ _ _ dX8_nodeOf_87 (rfl) (⟨rfl, rfl, rfl⟩)

set_option maxRecDepth 20000 in
set_option maxHeartbeats 1000000 in
theorem c_X8_nodeOf_4 (l : Launch) (G : mG) (hG : mInj G) (M : Mem) (g : Glo) (V : View) (hW : wfV V) (hV : rV (M 108) V) (hR : rOK M V) (j : Nat) (hj : j < vN V) : mcI l G yX8_nodeOf cX8_nodeOf 3 .int 4 [.ref (mA G 107), .int (nI j), .int 4] M g (fun r M' g' => r = nodeF V j 4 ∧ M' = M ∧ g' = g) := by
  refine mcI_of (L0 := [(0, .ref (mA G 107)), (1, .int (nI j)), (2, .int 4)]) hG (by decide) (Nat.le_of_ble_eq_true rfl) rfl ?_
  intro p e s m args below meth c Q C hend
  have hT := hW.1
  obtain ⟨hn1, hn16, hb4, ⟨hd0, hd3, hd5, hd6⟩, hpar⟩ := id hT
  refine r_iload_n C dX8_nodeOf_0 2 rfl ?_
  refine r_tableOut (tgt := 81) C dX8_nodeOf_1 (Or.inl (by decide)) (by decide) ?_
  refine r_aload_n C dX8_nodeOf_81 0 rfl ?_
  refine r_iload_n C dX8_nodeOf_82 1 rfl ?_
  refine r_iload_n C dX8_nodeOf_83 2 rfl ?_
  refine r_callVI (As := [.int (nI j), .int 4]) (rest := []) C dX8_nodeOf_84 s_X8_48 (c_X8_of l G hG M g V hW hV j hj 4 (by decide)) (by decide) rfl rfl rfl rfl (Nat.le_of_ble_eq_true rfl) (Nat.le_of_ble_eq_true rfl) (Nat.le_of_ble_eq_true rfl) (pk_I ?_)
  exact hend _ _ _ _ _ dX8_nodeOf_87 (rfl) (⟨rfl, rfl, rfl⟩)

set_option maxRecDepth 20000 in
set_option maxHeartbeats 1000000 in
theorem c_X8_nodeOf_5 (l : Launch) (G : mG) (hG : mInj G) (M : Mem) (g : Glo) (V : View) (hW : wfV V) (hV : rV (M 108) V) (hR : rOK M V) (j : Nat) (hj : j < vN V) : mcI l G yX8_nodeOf cX8_nodeOf 3 .int 4 [.ref (mA G 107), .int (nI j), .int 5] M g (fun r M' g' => r = nodeF V j 5 ∧ M' = M ∧ g' = g) := by
  refine mcI_of (L0 := [(0, .ref (mA G 107)), (1, .int (nI j)), (2, .int 5)]) hG (by decide) (Nat.le_of_ble_eq_true rfl) rfl ?_
  intro p e s m args below meth c Q C hend
  have hT := hW.1
  obtain ⟨hn1, hn16, hb4, ⟨hd0, hd3, hd5, hd6⟩, hpar⟩ := id hT
  refine r_iload_n C dX8_nodeOf_0 2 rfl ?_
  refine r_tableOut (tgt := 81) C dX8_nodeOf_1 (Or.inl (by decide)) (by decide) ?_
  refine r_aload_n C dX8_nodeOf_81 0 rfl ?_
  refine r_iload_n C dX8_nodeOf_82 1 rfl ?_
  refine r_iload_n C dX8_nodeOf_83 2 rfl ?_
  refine r_callVI (As := [.int (nI j), .int 5]) (rest := []) C dX8_nodeOf_84 s_X8_48 (c_X8_of l G hG M g V hW hV j hj 5 (by decide)) (by decide) rfl rfl rfl rfl (Nat.le_of_ble_eq_true rfl) (Nat.le_of_ble_eq_true rfl) (Nat.le_of_ble_eq_true rfl) (pk_I ?_)
  exact hend _ _ _ _ _ dX8_nodeOf_87 (rfl) (⟨rfl, rfl, rfl⟩)

set_option maxRecDepth 20000 in
set_option maxHeartbeats 1000000 in
theorem c_X8_nodeOf_6 (l : Launch) (G : mG) (hG : mInj G) (M : Mem) (g : Glo) (V : View) (hW : wfV V) (hV : rV (M 108) V) (hR : rOK M V) (j : Nat) (hj : j < vN V) : mcI l G yX8_nodeOf cX8_nodeOf 3 .int 4 [.ref (mA G 107), .int (nI j), .int 6] M g (fun r M' g' => r = nodeF V j 6 ∧ M' = M ∧ g' = g) := by
  refine mcI_of (L0 := [(0, .ref (mA G 107)), (1, .int (nI j)), (2, .int 6)]) hG (by decide) (Nat.le_of_ble_eq_true rfl) rfl ?_
  intro p e s m args below meth c Q C hend
  have hT := hW.1
  obtain ⟨hn1, hn16, hb4, ⟨hd0, hd3, hd5, hd6⟩, hpar⟩ := id hT
  refine r_iload_n C dX8_nodeOf_0 2 rfl ?_
  refine r_tableIn (off := 39) (tgt := 40) C dX8_nodeOf_1 (by decide) (by decide) (by decide) (by decide) ?_
  refine r_aload_n C dX8_nodeOf_40 0 rfl ?_
  refine r_getr (q2 := 112) C dX8_nodeOf_41 7 f_X8_22 rfl rfl ?_
  refine r_iload_n C dX8_nodeOf_44 1 rfl ?_
  refine r_ialdN (j := j) (v := flowF V j) C dX8_nodeOf_45 rfl (rfl) (by omega) (by decide) ((hR j hj).1) ?_
  exact hend _ _ _ _ _ dX8_nodeOf_46 (rfl) (⟨rfl, rfl, rfl⟩)

set_option maxRecDepth 20000 in
set_option maxHeartbeats 1000000 in
theorem c_X8_nodeOf_7 (l : Launch) (G : mG) (hG : mInj G) (M : Mem) (g : Glo) (V : View) (hW : wfV V) (hV : rV (M 108) V) (hR : rOK M V) (j : Nat) (hj : j < vN V) : mcI l G yX8_nodeOf cX8_nodeOf 3 .int 4 [.ref (mA G 107), .int (nI j), .int 7] M g (fun r M' g' => r = nodeF V j 7 ∧ M' = M ∧ g' = g) := by
  refine mcI_of (L0 := [(0, .ref (mA G 107)), (1, .int (nI j)), (2, .int 7)]) hG (by decide) (Nat.le_of_ble_eq_true rfl) rfl ?_
  intro p e s m args below meth c Q C hend
  have hT := hW.1
  obtain ⟨hn1, hn16, hb4, ⟨hd0, hd3, hd5, hd6⟩, hpar⟩ := id hT
  refine r_iload_n C dX8_nodeOf_0 2 rfl ?_
  refine r_tableIn (off := 46) (tgt := 47) C dX8_nodeOf_1 (by decide) (by decide) (by decide) (by decide) ?_
  refine r_aload_n C dX8_nodeOf_47 0 rfl ?_
  refine r_getr (q2 := 113) C dX8_nodeOf_48 8 f_X8_25 rfl rfl ?_
  refine r_iload_n C dX8_nodeOf_51 1 rfl ?_
  refine r_ialdN (j := j) (v := warmF V (vSup V) j) C dX8_nodeOf_52 rfl (rfl) (by omega) (by decide) ((hR j hj).2.1) ?_
  exact hend _ _ _ _ _ dX8_nodeOf_53 (rfl) (⟨rfl, rfl, rfl⟩)

set_option maxRecDepth 20000 in
set_option maxHeartbeats 1000000 in
theorem c_X8_nodeOf_8 (l : Launch) (G : mG) (hG : mInj G) (M : Mem) (g : Glo) (V : View) (hW : wfV V) (hV : rV (M 108) V) (hR : rOK M V) (j : Nat) (hj : j < vN V) : mcI l G yX8_nodeOf cX8_nodeOf 3 .int 4 [.ref (mA G 107), .int (nI j), .int 8] M g (fun r M' g' => r = nodeF V j 8 ∧ M' = M ∧ g' = g) := by
  refine mcI_of (L0 := [(0, .ref (mA G 107)), (1, .int (nI j)), (2, .int 8)]) hG (by decide) (Nat.le_of_ble_eq_true rfl) rfl ?_
  intro p e s m args below meth c Q C hend
  have hT := hW.1
  obtain ⟨hn1, hn16, hb4, ⟨hd0, hd3, hd5, hd6⟩, hpar⟩ := id hT
  refine r_iload_n C dX8_nodeOf_0 2 rfl ?_
  refine r_tableIn (off := 53) (tgt := 54) C dX8_nodeOf_1 (by decide) (by decide) (by decide) (by decide) ?_
  refine r_aload_n C dX8_nodeOf_54 0 rfl ?_
  refine r_getr (q2 := 114) C dX8_nodeOf_55 9 f_X8_28 rfl rfl ?_
  refine r_iload_n C dX8_nodeOf_58 1 rfl ?_
  refine r_ialdN (j := j) (v := if j = 0 then -1 else rF V (vSup V) j) C dX8_nodeOf_59 rfl (rfl) (by omega) (by decide) ((hR j hj).2.2.1) ?_
  exact hend _ _ _ _ _ dX8_nodeOf_60 (rfl) (⟨rfl, rfl, rfl⟩)

set_option maxRecDepth 20000 in
set_option maxHeartbeats 1000000 in
theorem c_X8_nodeOf_9 (l : Launch) (G : mG) (hG : mInj G) (M : Mem) (g : Glo) (V : View) (hW : wfV V) (hV : rV (M 108) V) (hR : rOK M V) (j : Nat) (hj : j < vN V) : mcI l G yX8_nodeOf cX8_nodeOf 3 .int 4 [.ref (mA G 107), .int (nI j), .int 9] M g (fun r M' g' => r = nodeF V j 9 ∧ M' = M ∧ g' = g) := by
  refine mcI_of (L0 := [(0, .ref (mA G 107)), (1, .int (nI j)), (2, .int 9)]) hG (by decide) (Nat.le_of_ble_eq_true rfl) rfl ?_
  intro p e s m args below meth c Q C hend
  have hT := hW.1
  obtain ⟨hn1, hn16, hb4, ⟨hd0, hd3, hd5, hd6⟩, hpar⟩ := id hT
  refine r_iload_n C dX8_nodeOf_0 2 rfl ?_
  refine r_tableIn (off := 60) (tgt := 61) C dX8_nodeOf_1 (by decide) (by decide) (by decide) (by decide) ?_
  refine r_aload_n C dX8_nodeOf_61 0 rfl ?_
  refine r_iload_n C dX8_nodeOf_62 1 rfl ?_
  refine r_callVI (As := [.int (nI j)]) (rest := []) C dX8_nodeOf_63 s_X8_120 (c_X8_childMany l G hG M g V hW hV j hj) (by decide) rfl rfl rfl rfl (Nat.le_of_ble_eq_true rfl) (Nat.le_of_ble_eq_true rfl) (Nat.le_of_ble_eq_true rfl) (pk_I ?_)
  exact hend _ _ _ _ _ dX8_nodeOf_66 (rfl) (⟨rfl, rfl, rfl⟩)

set_option maxRecDepth 20000 in
set_option maxHeartbeats 1000000 in
theorem c_X8_nodeOf_10 (l : Launch) (G : mG) (hG : mInj G) (M : Mem) (g : Glo) (V : View) (hW : wfV V) (hV : rV (M 108) V) (hR : rOK M V) (j : Nat) (hj : j < vN V) : mcI l G yX8_nodeOf cX8_nodeOf 3 .int 4 [.ref (mA G 107), .int (nI j), .int 10] M g (fun r M' g' => r = nodeF V j 10 ∧ M' = M ∧ g' = g) := by
  refine mcI_of (L0 := [(0, .ref (mA G 107)), (1, .int (nI j)), (2, .int 10)]) hG (by decide) (Nat.le_of_ble_eq_true rfl) rfl ?_
  intro p e s m args below meth c Q C hend
  have hT := hW.1
  obtain ⟨hn1, hn16, hb4, ⟨hd0, hd3, hd5, hd6⟩, hpar⟩ := id hT
  refine r_iload_n C dX8_nodeOf_0 2 rfl ?_
  refine r_tableIn (off := 66) (tgt := 67) C dX8_nodeOf_1 (by decide) (by decide) (by decide) (by decide) ?_
  refine r_aload_n C dX8_nodeOf_67 0 rfl ?_
  refine r_iload_n C dX8_nodeOf_68 1 rfl ?_
  refine r_callVI (As := [.int (nI j)]) (rest := []) C dX8_nodeOf_69 s_X8_123 (c_X8_branchMany l G hG M g V hW hV j hj) (by decide) rfl rfl rfl rfl (Nat.le_of_ble_eq_true rfl) (Nat.le_of_ble_eq_true rfl) (Nat.le_of_ble_eq_true rfl) (pk_I ?_)
  refine r_valI (y := branchF V j) (branch_eq hT hj) ?_
  exact hend _ _ _ _ _ dX8_nodeOf_72 (rfl) (⟨rfl, rfl, rfl⟩)

set_option maxRecDepth 20000 in
set_option maxHeartbeats 1000000 in
theorem c_X8_nodeOf_11 (l : Launch) (G : mG) (hG : mInj G) (M : Mem) (g : Glo) (V : View) (hW : wfV V) (hV : rV (M 108) V) (hR : rOK M V) (j : Nat) (hj : j < vN V) : mcI l G yX8_nodeOf cX8_nodeOf 3 .int 4 [.ref (mA G 107), .int (nI j), .int 11] M g (fun r M' g' => r = nodeF V j 11 ∧ M' = M ∧ g' = g) := by
  refine mcI_of (L0 := [(0, .ref (mA G 107)), (1, .int (nI j)), (2, .int 11)]) hG (by decide) (Nat.le_of_ble_eq_true rfl) rfl ?_
  intro p e s m args below meth c Q C hend
  have hT := hW.1
  obtain ⟨hn1, hn16, hb4, ⟨hd0, hd3, hd5, hd6⟩, hpar⟩ := id hT
  refine r_iload_n C dX8_nodeOf_0 2 rfl ?_
  refine r_tableIn (off := 72) (tgt := 73) C dX8_nodeOf_1 (by decide) (by decide) (by decide) (by decide) ?_
  refine r_aload_n C dX8_nodeOf_73 0 rfl ?_
  refine r_iload_n C dX8_nodeOf_74 1 rfl ?_
  refine r_bipush (v := 7) C dX8_nodeOf_75 rfl ?_
  refine r_callVI (As := [.int (nI j), .int 7]) (rest := []) C dX8_nodeOf_77 s_X8_48 (c_X8_of l G hG M g V hW hV j hj 7 (by decide)) (by decide) rfl rfl rfl rfl (Nat.le_of_ble_eq_true rfl) (Nat.le_of_ble_eq_true rfl) (Nat.le_of_ble_eq_true rfl) (pk_I ?_)
  exact hend _ _ _ _ _ dX8_nodeOf_80 (rfl) (⟨rfl, rfl, rfl⟩)

theorem c_X8_nodeOf (l : Launch) (G : mG) (hG : mInj G) (M : Mem) (g : Glo) (V : View) (hW : wfV V) (hV : rV (M 108) V) (hR : rOK M V) (j : Nat) (hj : j < vN V) (w : Nat) (hw : w < 12) : mcI l G yX8_nodeOf cX8_nodeOf 3 .int 4 [.ref (mA G 107), .int (nI j), .int (nI w)] M g (fun r M' g' => r = nodeF V j w ∧ M' = M ∧ g' = g) := by
  have hc : w = 0 ∨ w = 1 ∨ w = 2 ∨ w = 3 ∨ w = 4 ∨ w = 5 ∨ w = 6 ∨ w = 7 ∨ w = 8 ∨ w = 9 ∨ w = 10 ∨ w = 11 := by omega
  rcases hc with rfl | rfl | rfl | rfl | rfl | rfl | rfl | rfl | rfl | rfl | rfl | rfl
  · exact c_X8_nodeOf_0 l G hG M g V hW hV hR j hj
  · exact c_X8_nodeOf_1 l G hG M g V hW hV hR j hj
  · exact c_X8_nodeOf_2 l G hG M g V hW hV hR j hj
  · exact c_X8_nodeOf_3 l G hG M g V hW hV hR j hj
  · exact c_X8_nodeOf_4 l G hG M g V hW hV hR j hj
  · exact c_X8_nodeOf_5 l G hG M g V hW hV hR j hj
  · exact c_X8_nodeOf_6 l G hG M g V hW hV hR j hj
  · exact c_X8_nodeOf_7 l G hG M g V hW hV hR j hj
  · exact c_X8_nodeOf_8 l G hG M g V hW hV hR j hj
  · exact c_X8_nodeOf_9 l G hG M g V hW hV hR j hj
  · exact c_X8_nodeOf_10 l G hG M g V hW hV hR j hj
  · exact c_X8_nodeOf_11 l G hG M g V hW hV hR j hj
