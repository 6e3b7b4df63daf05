def chpF (V : View) (r : Int32) : Int32 := if r = -1 then -1 else if unmetF V (needF V r) = 0 then r else -1
set_option maxRecDepth 20000 in
set_option maxHeartbeats 1000000 in
theorem c_X7_cheapestSupply (l : Launch) (G : mG) (hG : mInj G) (M : Mem) (g : Glo) (V : View) (Hs : List View) (len : Nat) (T : Nat → Int32) (hI : cINV M V Hs len T) : mcI l G yX7_cheapestSupply cX7_cheapestSupply 3 .int 6 [.ref (mA G 0)] M g (fun r M' g' => ((∃ r0, lowP V (wchF V) r0 ∧ r = chpF V r0) ∧ cINV M' V Hs len T ∧ offC M M') ∧ g' = g) := by
  refine mcI_of (L0 := [(0, .ref (mA G 0))]) hG (by decide) (Nat.le_of_ble_eq_true rfl) rfl ?_
  intro p e s m args below meth c Q C hend
  obtain ⟨hC, hW, hH, hHs, hTx, hP0⟩ := id hI
  have hT := hW.1
  obtain ⟨hn1, hn16, hb4, ⟨hd0, hd3, hd5, hd6⟩, hpar⟩ := id hT
  refine r_aload_n C dX7_cheapestSupply_0 0 rfl ?_
  refine r_getr (q2 := 1) C dX7_cheapestSupply_1 0 f_X7_10 rfl rfl ?_
  refine r_getr (q2 := 2) C dX7_cheapestSupply_4 0 f_X7_72 rfl rfl ?_
  refine r_astore_n (L' := [(1, .ref (mA G 2)), (0, .ref (mA G 0))]) C dX7_cheapestSupply_7 (by decide) rfl ?_
  refine r_iconst (v := nI 0) C dX7_cheapestSupply_8 rfl ?_
  refine r_istore_n (L' := [(2, .int (nI 0)), (1, .ref (mA G 2)), (0, .ref (mA G 0))]) C dX7_cheapestSupply_9 (by decide) rfl ?_
  have lp10 : ∀ (fu : Nat) (k : Nat) (f : Nat → Int32), (k ≤ vN V) → (∀ i, i < k → f i = wchF V i) → (vN V - k) < fu → At p l e (rmD 6 0 0) s m args below meth c G 3 0 0 Q (mrow M 106 f) g [(2, .int (nI k)), (1, .ref (mA G 2)), (0, .ref (mA G 0))] 10 [] := by
    intro fu
    induction fu with
    | zero => intro k f hkn hf hfu; exact absurd hfu (Nat.not_lt_zero _)
    | succ fu ih10 =>
      intro k f hkn hf hfu10
      refine r_iload_n C dX7_cheapestSupply_10 0 rfl ?_
      refine r_aload_n C dX7_cheapestSupply_11 1 rfl ?_
      refine r_geti C dX7_cheapestSupply_12 8 f_X7_75 rfl rfl ?_
      refine r_valI (y := nI (vN V)) (by rw [mrow_ne (by decide)]; exact hC.net.1) ?_
      refine r_icmp_ge (tgt := 54) C dX7_cheapestSupply_15 (by decide) (fun c15 => ?_) (fun c15 => ?_)
      ·
        have hkn2 : k = vN V := by have := le_of_le (by omega) (by omega) c15; omega
        have hof : offR M (mrow M 106 f) 106 106 := fun q hq => by rw [mrow_ne (by omega)]
        refine r_aload_n C dX7_cheapestSupply_54 2 rfl ?_
        refine r_callVI (As := []) (rest := []) C dX7_cheapestSupply_55 s_X7_207 (c_X7_lowestSupplyForWishes l G hG (mrow M 106 f) g V hW (hC.1.off hof (by omega)) (wchF V) (fun i hi => by rw [mrow_at]; exact hf i (by omega))) (by decide) rfl rfl rfl rfl (Nat.le_of_ble_eq_true rfl) (Nat.le_of_ble_eq_true rfl) (Nat.le_of_ble_eq_true rfl) (fun r55 M55 g55 hp55 => ?_)
        obtain ⟨⟨hl55, ol55⟩, eg55⟩ := hp55
        rw [eg55]
        have hI55 := (hI.off hof (Or.inr (by decide))).off ol55 (Or.inl ⟨by decide, by decide⟩)
        have ho55 : offC M M55 := fun q hq => (ol55 q (by omega)).trans (hof q (by omega))
        refine r_istore_n (L' := [(2, .int r55), (1, .ref (mA G 2)), (0, .ref (mA G 0))]) C dX7_cheapestSupply_58 (by decide) rfl ?_
        refine r_iload_n C dX7_cheapestSupply_59 0 rfl ?_
        refine r_iconst (v := (-1)) C dX7_cheapestSupply_60 rfl ?_
        refine r_icmp_ne (tgt := 66) C dX7_cheapestSupply_61 (by decide) (fun c61 => ?_) (fun c61 => ?_)
        ·
          refine r_aload_n C dX7_cheapestSupply_66 2 rfl ?_
          refine r_getr (q2 := 86) C dX7_cheapestSupply_67 5 f_X7_44 rfl rfl ?_
          refine r_aload_n C dX7_cheapestSupply_70 2 rfl ?_
          refine r_getr (q2 := 1) C dX7_cheapestSupply_71 0 f_X7_10 rfl rfl ?_
          refine r_iload_n C dX7_cheapestSupply_74 0 rfl ?_
          refine r_callVV (As := [.ref (mA G 1), .int r55]) (rest := []) C dX7_cheapestSupply_75 s_X7_210 (c_X2_settle l G hG M55 g V hT hI55.1.net hI55.1.boi 86 isHour_86 (by decide) r55 hI55.1.1.2.2.2.1 (wfZ_of hW)) (by decide) rfl rfl rfl rfl (Nat.le_of_ble_eq_true rfl) (Nat.le_of_ble_eq_true rfl) (Nat.le_of_ble_eq_true rfl) (fun M75 g75 hp75 => ?_)
          obtain ⟨⟨hh75, oh75⟩, eg75⟩ := hp75
          rw [eg75]
          refine r_aload_n C dX7_cheapestSupply_78 2 rfl ?_
          refine r_getr (q2 := 86) C dX7_cheapestSupply_79 5 f_X7_44 rfl rfl ?_
          refine r_geti C dX7_cheapestSupply_82 5 f_X7_213 rfl rfl ?_
          refine r_valI (y := unmetF V (needF V r55)) (hh75.2.2.2.1) ?_
          refine r_if_ne (tgt := 92) C dX7_cheapestSupply_85 (by decide) (fun c85 => ?_) (fun c85 => ?_)
          ·
            refine r_iconst (v := (-1)) C dX7_cheapestSupply_92 rfl ?_
            exact hend _ _ _ _ _ dX7_cheapestSupply_93 (rfl) (⟨⟨⟨r55, hl55, ((if_neg c61).trans (if_neg c85)).symm⟩, hI55.off oh75 (Or.inl ⟨by decide, by decide⟩), fun q hq => (oh75 q (by omega)).trans (ho55 q hq)⟩, rfl⟩)
          ·
            refine r_iload_n C dX7_cheapestSupply_88 0 rfl ?_
            refine r_goto (tgt := 93) C dX7_cheapestSupply_89 (by decide) ?_
            exact hend _ _ _ _ _ dX7_cheapestSupply_93 (rfl) (⟨⟨⟨r55, hl55, ((if_neg c61).trans (if_pos c85)).symm⟩, hI55.off oh75 (Or.inl ⟨by decide, by decide⟩), fun q hq => (oh75 q (by omega)).trans (ho55 q hq)⟩, rfl⟩)
        ·
          refine r_iconst (v := (-1)) C dX7_cheapestSupply_64 rfl ?_
          exact hend _ _ _ _ _ dX7_cheapestSupply_65 (rfl) (⟨⟨⟨r55, hl55, (if_pos c61).symm⟩, hI55, ho55⟩, rfl⟩)
      ·
        have hlt : k < vN V := lt_of_nle (by omega) c15
        refine r_aload_n C dX7_cheapestSupply_18 2 rfl ?_
        refine r_getr (q2 := 106) C dX7_cheapestSupply_19 8 f_X7_57 rfl rfl ?_
        refine r_iload_n C dX7_cheapestSupply_22 0 rfl ?_
        refine r_aload_n C dX7_cheapestSupply_23 1 rfl ?_
        refine r_getr (q2 := 6) C dX7_cheapestSupply_24 3 f_X7_97 rfl rfl ?_
        refine r_iload_n C dX7_cheapestSupply_27 0 rfl ?_
        refine r_ialdN (j := k) (v := vD V 3 k) C dX7_cheapestSupply_28 rfl (rfl) (by omega) (by decide) (by rw [mrow_ne (by decide)]; exact hC.net.at 3 (by decide) hlt) ?_
        refine r_if_le (tgt := 44) C dX7_cheapestSupply_29 (by decide) (fun c29 => ?_) (fun c29 => ?_)
        ·
          refine r_sipush (v := (-1000)) C dX7_cheapestSupply_44 rfl ?_
          refine r_iastN (j := k) C dX7_cheapestSupply_47 rfl (rfl) (by omega) (by decide) ?_
          refine r_mem (M' := mrow M 106 (upd f k (-1000))) (mset_row _ _ _ _ _) ?_
          refine r_iinc (v := nI (k + 1)) (L' := [(2, .int (nI (k + 1))), (1, .ref (mA G 2)), (0, .ref (mA G 0))]) C dX7_cheapestSupply_48 0 rfl (nI_inc _) (by decide) rfl ?_
          refine r_goto (tgt := 10) C dX7_cheapestSupply_51 (by decide) ?_
          refine r_sub (L' := [(2, .int (nI (k + 1))), (1, .ref (mA G 2)), (0, .ref (mA G 0))]) [0, 1, 2] rfl ?_
          exact ih10 (k + 1) (upd f k (-1000)) (by omega) (fun i hi => by by_cases e : i = k; (subst e; rw [upd_at]; unfold wchF; rw [if_pos c29]); (rw [upd_ne e]; exact hf i (by omega))) (by omega)
        ·
          refine r_aload_n C dX7_cheapestSupply_32 1 rfl ?_
          refine r_getr (q2 := 7) C dX7_cheapestSupply_33 4 f_X7_100 rfl rfl ?_
          refine r_iload_n C dX7_cheapestSupply_36 0 rfl ?_
          refine r_ialdN (j := k) (v := vD V 4 k) C dX7_cheapestSupply_37 rfl (rfl) (by omega) (by decide) (by rw [mrow_ne (by decide)]; exact hC.net.at 4 (by decide) hlt) ?_
          refine r_bipush (v := 100) C dX7_cheapestSupply_38 rfl ?_
          refine r_iadd C dX7_cheapestSupply_40 ?_
          refine r_goto (tgt := 47) C dX7_cheapestSupply_41 (by decide) ?_
          refine r_iastN (j := k) C dX7_cheapestSupply_47 rfl (rfl) (by omega) (by decide) ?_
          refine r_mem (M' := mrow M 106 (upd f k (vD V 4 k + 100))) (mset_row _ _ _ _ _) ?_
          refine r_iinc (v := nI (k + 1)) (L' := [(2, .int (nI (k + 1))), (1, .ref (mA G 2)), (0, .ref (mA G 0))]) C dX7_cheapestSupply_48 0 rfl (nI_inc _) (by decide) rfl ?_
          refine r_goto (tgt := 10) C dX7_cheapestSupply_51 (by decide) ?_
          refine r_sub (L' := [(2, .int (nI (k + 1))), (1, .ref (mA G 2)), (0, .ref (mA G 0))]) [0, 1, 2] rfl ?_
          exact ih10 (k + 1) (upd f k (vD V 4 k + 100)) (by omega) (fun i hi => by by_cases e : i = k; (subst e; rw [upd_at]; unfold wchF; rw [if_neg c29]); (rw [upd_ne e]; exact hf i (by omega))) (by omega)
  refine r_mem (M' := mrow M 106 (M 106)) (mrow_self _ _).symm ?_
  refine r_sub (L' := [(2, .int (nI 0)), (1, .ref (mA G 2)), (0, .ref (mA G 0))]) [0, 1, 2] rfl ?_
  exact lp10 _ 0 (M 106) (by omega) (fun i hi => absurd hi (by omega)) (Nat.lt_succ_self _)
