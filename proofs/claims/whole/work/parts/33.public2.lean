theorem psF_le {T : Nat → Int32} {len : Nat} : ∀ (f : Nat) (V : View) (a : Nat), a ≤ len → (psF T len f V a).2.2 ≤ len
  | 0, V, a, h => h
  | f + 1, V, a, h => by
    rw [psF]
    split
    · exact h
    · split
      · exact h
      · split
        · exact psF_le f _ _ (rdNode_le h)
        · exact rdNode_le h
theorem offR.tr0 {M M' M'' : Mem} (h : offR M' M'' 0 106) (h0 : offR M M' 0 106) : offR M M'' 0 106 := fun q hq => (h q hq).trans (h0 q hq)

set_option maxRecDepth 20000 in
set_option maxHeartbeats 1000000 in
theorem c_X7_setTariff (l : Launch) (G : mG) (hG : mInj G) (M : Mem) (g : Glo) (hfl : l.stackTraces = false) (V : View) (Hs : List View) (len : Nat) (T : Nat → Int32) (hI : cINV M V Hs len T) (a b d : Int32) : mcXI l G yX7_setTariff cX7_setTariff 5 7 3 18 [.ref (mA G 0), .int a, .int b, .int d] M g (fun r M' g' => (eTar a b d = 0 ∧ r = vS V 2 ∧ cINV M' (vSc (vSc (vSc V 2 a) 3 b) 4 d) (hPush Hs V) len T ∧ offC M M') ∧ g' = g) (fun E => (E = IAE ∧ eTar a b d = 1)) := by
  refine mcXI_of (L0 := [(0, .ref (mA G 0)), (1, .int a), (2, .int b), (3, .int d)]) hG (by decide) (Nat.le_of_ble_eq_true rfl) rfl ?_
  intro p e s m args below meth c Q C hno hend hqw hqx
  obtain ⟨hC, hW, hH, hHs, hTx, hP0⟩ := id hI
  have hT := hW.1
  obtain ⟨hn1, hn16, hb4, ⟨hd0, hd3, hd5, hd6⟩, hpar⟩ := id hT
  refine r_iload_n C dX7_setTariff_0 1 rfl ?_
  refine r_iconst (v := 0) C dX7_setTariff_1 rfl ?_
  refine r_sipush (v := 999) C dX7_setTariff_2 rfl ?_
  refine r_xSV (As := [.int a, .int 0, .int 999]) (rest := []) C dX7_setTariff_5 s_X7_68 (c_X7_requireWithin l G hG M g hfl a 0 999) (by decide) rfl rfl (Nat.le_of_ble_eq_true rfl) (Nat.le_of_ble_eq_true rfl) (Nat.le_of_ble_eq_true rfl) (fun E9 hE9 => r_outX hno hqx (⟨hE9.1, if_pos (fun z => hE9.2 z.1)⟩) (Nat.le_of_ble_eq_true rfl) (Nat.le_of_ble_eq_true rfl)) (pk_VC (fun hc5 => ?_))
  refine r_iload_n C dX7_setTariff_8 2 rfl ?_
  refine r_iconst (v := 0) C dX7_setTariff_9 rfl ?_
  refine r_sipush (v := 1200) C dX7_setTariff_10 rfl ?_
  refine r_xSV (As := [.int b, .int 0, .int 1200]) (rest := []) C dX7_setTariff_13 s_X7_68 (c_X7_requireWithin l G hG M g hfl b 0 1200) (by decide) rfl rfl (Nat.le_of_ble_eq_true rfl) (Nat.le_of_ble_eq_true rfl) (Nat.le_of_ble_eq_true rfl) (fun E9 hE9 => r_outX hno hqx (⟨hE9.1, if_pos (fun z => hE9.2 z.2.1)⟩) (Nat.le_of_ble_eq_true rfl) (Nat.le_of_ble_eq_true rfl)) (pk_VC (fun hc13 => ?_))
  refine r_iload_n C dX7_setTariff_16 3 rfl ?_
  refine r_iconst (v := 0) C dX7_setTariff_17 rfl ?_
  refine r_bipush (v := 99) C dX7_setTariff_18 rfl ?_
  refine r_xSV (As := [.int d, .int 0, .int 99]) (rest := []) C dX7_setTariff_20 s_X7_68 (c_X7_requireWithin l G hG M g hfl d 0 99) (by decide) rfl rfl (Nat.le_of_ble_eq_true rfl) (Nat.le_of_ble_eq_true rfl) (Nat.le_of_ble_eq_true rfl) (fun E9 hE9 => r_outX hno hqx (⟨hE9.1, if_pos (fun z => hE9.2 z.2.2)⟩) (Nat.le_of_ble_eq_true rfl) (Nat.le_of_ble_eq_true rfl)) (pk_VC (fun hc20 => ?_))
  have hw2 : wfV (vSc (vSc (vSc V 2 a) 3 b) 4 d) := wf_sc4 (wf_sc3 (wf_sc2 hW (inR_of hc5)) (inR_of hc13)) (inR_of hc20)
  refine r_aload_n C dX7_setTariff_23 0 rfl ?_
  refine r_getr (q2 := 15) C dX7_setTariff_24 1 f_X7_19 rfl rfl ?_
  refine r_aload_n C dX7_setTariff_27 0 rfl ?_
  refine r_getr (q2 := 1) C dX7_setTariff_28 0 f_X7_10 rfl rfl ?_
  refine r_callVV (As := [.ref (mA G 1)]) (rest := []) C dX7_setTariff_31 s_X7_86 (c_X1_keep l G hG M g Hs hH V hC.1 hn16 hb4) (by decide) rfl rfl rfl rfl (Nat.le_of_ble_eq_true rfl) (Nat.le_of_ble_eq_true rfl) (Nat.le_of_ble_eq_true rfl) (fun M1 g1 hp31 => ?_)
  obtain ⟨⟨hk1, ok1⟩, eg31⟩ := hp31
  rw [eg31]
  have hS1 : cSt M1 1 V := hC.1.off ok1 (by decide)
  refine r_aload_n C dX7_setTariff_34 0 rfl ?_
  refine r_getr (q2 := 1) C dX7_setTariff_35 0 f_X7_10 rfl rfl ?_
  refine r_geti C dX7_setTariff_38 4 f_X7_149 rfl rfl ?_
  refine r_valI (y := vS V 2) (hS1.2.2.2.2.1) ?_
  refine r_istore (L' := [(4, .int (vS V 2)), (0, .ref (mA G 0)), (1, .int a), (2, .int b), (3, .int d)]) C dX7_setTariff_41 (by decide) rfl ?_
  refine r_aload_n C dX7_setTariff_43 1 rfl ?_
  refine r_getr (q2 := 1) C dX7_setTariff_44 0 f_X7_10 rfl rfl ?_
  refine r_iload_n C dX7_setTariff_47 2 rfl ?_
  refine r_puti C dX7_setTariff_48 4 fi_X7_149 rfl rfl ?_
  refine r_aload_n C dX7_setTariff_51 1 rfl ?_
  refine r_getr (q2 := 1) C dX7_setTariff_52 0 f_X7_10 rfl rfl ?_
  refine r_iload_n C dX7_setTariff_55 3 rfl ?_
  refine r_puti C dX7_setTariff_56 5 fi_X7_152 rfl rfl ?_
  refine r_aload_n C dX7_setTariff_59 1 rfl ?_
  refine r_getr (q2 := 1) C dX7_setTariff_60 0 f_X7_10 rfl rfl ?_
  refine r_iload_n C dX7_setTariff_63 4 rfl ?_
  refine r_puti C dX7_setTariff_64 6 fi_X7_155 rfl rfl ?_
  refine r_iload C dX7_setTariff_67 0 rfl ?_
  exact hend _ _ _ _ _ _ _ (Nat.le_of_ble_eq_true rfl) (Nat.le_of_ble_eq_true rfl) dX7_setTariff_69 (⟨⟨if_neg (not_of ⟨hc5, hc13, hc20⟩), rfl, cINV_mut hI hk1 ok1 (fun q hq => by rw [mset_ne (by omega), mset_ne (by omega), mset_ne (by omega)]) (cOK_sc3 ⟨hS1, hC.2.1.off ok1 (by decide), hC.2.2.off ok1 (by decide)⟩) (offR.rf _ _ _) hw2⟩, rfl⟩)

set_option maxRecDepth 20000 in
set_option maxHeartbeats 1000000 in
theorem c_X7_setMeter (l : Launch) (G : mG) (hG : mInj G) (M : Mem) (g : Glo) (hfl : l.stackTraces = false) (V : View) (Hs : List View) (len : Nat) (T : Nat → Int32) (hI : cINV M V Hs len T) (n x : Int32) : mcXI l G yX7_setMeter cX7_setMeter 3 7 1 6 [.ref (mA G 0), .int n, .int x] M g (fun r M' g' => (ePp V n = 0 ∧ r = sumP (vD (vSet V 6 n.toNatClampNeg (b2i (decide (¬ x = 0)))) 6) (vN V) ∧ cINV M' (vSet V 6 n.toNatClampNeg (b2i (decide (¬ x = 0)))) (hPush Hs V) len T ∧ offC M M') ∧ g' = g) (fun E => (E = IOO ∧ ePp V n = 1)) := by
  refine mcXI_of (L0 := [(0, .ref (mA G 0)), (1, .int n), (2, .int x)]) hG (by decide) (Nat.le_of_ble_eq_true rfl) rfl ?_
  intro p e s m args below meth c Q C hno hend hqw hqx
  obtain ⟨hC, hW, hH, hHs, hTx, hP0⟩ := id hI
  have hT := hW.1
  obtain ⟨hn1, hn16, hb4, ⟨hd0, hd3, hd5, hd6⟩, hpar⟩ := id hT
  refine r_aload_n C dX7_setMeter_0 0 rfl ?_
  refine r_iload_n C dX7_setMeter_1 1 rfl ?_
  refine r_xVV (As := [.int n]) (rest := []) C dX7_setMeter_2 s_X7_94 (c_X7_requirePipe l G hG M g hfl V hn16 hC.net.1 n) (by decide) rfl rfl rfl rfl (Nat.le_of_ble_eq_true rfl) (Nat.le_of_ble_eq_true rfl) (Nat.le_of_ble_eq_true rfl) (fun E9 hE9 => r_outX hno hqx (⟨hE9.1, if_pos hE9.2⟩) (Nat.le_of_ble_eq_true rfl) (Nat.le_of_ble_eq_true rfl)) (pk_VC (fun hc2 => ?_))
  obtain ⟨j, hj0, hj, hnj⟩ := isPp_nI (by omega) hc2
  have e9 : n.toNatClampNeg = j := by rw [hnj]; exact nI_clamp (by omega)
  refine r_aload_n C dX7_setMeter_5 0 rfl ?_
  refine r_getr (q2 := 15) C dX7_setMeter_6 1 f_X7_19 rfl rfl ?_
  refine r_aload_n C dX7_setMeter_9 0 rfl ?_
  refine r_getr (q2 := 1) C dX7_setMeter_10 0 f_X7_10 rfl rfl ?_
  refine r_callVV (As := [.ref (mA G 1)]) (rest := []) C dX7_setMeter_13 s_X7_86 (c_X1_keep l G hG M g Hs hH V hC.1 hn16 hb4) (by decide) rfl rfl rfl rfl (Nat.le_of_ble_eq_true rfl) (Nat.le_of_ble_eq_true rfl) (Nat.le_of_ble_eq_true rfl) (fun M1 g1 hp13 => ?_)
  obtain ⟨⟨hk1, ok1⟩, eg13⟩ := hp13
  rw [eg13]
  have hS1 : cSt M1 1 V := hC.1.off ok1 (by decide)
  refine r_aload_n C dX7_setMeter_16 0 rfl ?_
  refine r_getr (q2 := 1) C dX7_setMeter_17 0 f_X7_10 rfl rfl ?_
  refine r_getr (q2 := 2) C dX7_setMeter_20 0 f_X7_72 rfl rfl ?_
  refine r_getr (q2 := 9) C dX7_setMeter_23 6 f_X7_173 rfl rfl ?_
  refine r_iload_n C dX7_setMeter_26 1 rfl ?_
  refine r_iload_n C dX7_setMeter_27 2 rfl ?_
  refine r_if_eq (tgt := 35) C dX7_setMeter_28 (by decide) (fun c28 => ?_) (fun c28 => ?_)
  ·
    have hw2 : wfV (vSet V 6 j 0) := wf_set6 hW hj0 (Or.inl rfl)
    have hx : b2i (decide (¬ x = 0)) = 0 := by simp [b2i, c28]
    refine r_iconst (v := 0) C dX7_setMeter_35 rfl ?_
    refine r_iastN (j := j) C dX7_setMeter_36 rfl (hnj) (by omega) (by decide) ?_
    refine r_aload_n C dX7_setMeter_37 0 rfl ?_
    refine r_callVV (As := []) (rest := []) C dX7_setMeter_38 s_X7_61 (c_X7_settle l G hG (mset M1 9 j 0) g (vSet V 6 j 0) hw2.1 (cSt_set (w := 6) (by decide) hS1) (wfZ_of hw2)) (by decide) rfl rfl rfl rfl (Nat.le_of_ble_eq_true rfl) (Nat.le_of_ble_eq_true rfl) (Nat.le_of_ble_eq_true rfl) (fun M3 g3 hp38 => ?_)
    obtain ⟨⟨hc3, oc3⟩, eg38⟩ := hp38
    rw [eg38]
    refine r_aload_n C dX7_setMeter_41 0 rfl ?_
    refine r_getr (q2 := 1) C dX7_setMeter_42 0 f_X7_10 rfl rfl ?_
    refine r_getr (q2 := 2) C dX7_setMeter_45 0 f_X7_72 rfl rfl ?_
    refine r_callVI (As := []) (rest := []) C dX7_setMeter_48 s_X7_176 (c_X3_meters l G hG M3 g (vSet V 6 j 0) hw2.1 hc3.net) (by decide) rfl rfl rfl rfl (Nat.le_of_ble_eq_true rfl) (Nat.le_of_ble_eq_true rfl) (Nat.le_of_ble_eq_true rfl) (pk_I ?_)
    exact hend _ _ _ _ _ _ _ (Nat.le_of_ble_eq_true rfl) (Nat.le_of_ble_eq_true rfl) dX7_setMeter_51 (by rw [e9, hx]; exact ⟨⟨if_neg (not_of hc2), rfl, cINV_mut hI hk1 ok1 (fun q hq => by rw [mset_ne (by omega)]) hc3 oc3 hw2⟩, rfl⟩)
  ·
    have hw2 : wfV (vSet V 6 j 1) := wf_set6 hW hj0 (Or.inr rfl)
    have hx : b2i (decide (¬ x = 0)) = 1 := by simp [b2i, c28]
    refine r_iconst (v := 1) C dX7_setMeter_31 rfl ?_
    refine r_goto (tgt := 36) C dX7_setMeter_32 (by decide) ?_
    refine r_iastN (j := j) C dX7_setMeter_36 rfl (hnj) (by omega) (by decide) ?_
    refine r_aload_n C dX7_setMeter_37 0 rfl ?_
    refine r_callVV (As := []) (rest := []) C dX7_setMeter_38 s_X7_61 (c_X7_settle l G hG (mset M1 9 j 1) g (vSet V 6 j 1) hw2.1 (cSt_set (w := 6) (by decide) hS1) (wfZ_of hw2)) (by decide) rfl rfl rfl rfl (Nat.le_of_ble_eq_true rfl) (Nat.le_of_ble_eq_true rfl) (Nat.le_of_ble_eq_true rfl) (fun M3 g3 hp38 => ?_)
    obtain ⟨⟨hc3, oc3⟩, eg38⟩ := hp38
    rw [eg38]
    refine r_aload_n C dX7_setMeter_41 0 rfl ?_
    refine r_getr (q2 := 1) C dX7_setMeter_42 0 f_X7_10 rfl rfl ?_
    refine r_getr (q2 := 2) C dX7_setMeter_45 0 f_X7_72 rfl rfl ?_
    refine r_callVI (As := []) (rest := []) C dX7_setMeter_48 s_X7_176 (c_X3_meters l G hG M3 g (vSet V 6 j 1) hw2.1 hc3.net) (by decide) rfl rfl rfl rfl (Nat.le_of_ble_eq_true rfl) (Nat.le_of_ble_eq_true rfl) (Nat.le_of_ble_eq_true rfl) (pk_I ?_)
    exact hend _ _ _ _ _ _ _ (Nat.le_of_ble_eq_true rfl) (Nat.le_of_ble_eq_true rfl) dX7_setMeter_51 (by rw [e9, hx]; exact ⟨⟨if_neg (not_of hc2), rfl, cINV_mut hI hk1 ok1 (fun q hq => by rw [mset_ne (by omega)]) hc3 oc3 hw2⟩, rfl⟩)

set_option maxRecDepth 20000 in
set_option maxHeartbeats 1000000 in
theorem c_X7_pass (l : Launch) (G : mG) (hG : mInj G) (M : Mem) (g : Glo) (hfl : l.stackTraces = false) (V : View) (Hs : List View) (len : Nat) (T : Nat → Int32) (hI : cINV M V Hs len T) (h : Int32) : mcXI l G yX7_pass cX7_pass 3 7 2 12 [.ref (mA G 0), .int h] M g (fun r M' g' => (ePass V h = 0 ∧ r = vS V 8 + h ∧ cINV M' (vPass V h) (hPush Hs V) len T ∧ offC M M') ∧ g' = g) (fun E => (E = IAE ∧ ePass V h = 1) ∨ (E = ISE ∧ ePass V h = 2)) := by
  refine mcXI_of (L0 := [(0, .ref (mA G 0)), (1, .int h)]) hG (by decide) (Nat.le_of_ble_eq_true rfl) rfl ?_
  intro p e s m args below meth c Q C hno hend hqw hqx
  obtain ⟨hC, hW, hH, hHs, hTx, hP0⟩ := id hI
  have hT := hW.1
  obtain ⟨hn1, hn16, hb4, ⟨hd0, hd3, hd5, hd6⟩, hpar⟩ := id hT
  refine r_iload_n C dX7_pass_0 1 rfl ?_
  refine r_iconst (v := 1) C dX7_pass_1 rfl ?_
  refine r_bipush (v := 100) C dX7_pass_2 rfl ?_
  refine r_xSV (As := [.int h, .int 1, .int 100]) (rest := []) C dX7_pass_4 s_X7_68 (c_X7_requireWithin l G hG M g hfl h 1 100) (by decide) rfl rfl (Nat.le_of_ble_eq_true rfl) (Nat.le_of_ble_eq_true rfl) (Nat.le_of_ble_eq_true rfl) (fun E9 hE9 => r_outX hno hqx (Or.inl (⟨hE9.1, if_pos hE9.2⟩)) (Nat.le_of_ble_eq_true rfl) (Nat.le_of_ble_eq_true rfl)) (pk_VC (fun hc4 => ?_))
  refine r_aload_n C dX7_pass_7 0 rfl ?_
  refine r_getr (q2 := 1) C dX7_pass_8 0 f_X7_10 rfl rfl ?_
  refine r_geti C dX7_pass_11 7 f_X7_158 rfl rfl ?_
  refine r_valI (y := vS V 8) (hC.1.2.2.2.2.2.2.2.1) ?_
  refine r_iload_n C dX7_pass_14 1 rfl ?_
  refine r_iadd C dX7_pass_15 ?_
  refine r_sipush (v := 200) C dX7_pass_16 rfl ?_
  refine r_icmp_le (tgt := 32) C dX7_pass_19 (by decide) (fun c19 => ?_) (fun c19 => ?_)
  ·
    have h200 : ¬ 200 < vS V 8 + h := i32_nlt.mpr c19
    have hw2 : wfV (vPass V h) := wf_pass hW (inR_of hc4) h200
    refine r_aload_n C dX7_pass_32 0 rfl ?_
    refine r_getr (q2 := 15) C dX7_pass_33 1 f_X7_19 rfl rfl ?_
    refine r_aload_n C dX7_pass_36 0 rfl ?_
    refine r_getr (q2 := 1) C dX7_pass_37 0 f_X7_10 rfl rfl ?_
    refine r_callVV (As := [.ref (mA G 1)]) (rest := []) C dX7_pass_40 s_X7_86 (c_X1_keep l G hG M g Hs hH V hC.1 hn16 hb4) (by decide) rfl rfl rfl rfl (Nat.le_of_ble_eq_true rfl) (Nat.le_of_ble_eq_true rfl) (Nat.le_of_ble_eq_true rfl) (fun M1 g1 hp40 => ?_)
    obtain ⟨⟨hk1, ok1⟩, eg40⟩ := hp40
    rw [eg40]
    have hS1 : cSt M1 1 V := hC.1.off ok1 (by decide)
    have hC1 : cOK M1 V := ⟨hS1, hC.2.1.off ok1 (by decide), hC.2.2.off ok1 (by decide)⟩
    refine r_iconst (v := nI 1) C dX7_pass_43 rfl ?_
    refine r_istore_n (L' := [(2, .int (nI 1)), (0, .ref (mA G 0)), (1, .int h)]) C dX7_pass_44 (by decide) rfl ?_
    have lp45 : ∀ (fu : Nat) (k : Nat) (f : Nat → Int32), (0 < k) → (k ≤ vN V) → (∀ j, j < vN V → f j = vD (vPasK V h k) 7 j) → (vN V - k) < fu → At p l e (rmD 7 2 12) s m args below meth c G 3 1 6 Q (mrow M1 10 f) g [(2, .int (nI k)), (0, .ref (mA G 0)), (1, .int h)] 45 [] := by
      intro fu
      induction fu with
      | zero => intro k f hk0 hkn hf hfu; exact absurd hfu (Nat.not_lt_zero _)
      | succ fu ih45 =>
        intro k f hk0 hkn hf hfu45
        refine r_iload_n C dX7_pass_45 0 rfl ?_
        refine r_aload_n C dX7_pass_46 1 rfl ?_
        refine r_getr (q2 := 1) C dX7_pass_47 0 f_X7_10 rfl rfl ?_
        refine r_getr (q2 := 2) C dX7_pass_50 0 f_X7_72 rfl rfl ?_
        refine r_geti C dX7_pass_53 8 f_X7_75 rfl rfl ?_
        refine r_valI (y := nI (vN V)) (by rw [mrow_ne (by decide)]; exact hS1.1.1) ?_
        refine r_icmp_ge (tgt := 87) C dX7_pass_56 (by decide) (fun c56 => ?_) (fun c56 => ?_)
        ·
          have hkn2 : k = vN V := by have := le_of_le (by omega) (by omega) c56; omega
          refine r_aload_n C dX7_pass_87 1 rfl ?_
          refine r_getr (q2 := 1) C dX7_pass_88 0 f_X7_10 rfl rfl ?_
          refine r_dup C dX7_pass_91 rfl ?_
          refine r_geti C dX7_pass_92 8 f_X7_169 rfl rfl ?_
          refine r_valI (y := vS V 7) (by rw [mrow_ne (by decide)]; exact hS1.2.2.2.2.2.2.2.2) ?_
          refine r_iload_n C dX7_pass_95 2 rfl ?_
          refine r_aload_n C dX7_pass_96 1 rfl ?_
          refine r_getr (q2 := 75) C dX7_pass_97 3 f_X7_33 rfl rfl ?_
          refine r_geti C dX7_pass_100 6 f_X7_172 rfl rfl ?_
          refine r_valI (y := costF V (needF V (vSup V))) (by rw [mrow_ne (by decide)]; exact hC1.2.1.2.2.2.2) ?_
          refine r_imul C dX7_pass_103 ?_
          refine r_iadd C dX7_pass_104 ?_
          refine r_puti C dX7_pass_105 8 fi_X7_169 rfl rfl ?_
          refine r_aload_n C dX7_pass_108 1 rfl ?_
          refine r_getr (q2 := 1) C dX7_pass_109 0 f_X7_10 rfl rfl ?_
          refine r_dup C dX7_pass_112 rfl ?_
          refine r_geti C dX7_pass_113 7 f_X7_158 rfl rfl ?_
          refine r_valI (y := vS V 8) (by rw [mset_at, upd_ne (by decide), mrow_ne (by decide)]; exact hS1.2.2.2.2.2.2.2.1) ?_
          refine r_iload_n C dX7_pass_116 2 rfl ?_
          refine r_iadd C dX7_pass_117 ?_
          refine r_puti C dX7_pass_118 7 fi_X7_158 rfl rfl ?_
          refine r_aload_n C dX7_pass_121 1 rfl ?_
          refine r_getr (q2 := 1) C dX7_pass_122 0 f_X7_10 rfl rfl ?_
          refine r_geti C dX7_pass_125 7 f_X7_158 rfl rfl ?_
          refine r_valI (y := vS V 8 + h) (by rw [mset_at, upd_at]) ?_
          exact hend _ _ _ _ _ _ _ (Nat.le_of_ble_eq_true rfl) (Nat.le_of_ble_eq_true rfl) dX7_pass_128 (⟨⟨(if_neg (not_of hc4)).trans (if_neg h200), rfl, cINV_mut hI hk1 ok1 (fun q hq => by rw [mset_ne (by omega), mset_ne (by omega), mrow_ne (by omega)]) (pas_fin hC1 (by have h9 := hf; rw [hkn2] at h9; exact h9)) (offR.rf _ _ _) hw2⟩, rfl⟩)
        ·
          have hlt : k < vN V := lt_of_nle (by omega) c56
          refine r_aload_n C dX7_pass_59 1 rfl ?_
          refine r_getr (q2 := 1) C dX7_pass_60 0 f_X7_10 rfl rfl ?_
          refine r_getr (q2 := 2) C dX7_pass_63 0 f_X7_72 rfl rfl ?_
          refine r_getr (q2 := 10) C dX7_pass_66 7 f_X7_163 rfl rfl ?_
          refine r_iload_n C dX7_pass_69 0 rfl ?_
          refine r_dup2 C dX7_pass_70 rfl rfl ?_
          refine r_ialdN (j := k) (v := vD V 7 k) C dX7_pass_71 rfl (rfl) (by omega) (by decide) (by rw [mrow_at, hf k hlt]; exact if_neg (fun z => by omega)) ?_
          refine r_iload_n C dX7_pass_72 2 rfl ?_
          refine r_aload_n C dX7_pass_73 1 rfl ?_
          refine r_iload_n C dX7_pass_74 0 rfl ?_
          refine r_callVI (As := [.int (nI k)]) (rest := [.int h, .int (vD V 7 k), .int (nI k), .ref (mA G 10)]) C dX7_pass_75 s_X7_166 (c_X7_billOf l G hG (mrow M1 10 f) g (vPasK V h k) (pas_wfT hT) (pas_cOK hC1 hf) k hk0 hlt) (by decide) rfl rfl rfl rfl (Nat.le_of_ble_eq_true rfl) (Nat.le_of_ble_eq_true rfl) (Nat.le_of_ble_eq_true rfl) (pk_I ?_)
          refine r_valI (y := billF V k) (pas_bill) ?_
          refine r_imul C dX7_pass_78 ?_
          refine r_iadd C dX7_pass_79 ?_
          refine r_iastN (j := k) C dX7_pass_80 rfl (rfl) (by omega) (by decide) ?_
          refine r_mem (M' := mrow M1 10 (upd f k (vD V 7 k + h * billF V k))) (mset_row _ _ _ _ _) ?_
          refine r_iinc (v := nI (k + 1)) (L' := [(2, .int (nI (k + 1))), (0, .ref (mA G 0)), (1, .int h)]) C dX7_pass_81 0 rfl (nI_inc _) (by decide) rfl ?_
          refine r_goto (tgt := 45) C dX7_pass_84 (by decide) ?_
          refine r_sub (L' := [(2, .int (nI (k + 1))), (0, .ref (mA G 0)), (1, .int h)]) [0, 1, 2] rfl ?_
          exact ih45 (k + 1) (upd f k (vD V 7 k + h * billF V k)) (by omega) (by omega) (fun j hj => by by_cases e7 : j = k; (subst e7; rw [upd_at]; exact (if_pos ⟨rfl, by omega, by omega⟩).symm); (rw [upd_ne e7, hf j hj]; by_cases e6 : j ≠ 0 ∧ j < k; exact (if_pos ⟨rfl, e6.1, e6.2⟩).trans (if_pos ⟨rfl, e6.1, by omega⟩).symm; exact (if_neg (fun z => e6 z.2)).trans (if_neg (fun z => e6 ⟨z.2.1, by omega⟩)).symm)) (by omega)
    refine r_mem (M' := mrow M1 10 (M1 10)) (mrow_self _ _).symm ?_
    refine r_sub (L' := [(2, .int (nI 1)), (0, .ref (mA G 0)), (1, .int h)]) [0, 1, 2] rfl ?_
    exact lp45 _ 1 (M1 10) (by omega) hn1 (fun j hj => (hS1.1.2 7 (by decide) j hj).trans (if_neg (fun z => by omega)).symm) (Nat.lt_succ_self _)
  ·
    have h200 : 200 < vS V 8 + h := i32_nle.mp c19
    exact r_throwS (st := []) C hno (by decide) hqw hfl t_X7_161 (Or.inr ⟨rfl, (if_neg (not_of hc4)).trans (if_pos h200)⟩) dX7_pass_22 dX7_pass_25 dX7_pass_26 dX7_pass_28 dX7_pass_31 (Nat.le_of_ble_eq_true rfl) (Nat.le_of_ble_eq_true rfl) (Nat.le_of_ble_eq_true rfl)

set_option maxRecDepth 20000 in
set_option maxHeartbeats 1000000 in
theorem c_X7_append (l : Launch) (G : mG) (hG : mInj G) (M : Mem) (g : Glo) (hfl : l.stackTraces = false) (V : View) (Hs : List View) (len : Nat) (T : Nat → Int32) (hI : cINV M V Hs len T) (x : Int32) : mcXI l G yX7_append cX7_append 2 7 2 12 [.ref (mA G 0), .int x] M g (fun r M' g' => (eApp len x = 0 ∧ r = nI (len + 1) ∧ cINV M' V Hs (len + 1) (upd T len x) ∧ offC M M') ∧ g' = g) (fun E => (E = IAE ∧ eApp len x = 1) ∨ (E = ISE ∧ eApp len x = 2)) := by
  refine mcXI_of (L0 := [(0, .ref (mA G 0)), (1, .int x)]) hG (by decide) (Nat.le_of_ble_eq_true rfl) rfl ?_
  intro p e s m args below meth c Q C hno hend hqw hqx
  obtain ⟨hC, hW, hH, hHs, hTx, hP0⟩ := id hI
  have hT := hW.1
  obtain ⟨hn1, hn16, hb4, ⟨hd0, hd3, hd5, hd6⟩, hpar⟩ := id hT
  refine r_iload_n C dX7_append_0 1 rfl ?_
  refine r_iconst (v := 0) C dX7_append_1 rfl ?_
  refine r_bipush (v := 127) C dX7_append_2 rfl ?_
  refine r_xSV (As := [.int x, .int 0, .int 127]) (rest := []) C dX7_append_4 s_X7_68 (c_X7_requireWithin l G hG M g hfl x 0 127) (by decide) rfl rfl (Nat.le_of_ble_eq_true rfl) (Nat.le_of_ble_eq_true rfl) (Nat.le_of_ble_eq_true rfl) (fun E9 hE9 => r_outX hno hqx (Or.inl (⟨hE9.1, if_pos hE9.2⟩)) (Nat.le_of_ble_eq_true rfl) (Nat.le_of_ble_eq_true rfl)) (pk_VC (fun hc4 => ?_))
  refine r_aload_n C dX7_append_7 0 rfl ?_
  refine r_getr (q2 := 73) C dX7_append_8 2 f_X7_26 rfl rfl ?_
  refine r_geti C dX7_append_11 1 f_X7_219 rfl rfl ?_
  refine r_valI (y := nI len) (hTx.1) ?_
  refine r_sipush (v := 180) C dX7_append_14 rfl ?_
  refine r_icmp_lt (tgt := 30) C dX7_append_17 (by decide) (fun c17 => ?_) (fun c17 => ?_)
  ·
    have hlt : len < 180 := (nI_ltI (b := 180) (by have := hTx.2.1; omega) (by decide)).mp c17
    refine r_aload_n C dX7_append_30 0 rfl ?_
    refine r_getr (q2 := 73) C dX7_append_31 2 f_X7_26 rfl rfl ?_
    refine r_iload_n C dX7_append_34 1 rfl ?_
    refine r_callVV (As := [.int x]) (rest := []) C dX7_append_35 s_X7_224 (c_X4_put l G hG M g len hlt hTx.1 x) (by decide) rfl rfl rfl rfl (Nat.le_of_ble_eq_true rfl) (Nat.le_of_ble_eq_true rfl) (Nat.le_of_ble_eq_true rfl) (pk_V ?_)
    refine r_aload_n C dX7_append_38 0 rfl ?_
    refine r_getr (q2 := 73) C dX7_append_39 2 f_X7_26 rfl rfl ?_
    refine r_geti C dX7_append_42 1 f_X7_219 rfl rfl ?_
    refine r_valI (y := nI (len + 1)) (by rw [mset_at, upd_at]) ?_
    exact hend _ _ _ _ _ _ _ (Nat.le_of_ble_eq_true rfl) (Nat.le_of_ble_eq_true rfl) dX7_append_45 (⟨⟨(if_neg (not_of hc4)).trans (if_neg (by omega)), rfl, cINV_app hI hlt, fun q hq => by rw [mset_ne (by omega), mset_ne (by omega)]⟩, rfl⟩)
  ·
    have h180 : len = 180 := by have := le_of_le (a := 180) (by decide) (by have := hTx.2.1; omega) (i32_nlt.mp c17); have := hTx.2.1; omega
    exact r_throwS (st := []) C hno (by decide) hqw hfl t_X7_222 (Or.inr ⟨rfl, (if_neg (not_of hc4)).trans (if_pos h180)⟩) dX7_append_20 dX7_append_23 dX7_append_24 dX7_append_26 dX7_append_29 (Nat.le_of_ble_eq_true rfl) (Nat.le_of_ble_eq_true rfl) (Nat.le_of_ble_eq_true rfl)

set_option maxRecDepth 20000 in
set_option maxHeartbeats 1000000 in
theorem c_X7_clearText (l : Launch) (G : mG) (hG : mInj G) (M : Mem) (g : Glo) (V : View) (Hs : List View) (len : Nat) (T : Nat → Int32) (hI : cINV M V Hs len T) : mcI l G yX7_clearText cX7_clearText 2 .int 1 [.ref (mA G 0)] M g (fun r M' g' => (r = nI len ∧ cINV M' V Hs 0 T ∧ offC M M') ∧ g' = g) := by
  refine mcI_of (L0 := [(0, .ref (mA G 0))]) hG (by decide) (Nat.le_of_ble_eq_true rfl) rfl ?_
  intro p e s m args below meth c Q C hend
  obtain ⟨hC, hW, hH, hHs, hTx, hP0⟩ := id hI
  have hT := hW.1
  obtain ⟨hn1, hn16, hb4, ⟨hd0, hd3, hd5, hd6⟩, hpar⟩ := id hT
  refine r_aload_n C dX7_clearText_0 0 rfl ?_
  refine r_getr (q2 := 73) C dX7_clearText_1 2 f_X7_26 rfl rfl ?_
  refine r_geti C dX7_clearText_4 1 f_X7_219 rfl rfl ?_
  refine r_valI (y := nI len) (hTx.1) ?_
  refine r_istore_n (L' := [(1, .int (nI len)), (0, .ref (mA G 0))]) C dX7_clearText_7 (by decide) rfl ?_
  refine r_aload_n C dX7_clearText_8 1 rfl ?_
  refine r_getr (q2 := 73) C dX7_clearText_9 2 f_X7_26 rfl rfl ?_
  refine r_iconst (v := 0) C dX7_clearText_12 rfl ?_
  refine r_puti C dX7_clearText_13 1 fi_X7_219 rfl rfl ?_
  refine r_iload_n C dX7_clearText_16 0 rfl ?_
  exact hend _ _ _ _ _ dX7_clearText_17 (rfl) (⟨⟨rfl, cINV_clr hI, fun q hq => by rw [mset_ne (by omega)]⟩, rfl⟩)

set_option maxRecDepth 20000 in
set_option maxHeartbeats 1000000 in
theorem c_X7_undo (l : Launch) (G : mG) (hG : mInj G) (M : Mem) (g : Glo) (hfl : l.stackTraces = false) (V : View) (Hs : List View) (len : Nat) (T : Nat → Int32) (hI : cINV M V Hs len T) : mcXI l G yX7_undo cX7_undo 1 6 1 6 [.ref (mA G 0)] M g (fun r M' g' => (eUndo Hs = 0 ∧ ∃ Hs0 V0, Hs = Hs0 ++ [V0] ∧ r = nI Hs0.length ∧ cINV M' V0 Hs0 len T ∧ offC M M') ∧ g' = g) (fun E => (E = ISE ∧ eUndo Hs = 1)) := by
  refine mcXI_of (L0 := [(0, .ref (mA G 0))]) hG (by decide) (Nat.le_of_ble_eq_true rfl) rfl ?_
  intro p e s m args below meth c Q C hno hend hqw hqx
  obtain ⟨hC, hW, hH, hHs, hTx, hP0⟩ := id hI
  have hT := hW.1
  obtain ⟨hn1, hn16, hb4, ⟨hd0, hd3, hd5, hd6⟩, hpar⟩ := id hT
  obtain ⟨o, ho, hlen, hh1, hh2, hh5⟩ := id hH
  refine r_aload_n C dX7_undo_0 0 rfl ?_
  refine r_getr (q2 := 15) C dX7_undo_1 1 f_X7_19 rfl rfl ?_
  refine r_geti C dX7_undo_4 2 f_X7_234 rfl rfl ?_
  refine r_valI (y := nI Hs.length) (hh2) ?_
  refine r_if_gt (tgt := 20) C dX7_undo_7 (by decide) (fun c7 => ?_) (fun c7 => ?_)
  ·
    have hne : Hs ≠ [] := fun z => by rw [z] at c7; exact absurd c7 (by decide)
    obtain ⟨Hs0, V0, hcat⟩ : ∃ Hs0 V0, Hs = Hs0 ++ [V0] := ⟨Hs.dropLast, Hs.getLast hne, (List.dropLast_concat_getLast hne).symm⟩
    have hHH : hiOK M (Hs0 ++ [V0]) := hcat ▸ hH
    have hw2 : wfV V0 := hHs V0 (by rw [hcat]; simp)
    refine r_aload_n C dX7_undo_20 0 rfl ?_
    refine r_getr (q2 := 15) C dX7_undo_21 1 f_X7_19 rfl rfl ?_
    refine r_aload_n C dX7_undo_24 0 rfl ?_
    refine r_getr (q2 := 1) C dX7_undo_25 0 f_X7_10 rfl rfl ?_
    refine r_callVV (As := [.ref (mA G 1)]) (rest := []) C dX7_undo_28 s_X7_237 (c_X1_bringBack l G hG M g Hs0 V0 hHH (hw2.1.2.1) (hw2.1.2.2.1)) (by decide) rfl rfl rfl rfl (Nat.le_of_ble_eq_true rfl) (Nat.le_of_ble_eq_true rfl) (Nat.le_of_ble_eq_true rfl) (fun M1 g1 hp28 => ?_)
    obtain ⟨⟨⟨hk1, hs1⟩, o1⟩, eg28⟩ := hp28
    rw [eg28]
    refine r_aload_n C dX7_undo_31 0 rfl ?_
    refine r_callVV (As := []) (rest := []) C dX7_undo_32 s_X7_61 (c_X7_settle l G hG M1 g V0 hw2.1 (hs1) (wfZ_of hw2)) (by decide) rfl rfl rfl rfl (Nat.le_of_ble_eq_true rfl) (Nat.le_of_ble_eq_true rfl) (Nat.le_of_ble_eq_true rfl) (fun M3 g3 hp32 => ?_)
    obtain ⟨⟨hc3, oc3⟩, eg32⟩ := hp32
    rw [eg32]
    refine r_aload_n C dX7_undo_35 0 rfl ?_
    refine r_getr (q2 := 15) C dX7_undo_36 1 f_X7_19 rfl rfl ?_
    refine r_geti C dX7_undo_39 2 f_X7_234 rfl rfl ?_
    refine r_valI (y := nI Hs0.length) (by obtain ⟨_, _, _, _, z, _⟩ := hk1.off oc3 (by decide); exact z) ?_
    exact hend _ _ _ _ _ _ _ (Nat.le_of_ble_eq_true rfl) (Nat.le_of_ble_eq_true rfl) dX7_undo_42 (⟨⟨if_neg (by rw [hcat]; simp), Hs0, V0, hcat, rfl, ⟨hc3, hw2, hk1.off oc3 (by decide), fun W hW2 => hHs W (by rw [hcat]; exact List.mem_append_left _ hW2), by rw [oc3 73 (by decide), oc3 74 (by decide), o1 73 (by decide), o1 74 (by decide)]; exact hTx, fun w hw => by rw [oc3 _ (by omega), o1 _ (by omega)]; exact hP0 w hw⟩, fun q hq => (oc3 q (by omega)).trans (o1 q (by omega))⟩, rfl⟩)
  ·
    have h0 : Hs.length = 0 := by rcases Nat.eq_zero_or_pos Hs.length with q | q; exact q; exact absurd (i32_nle.mp (nI_nle q (by omega))) c7
    exact r_throwS (st := []) C hno (by decide) hqw hfl t_X7_235 (⟨rfl, if_pos h0⟩) dX7_undo_10 dX7_undo_13 dX7_undo_14 dX7_undo_16 dX7_undo_19 (Nat.le_of_ble_eq_true rfl) (Nat.le_of_ble_eq_true rfl) (Nat.le_of_ble_eq_true rfl)

set_option maxRecDepth 20000 in
set_option maxHeartbeats 1000000 in
theorem c_X7_parse (l : Launch) (G : mG) (hG : mInj G) (M : Mem) (g : Glo) (V : View) (Hs : List View) (len : Nat) (T : Nat → Int32) (hI : cINV M V Hs len T) : mcI l G yX7_parse cX7_parse 2 .int 6 [.ref (mA G 0)] M g (fun r M' g' => (((psF T len 16 vOne 0).1 = true ∧ r = nI (vN (psF T len 16 vOne 0).2.1) ∧ cINV M' (vNet V (psF T len 16 vOne 0).2.1) (hPush Hs V) len T ∧ offC M M') ∨ ((psF T len 16 vOne 0).1 = false ∧ r = -10 - nI (psF T len 16 vOne 0).2.2 ∧ cINV M' V Hs len T ∧ offC M M')) ∧ g' = g) := by
  refine mcI_of (L0 := [(0, .ref (mA G 0))]) hG (by decide) (Nat.le_of_ble_eq_true rfl) rfl ?_
  intro p e s m args below meth c Q C hend
  obtain ⟨hC, hW, hH, hHs, hTx, hP0⟩ := id hI
  have hT := hW.1
  obtain ⟨hn1, hn16, hb4, ⟨hd0, hd3, hd5, hd6⟩, hpar⟩ := id hT
  have hfl2 : psF (M 74) len 16 vOne 0 = psF T len 16 vOne 0 := psF_fl hTx.2.2 16 vOne 0 (Nat.zero_le _)
  have hPw := psF_wf (T := T) (len := len) 16 vOne 0 wfN_one
  have hpos : (psF T len 16 vOne 0).2.2 ≤ len := psF_le 16 vOne 0 (Nat.zero_le _)
  refine r_aload_n C dX7_parse_0 0 rfl ?_
  refine r_getr (q2 := 73) C dX7_parse_1 2 f_X7_26 rfl rfl ?_
  refine r_aload_n C dX7_parse_4 0 rfl ?_
  refine r_getr (q2 := 97) C dX7_parse_5 7 f_X7_53 rfl rfl ?_
  refine r_callVI (As := [.ref (mA G 97)]) (rest := []) C dX7_parse_8 s_X7_227 (c_X4_readInto l G hG M g len hTx.2.1 hTx.1 hP0) (by decide) rfl rfl rfl rfl (Nat.le_of_ble_eq_true rfl) (Nat.le_of_ble_eq_true rfl) (Nat.le_of_ble_eq_true rfl) (fun r8 M8 g8 hp8 => ?_)
  obtain ⟨⟨hr8, hl8, ho8, hc8⟩, eg8⟩ := hp8
  rw [eg8]
  rw [hfl2] at hr8 hc8
  have hI8 := cINV_rd hI hl8 ho8 hc8 hPw
  have hof8 : offC M M8 := fun q hq => ho8 q (by omega) (by omega)
  refine r_istore_n (L' := [(1, .int r8), (0, .ref (mA G 0))]) C dX7_parse_11 (by decide) rfl ?_
  refine r_iload_n C dX7_parse_12 0 rfl ?_
  refine r_iconst (v := (-1)) C dX7_parse_13 rfl ?_
  refine r_icmp_eq (tgt := 22) C dX7_parse_14 (by decide) (fun c14 => ?_) (fun c14 => ?_)
  ·
    have hX : (psF T len 16 vOne 0).1 = true := by rcases Bool.eq_false_or_eq_true (psF T len 16 vOne 0).1 with q | q; exact q; (rw [hr8, if_neg (by rw [q]; decide)] at c14; exact absurd c14 (nI_nm1 (by have := hTx.2.1; omega)))
    refine r_aload_n C dX7_parse_22 1 rfl ?_
    refine r_getr (q2 := 15) C dX7_parse_23 1 f_X7_19 rfl rfl ?_
    refine r_aload_n C dX7_parse_26 1 rfl ?_
    refine r_getr (q2 := 1) C dX7_parse_27 0 f_X7_10 rfl rfl ?_
    refine r_callVV (As := [.ref (mA G 1)]) (rest := []) C dX7_parse_30 s_X7_86 (c_X1_keep l G hG M8 g Hs hI8.2.2.1 V hI8.1.1 hn16 hb4) (by decide) rfl rfl rfl rfl (Nat.le_of_ble_eq_true rfl) (Nat.le_of_ble_eq_true rfl) (Nat.le_of_ble_eq_true rfl) (fun M1 g1 hp30 => ?_)
    obtain ⟨⟨hk1, ok1⟩, eg30⟩ := hp30
    rw [eg30]
    have hS1 : cSt M1 1 V := hI8.1.1.off ok1 (by decide)
    have hw2 : wfV (vNet V (psF T len 16 vOne 0).2.1) := wf_net2 hW hPw
    refine r_aload_n C dX7_parse_33 1 rfl ?_
    refine r_getr (q2 := 1) C dX7_parse_34 0 f_X7_10 rfl rfl ?_
    refine r_getr (q2 := 2) C dX7_parse_37 0 f_X7_72 rfl rfl ?_
    refine r_aload_n C dX7_parse_40 1 rfl ?_
    refine r_getr (q2 := 97) C dX7_parse_41 7 f_X7_53 rfl rfl ?_
    refine r_callVV (As := [.ref (mA G 97)]) (rest := []) C dX7_parse_44 s_X7_231 (c_X3_copyFrom l G hG M1 g 2 97 isNet_2 isNet_97 (psF T len 16 vOne 0).2.1 (hc8.off ok1 (by decide)) hPw.1.2.1 (by decide)) (by decide) rfl rfl rfl rfl (Nat.le_of_ble_eq_true rfl) (Nat.le_of_ble_eq_true rfl) (Nat.le_of_ble_eq_true rfl) (fun M2 g2 hp44 => ?_)
    obtain ⟨⟨hn44, on44⟩, eg44⟩ := hp44
    rw [eg44]
    refine r_aload_n C dX7_parse_47 1 rfl ?_
    refine r_callVV (As := []) (rest := []) C dX7_parse_48 s_X7_61 (c_X7_settle l G hG M2 g (vNet V (psF T len 16 vOne 0).2.1) hw2.1 (cSt_net hS1 hn44 on44) (wfZ_of hw2)) (by decide) rfl rfl rfl rfl (Nat.le_of_ble_eq_true rfl) (Nat.le_of_ble_eq_true rfl) (Nat.le_of_ble_eq_true rfl) (fun M3 g3 hp48 => ?_)
    obtain ⟨⟨hc3, oc3⟩, eg48⟩ := hp48
    rw [eg48]
    refine r_aload_n C dX7_parse_51 1 rfl ?_
    refine r_getr (q2 := 1) C dX7_parse_52 0 f_X7_10 rfl rfl ?_
    refine r_getr (q2 := 2) C dX7_parse_55 0 f_X7_72 rfl rfl ?_
    refine r_geti C dX7_parse_58 8 f_X7_75 rfl rfl ?_
    refine r_valI (y := nI (vN (psF T len 16 vOne 0).2.1)) (hc3.net.1) ?_
    exact hend _ _ _ _ _ dX7_parse_61 (rfl) (⟨Or.inl ⟨hX, rfl, (cINV_mut hI8 hk1 ok1 (fun q hq => on44 q (by omega)) hc3 oc3 hw2).1, (cINV_mut hI8 hk1 ok1 (fun q hq => on44 q (by omega)) hc3 oc3 hw2).2.tr0 hof8⟩, rfl⟩)
  ·
    have hX : (psF T len 16 vOne 0).1 = false := by rcases Bool.eq_false_or_eq_true (psF T len 16 vOne 0).1 with q | q; (exact absurd (by rw [hr8, if_pos q]) c14); exact q
    refine r_bipush (v := (-10)) C dX7_parse_17 rfl ?_
    refine r_iload_n C dX7_parse_19 0 rfl ?_
    refine r_isub C dX7_parse_20 ?_
    exact hend _ _ _ _ _ dX7_parse_21 (rfl) (⟨Or.inr ⟨hX, by rw [hr8, if_neg (by rw [hX]; decide)], hI8, hof8⟩, rfl⟩)
