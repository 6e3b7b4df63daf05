set_option maxRecDepth 20000 in
set_option maxHeartbeats 1000000 in
theorem c_X8_supplyFor (l : Launch) (G : mG) (hG : mInj G) (M : Mem) (g : Glo) (V : View) (Hs : List View) (len : Nat) (T : Nat → Int32) (hW : wfV V) (hI : rINV M V Hs len T) (n w ans : Int32) (ha : eSup V n w = 0 → lowP V (wisF n.toNatClampNeg w) ans) : mcI l G yX8_supplyFor cX8_supplyFor 6 .int 4 [.ref (mA G 107), .int n, .int w] M g (fun r M' g' => mtP M M' V Hs len T V Hs len T (eSup V n w) r ans ∧ g' = g) := by
  refine mcI_of (L0 := [(0, .ref (mA G 107)), (1, .int n), (2, .int w)]) hG (by decide) (Nat.le_of_ble_eq_true rfl) rfl ?_
  intro p e s m args below meth c Q C hend
  have hT := hW.1
  obtain ⟨hn1, hn16, hb4, ⟨hd0, hd3, hd5, hd6⟩, hpar⟩ := id hT
  have hV := hI.1
  refine r_aload_n C dX8_supplyFor_0 0 rfl ?_
  refine r_iload_n C dX8_supplyFor_1 1 rfl ?_
  refine r_callVI (As := [.int n]) (rest := []) C dX8_supplyFor_2 s_X8_115 (c_X8_isPipe l G hG M g V hW hV n) (by decide) rfl rfl rfl rfl (Nat.le_of_ble_eq_true rfl) (Nat.le_of_ble_eq_true rfl) (Nat.le_of_ble_eq_true rfl) (fun r2 M2 g2 hp2 => ?_)
  obtain ⟨hy2, eM2, eg2⟩ := hp2
  rw [eg2]
  rw [eM2]
  refine r_if_ne (tgt := 14) C dX8_supplyFor_5 (by decide) (fun c5 => ?_) (fun c5 => ?_)
  ·
    obtain ⟨j, hj0, hj, hnj⟩ := isPp_nI (by omega) (hy2.t c5)
    have e9 : n.toNatClampNeg = j := by rw [hnj]; exact nI_clamp (by omega)
    refine r_iload_n C dX8_supplyFor_14 2 rfl ?_
    refine r_sipush (v := (-200)) C dX8_supplyFor_15 rfl ?_
    refine r_sipush (v := 1200) C dX8_supplyFor_18 rfl ?_
    refine r_callSI (As := [.int w, .int (-200), .int 1200]) (rest := []) C dX8_supplyFor_21 s_X8_83 (c_X8_in l G hG M g w (-200) 1200) (by decide) rfl rfl (Nat.le_of_ble_eq_true rfl) (Nat.le_of_ble_eq_true rfl) (Nat.le_of_ble_eq_true rfl) (fun r21 M21 g21 hp21 => ?_)
    obtain ⟨hy21, eM21, eg21⟩ := hp21
    rw [eg21]
    rw [eM21]
    refine r_if_ne (tgt := 33) C dX8_supplyFor_24 (by decide) (fun c24 => ?_) (fun c24 => ?_)
    ·
      have he : eSup V n w = 0 := (if_neg (not_of (hy2.t c5))).trans (if_neg (not_of (hy21.t c24)))
      refine r_aload_n C dX8_supplyFor_33 0 rfl ?_
      refine r_getr (q2 := 108) C dX8_supplyFor_34 0 f_X8_7 rfl rfl ?_
      refine r_iconst (v := 0) C dX8_supplyFor_37 rfl ?_
      refine r_ialdN (j := 0) (v := vS V 0) C dX8_supplyFor_38 rfl (rfl) (by omega) (by decide) (hV.2.1.1) ?_
      refine r_istore_n (L' := [(3, .int (vS V 0)), (0, .ref (mA G 107)), (1, .int n), (2, .int w)]) C dX8_supplyFor_39 (by decide) rfl ?_
      refine r_iconst (v := (-1)) C dX8_supplyFor_40 rfl ?_
      refine r_istore (L' := [(4, .int (-1)), (3, .int (vS V 0)), (0, .ref (mA G 107)), (1, .int n), (2, .int w)]) C dX8_supplyFor_41 (by decide) rfl ?_
      refine r_sipush (v := nI 400) C dX8_supplyFor_43 rfl ?_
      refine r_istore (L' := [(5, .int (nI 400)), (4, .int (-1)), (3, .int (vS V 0)), (0, .ref (mA G 107)), (1, .int n), (2, .int w)]) C dX8_supplyFor_46 (by decide) rfl ?_
      have lp48 : ∀ (fu : Nat) (N : Mem) (v : Nat) (fd : Int32), (400 ≤ v ∧ v ≤ 1201) → (scP M N) → (spP V j w v fd) → (1201 - v) < fu → At p l e (rmD 4 0 0) s m args below meth c G 6 0 0 Q N g [(5, .int (nI v)), (4, .int fd), (3, .int (vS V 0)), (0, .ref (mA G 107)), (1, .int n), (2, .int w)] 48 [] := by
        intro fu
        induction fu with
        | zero => intro N v fd hv hN hfd hfu; exact absurd hfu (Nat.not_lt_zero _)
        | succ fu ih48 =>
          intro N v fd hv hN hfd hfu48
          refine r_iload C dX8_supplyFor_48 0 rfl ?_
          refine r_sipush (v := 1200) C dX8_supplyFor_50 rfl ?_
          refine r_icmp_gt (tgt := 98) C dX8_supplyFor_53 (by decide) (fun c53 => ?_) (fun c53 => ?_)
          ·
            have hv2 : 1200 < v := (nI_ltI (a := 1200) (by decide) (by omega)).mp c53
            refine r_aload_n C dX8_supplyFor_98 3 rfl ?_
            refine r_getr (q2 := 108) C dX8_supplyFor_99 0 f_X8_7 rfl rfl ?_
            refine r_iconst (v := 0) C dX8_supplyFor_102 rfl ?_
            refine r_iload_n C dX8_supplyFor_103 2 rfl ?_
            refine r_iastN (j := 0) C dX8_supplyFor_104 rfl (rfl) (by omega) (by decide) ?_
            refine r_aload_n C dX8_supplyFor_105 3 rfl ?_
            refine r_iload C dX8_supplyFor_106 1 rfl ?_
            refine r_callVI (As := [.int fd]) (rest := []) C dX8_supplyFor_108 s_X8_44 (c_X8_tells l G hG (mset N 108 0 (vS V 0)) g fd) (by decide) rfl rfl rfl rfl (Nat.le_of_ble_eq_true rfl) (Nat.le_of_ble_eq_true rfl) (Nat.le_of_ble_eq_true rfl) (pk_I ?_)
            exact hend _ _ _ _ _ dX8_supplyFor_111 (rfl) (⟨mt_r hI (sc_end hN hV.2.1.1) he (sp_fin hW hj0 hj hfd (Or.inl hv2) (by have h9 := ha he; rw [e9] at h9; exact h9)), rfl⟩)
          ·
            have hv2 : v ≤ 1200 := by rcases Nat.lt_or_ge 1200 v with q | q; exact absurd ((nI_ltI (a := 1200) (by decide) (by omega)).mpr q) c53; exact q
            have hW2 : wfV (vSc V 0 (nI v)) := wf_sc0 hW ⟨by rw [nI_toInt (by omega)]; omega, by rw [nI_toInt (by omega)]; omega⟩
            have hV2 : rV ((mset N 108 0 (nI v)) 108) (vSc V 0 (nI v)) := by rw [sc_row hN]; exact rV_sc 0 (by decide) hV
            refine r_iload C dX8_supplyFor_56 1 rfl ?_
            refine r_iconst (v := (-1)) C dX8_supplyFor_58 rfl ?_
            refine r_icmp_ne (tgt := 98) C dX8_supplyFor_59 (by decide) (fun c59 => ?_) (fun c59 => ?_)
            ·
              refine r_aload_n C dX8_supplyFor_98 3 rfl ?_
              refine r_getr (q2 := 108) C dX8_supplyFor_99 0 f_X8_7 rfl rfl ?_
              refine r_iconst (v := 0) C dX8_supplyFor_102 rfl ?_
              refine r_iload_n C dX8_supplyFor_103 2 rfl ?_
              refine r_iastN (j := 0) C dX8_supplyFor_104 rfl (rfl) (by omega) (by decide) ?_
              refine r_aload_n C dX8_supplyFor_105 3 rfl ?_
              refine r_iload C dX8_supplyFor_106 1 rfl ?_
              refine r_callVI (As := [.int fd]) (rest := []) C dX8_supplyFor_108 s_X8_44 (c_X8_tells l G hG (mset N 108 0 (vS V 0)) g fd) (by decide) rfl rfl rfl rfl (Nat.le_of_ble_eq_true rfl) (Nat.le_of_ble_eq_true rfl) (Nat.le_of_ble_eq_true rfl) (pk_I ?_)
              exact hend _ _ _ _ _ dX8_supplyFor_111 (rfl) (⟨mt_r hI (sc_end hN hV.2.1.1) he (sp_fin hW hj0 hj hfd (Or.inr c59) (by have h9 := ha he; rw [e9] at h9; exact h9)), rfl⟩)
            ·
              refine r_aload_n C dX8_supplyFor_62 3 rfl ?_
              refine r_getr (q2 := 108) C dX8_supplyFor_63 0 f_X8_7 rfl rfl ?_
              refine r_iconst (v := 0) C dX8_supplyFor_66 rfl ?_
              refine r_iload C dX8_supplyFor_67 0 rfl ?_
              refine r_iastN (j := 0) C dX8_supplyFor_69 rfl (rfl) (by omega) (by decide) ?_
              refine r_aload_n C dX8_supplyFor_70 3 rfl ?_
              refine r_callVV (As := []) (rest := []) C dX8_supplyFor_71 s_X8_126 (c_X8_works l G hG (mset N 108 0 (nI v)) g (vSc V 0 (nI v)) hW2 hV2) (by decide) rfl rfl rfl rfl (Nat.le_of_ble_eq_true rfl) (Nat.le_of_ble_eq_true rfl) (Nat.le_of_ble_eq_true rfl) (fun M71 g71 hp71 => ?_)
              obtain ⟨⟨o71, hR71⟩, eg71⟩ := hp71
              rw [eg71]
              have hV71 := (frW.of o71).rv hV2
              refine r_aload_n C dX8_supplyFor_74 3 rfl ?_
              refine r_getr (q2 := 113) C dX8_supplyFor_75 8 f_X8_25 rfl rfl ?_
              refine r_iload_n C dX8_supplyFor_78 4 rfl ?_
              refine r_valI (y := nI j) (hnj) ?_
              refine r_ialdN (j := j) (v := warmF V (nI v) j) C dX8_supplyFor_79 rfl (rfl) (by omega) (by decide) (((hR71 j hj).2.1).trans (sc_wm V (nI v) j)) ?_
              refine r_iload_n C dX8_supplyFor_80 5 rfl ?_
              refine r_icmp_lt (tgt := 89) C dX8_supplyFor_81 (by decide) (fun c81 => ?_) (fun c81 => ?_)
              ·
                refine r_iconst (v := (-1)) C dX8_supplyFor_89 rfl ?_
                refine r_istore (L' := [(4, .int (-1)), (5, .int (nI v)), (3, .int (vS V 0)), (0, .ref (mA G 107)), (1, .int n), (2, .int w)]) C dX8_supplyFor_90 (by decide) rfl ?_
                refine r_iinc (v := nI (v + 1)) (L' := [(5, .int (nI (v + 1))), (4, .int (-1)), (3, .int (vS V 0)), (0, .ref (mA G 107)), (1, .int n), (2, .int w)]) C dX8_supplyFor_92 1 rfl (nI_inc _) (by decide) rfl ?_
                refine r_goto (tgt := 48) C dX8_supplyFor_95 (by decide) ?_
                refine r_sub (L' := [(5, .int (nI (v + 1))), (4, .int (-1)), (3, .int (vS V 0)), (0, .ref (mA G 107)), (1, .int n), (2, .int w)]) [0, 1, 2, 3, 4, 5] rfl ?_
                exact ih48 _ (v + 1) _ (by omega) (sc_go hN (frW.of o71)) (sp_no hfd c59 (i32_nle.mpr c81) hv2) (by omega)
              ·
                refine r_iload C dX8_supplyFor_84 0 rfl ?_
                refine r_goto (tgt := 90) C dX8_supplyFor_86 (by decide) ?_
                refine r_istore (L' := [(4, .int (nI v)), (5, .int (nI v)), (3, .int (vS V 0)), (0, .ref (mA G 107)), (1, .int n), (2, .int w)]) C dX8_supplyFor_90 (by decide) rfl ?_
                refine r_iinc (v := nI (v + 1)) (L' := [(5, .int (nI (v + 1))), (4, .int (nI v)), (3, .int (vS V 0)), (0, .ref (mA G 107)), (1, .int n), (2, .int w)]) C dX8_supplyFor_92 1 rfl (nI_inc _) (by decide) rfl ?_
                refine r_goto (tgt := 48) C dX8_supplyFor_95 (by decide) ?_
                refine r_sub (L' := [(5, .int (nI (v + 1))), (4, .int (nI v)), (3, .int (vS V 0)), (0, .ref (mA G 107)), (1, .int n), (2, .int w)]) [0, 1, 2, 3, 4, 5] rfl ?_
                exact ih48 _ (v + 1) _ (by omega) (sc_go hN (frW.of o71)) (sp_tk hfd c59 (i32_nlt.mp c81) hv.1 hv2) (by omega)
      refine r_sub (L' := [(5, .int (nI 400)), (4, .int (-1)), (3, .int (vS V 0)), (0, .ref (mA G 107)), (1, .int n), (2, .int w)]) [0, 1, 2, 3, 4, 5] rfl ?_
      exact lp48 _ _ 400 (-1) (by omega) (sc_st M) (Or.inl ⟨rfl, fun s h1 h2 => by omega⟩) (Nat.lt_succ_self _)
    ·
      refine r_aload_n C dX8_supplyFor_27 0 rfl ?_
      refine r_iconst (v := 2) C dX8_supplyFor_28 rfl ?_
      refine r_callVI (As := [.int 2]) (rest := []) C dX8_supplyFor_29 s_X8_95 (c_X8_fails l G hG M g 2) (by decide) rfl rfl rfl rfl (Nat.le_of_ble_eq_true rfl) (Nat.le_of_ble_eq_true rfl) (Nat.le_of_ble_eq_true rfl) (pk_I ?_)
      exact hend _ _ _ _ _ dX8_supplyFor_32 (rfl) (⟨mt_f 2 hI (frW.rf M).t ((if_neg (not_of (hy2.t c5))).trans (if_pos (hy21.f c24))) (by decide), rfl⟩)
  ·
    refine r_aload_n C dX8_supplyFor_8 0 rfl ?_
    refine r_iconst (v := 1) C dX8_supplyFor_9 rfl ?_
    refine r_callVI (As := [.int 1]) (rest := []) C dX8_supplyFor_10 s_X8_95 (c_X8_fails l G hG M g 1) (by decide) rfl rfl rfl rfl (Nat.le_of_ble_eq_true rfl) (Nat.le_of_ble_eq_true rfl) (Nat.le_of_ble_eq_true rfl) (pk_I ?_)
    exact hend _ _ _ _ _ dX8_supplyFor_13 (rfl) (⟨mt_f 1 hI (frW.rf M).t (if_pos (hy2.f c5)) (by decide), rfl⟩)

set_option maxRecDepth 20000 in
set_option maxHeartbeats 1000000 in
theorem c_X8_cheapestSupply (l : Launch) (G : mG) (hG : mInj G) (M : Mem) (g : Glo) (V : View) (Hs : List View) (len : Nat) (T : Nat → Int32) (hW : wfV V) (hI : rINV M V Hs len T) (r0 : Int32) (hr0 : lowP V (wchF V) r0) : mcI l G yX8_cheapestSupply cX8_cheapestSupply 6 .int 5 [.ref (mA G 107)] M g (fun r M' g' => mtP M M' V Hs len T V Hs len T 0 r (chpF V r0) ∧ g' = g) := by
  refine mcI_of (L0 := [(0, .ref (mA G 107))]) hG (by decide) (Nat.le_of_ble_eq_true rfl) rfl ?_
  intro p e s m args below meth c Q C hend
  have hT := hW.1
  obtain ⟨hn1, hn16, hb4, ⟨hd0, hd3, hd5, hd6⟩, hpar⟩ := id hT
  have hV := hI.1
  refine r_aload_n C dX8_cheapestSupply_0 0 rfl ?_
  refine r_getr (q2 := 108) C dX8_cheapestSupply_1 0 f_X8_7 rfl rfl ?_
  refine r_iconst (v := 0) C dX8_cheapestSupply_4 rfl ?_
  refine r_ialdN (j := 0) (v := vS V 0) C dX8_cheapestSupply_5 rfl (rfl) (by omega) (by decide) (hV.2.1.1) ?_
  refine r_istore_n (L' := [(1, .int (vS V 0)), (0, .ref (mA G 107))]) C dX8_cheapestSupply_6 (by decide) rfl ?_
  refine r_iconst (v := (-1)) C dX8_cheapestSupply_7 rfl ?_
  refine r_istore_n (L' := [(2, .int (-1)), (1, .int (vS V 0)), (0, .ref (mA G 107))]) C dX8_cheapestSupply_8 (by decide) rfl ?_
  refine r_iconst (v := 0) C dX8_cheapestSupply_9 rfl ?_
  refine r_istore_n (L' := [(3, .int 0), (2, .int (-1)), (1, .int (vS V 0)), (0, .ref (mA G 107))]) C dX8_cheapestSupply_10 (by decide) rfl ?_
  refine r_sipush (v := nI 400) C dX8_cheapestSupply_11 rfl ?_
  refine r_istore (L' := [(4, .int (nI 400)), (3, .int 0), (2, .int (-1)), (1, .int (vS V 0)), (0, .ref (mA G 107))]) C dX8_cheapestSupply_14 (by decide) rfl ?_
  have lp16 : ∀ (fu : Nat) (N : Mem) (v : Nat) (bs ls : Int32), (400 ≤ v ∧ v ≤ 1201) → (scP M N) → (chP V v bs ls) → (1201 - v) < fu → At p l e (rmD 5 0 0) s m args below meth c G 6 0 0 Q N g [(4, .int (nI v)), (3, .int ls), (2, .int bs), (1, .int (vS V 0)), (0, .ref (mA G 107))] 16 [] := by
    intro fu
    induction fu with
    | zero => intro N v bs ls hv hN hch hfu; exact absurd hfu (Nat.not_lt_zero _)
    | succ fu ih16 =>
      intro N v bs ls hv hN hch hfu16
      refine r_iload C dX8_cheapestSupply_16 0 rfl ?_
      refine r_sipush (v := 1200) C dX8_cheapestSupply_18 rfl ?_
      refine r_icmp_gt (tgt := 79) C dX8_cheapestSupply_21 (by decide) (fun c21 => ?_) (fun c21 => ?_)
      ·
        have hv2 : 1200 < v := (nI_ltI (a := 1200) (by decide) (by omega)).mp c21
        refine r_aload_n C dX8_cheapestSupply_79 4 rfl ?_
        refine r_getr (q2 := 108) C dX8_cheapestSupply_80 0 f_X8_7 rfl rfl ?_
        refine r_iconst (v := 0) C dX8_cheapestSupply_83 rfl ?_
        refine r_iload_n C dX8_cheapestSupply_84 3 rfl ?_
        refine r_iastN (j := 0) C dX8_cheapestSupply_85 rfl (rfl) (by omega) (by decide) ?_
        refine r_aload_n C dX8_cheapestSupply_86 4 rfl ?_
        refine r_iload_n C dX8_cheapestSupply_87 2 rfl ?_
        refine r_callVI (As := [.int bs]) (rest := []) C dX8_cheapestSupply_88 s_X8_44 (c_X8_tells l G hG (mset N 108 0 (vS V 0)) g bs) (by decide) rfl rfl rfl rfl (Nat.le_of_ble_eq_true rfl) (Nat.le_of_ble_eq_true rfl) (Nat.le_of_ble_eq_true rfl) (pk_I ?_)
        exact hend _ _ _ _ _ dX8_cheapestSupply_91 (rfl) (⟨mt_r hI (sc_end hN hV.2.1.1) rfl (chp_fin hW (by have h9 := hch; rw [show v = 1201 by omega] at h9; exact h9) hr0), rfl⟩)
      ·
        have hv2 : v ≤ 1200 := by rcases Nat.lt_or_ge 1200 v with q | q; exact absurd ((nI_ltI (a := 1200) (by decide) (by omega)).mpr q) c21; exact q
        have hW2 : wfV (vSc V 0 (nI v)) := wf_sc0 hW ⟨by rw [nI_toInt (by omega)]; omega, by rw [nI_toInt (by omega)]; omega⟩
        have hV2 : rV ((mset N 108 0 (nI v)) 108) (vSc V 0 (nI v)) := by rw [sc_row hN]; exact rV_sc 0 (by decide) hV
        refine r_aload_n C dX8_cheapestSupply_24 4 rfl ?_
        refine r_getr (q2 := 108) C dX8_cheapestSupply_25 0 f_X8_7 rfl rfl ?_
        refine r_iconst (v := 0) C dX8_cheapestSupply_28 rfl ?_
        refine r_iload C dX8_cheapestSupply_29 0 rfl ?_
        refine r_iastN (j := 0) C dX8_cheapestSupply_31 rfl (rfl) (by omega) (by decide) ?_
        refine r_aload_n C dX8_cheapestSupply_32 4 rfl ?_
        refine r_callVV (As := []) (rest := []) C dX8_cheapestSupply_33 s_X8_126 (c_X8_works l G hG (mset N 108 0 (nI v)) g (vSc V 0 (nI v)) hW2 hV2) (by decide) rfl rfl rfl rfl (Nat.le_of_ble_eq_true rfl) (Nat.le_of_ble_eq_true rfl) (Nat.le_of_ble_eq_true rfl) (fun M33 g33 hp33 => ?_)
        obtain ⟨⟨o33, hR33⟩, eg33⟩ := hp33
        rw [eg33]
        have hV33 := (frW.of o33).rv hV2
        refine r_aload_n C dX8_cheapestSupply_36 4 rfl ?_
        refine r_callVI (As := []) (rest := []) C dX8_cheapestSupply_37 s_X8_132 (c_X8_costs l G hG M33 g (vSc V 0 (nI v)) hW2 hV33 hR33) (by decide) rfl rfl rfl rfl (Nat.le_of_ble_eq_true rfl) (Nat.le_of_ble_eq_true rfl) (Nat.le_of_ble_eq_true rfl) (fun r37 M37 g37 hp37 => ?_)
        obtain ⟨⟨e37, hc37⟩, eg37⟩ := hp37
        rw [eg37]
        have hV37 := hc37.fr.rv hV33
        have hR37 := hc37.ok hR33
        refine r_valI (y := costF V (needF V (nI v))) (e37.trans (sc_co V (nI v))) ?_
        refine r_istore (L' := [(5, .int (costF V (needF V (nI v)))), (4, .int (nI v)), (3, .int ls), (2, .int bs), (1, .int (vS V 0)), (0, .ref (mA G 107))]) C dX8_cheapestSupply_40 (by decide) rfl ?_
        refine r_aload_n C dX8_cheapestSupply_42 5 rfl ?_
        refine r_geti C dX8_cheapestSupply_43 12 f_X8_80 rfl rfl ?_
        refine r_valI (y := unmetF V (needF V (nI v))) (hc37.un.trans (sc_un V (nI v))) ?_
        refine r_if_ne (tgt := 73) C dX8_cheapestSupply_46 (by decide) (fun c46 => ?_) (fun c46 => ?_)
        ·
          refine r_iinc (v := nI (v + 1)) (L' := [(4, .int (nI (v + 1))), (5, .int (costF V (needF V (nI v)))), (3, .int ls), (2, .int bs), (1, .int (vS V 0)), (0, .ref (mA G 107))]) C dX8_cheapestSupply_73 1 rfl (nI_inc _) (by decide) rfl ?_
          refine r_goto (tgt := 16) C dX8_cheapestSupply_76 (by decide) ?_
          refine r_sub (L' := [(4, .int (nI (v + 1))), (3, .int ls), (2, .int bs), (1, .int (vS V 0)), (0, .ref (mA G 107))]) [0, 2, 3, 4, 5] rfl ?_
          exact ih16 _ (v + 1) _ _ (by omega) (sc_go hN ((frW.of o33).tr hc37.fr)) (chp_no hch (fun z => c46 z.1)) (by omega)
        ·
          refine r_aload_n C dX8_cheapestSupply_49 5 rfl ?_
          refine r_callVI (As := []) (rest := []) C dX8_cheapestSupply_50 s_X8_178 (c_X8_isWarm l G hG M37 g (vSc V 0 (nI v)) hW2 hV37 hR37) (by decide) rfl rfl rfl rfl (Nat.le_of_ble_eq_true rfl) (Nat.le_of_ble_eq_true rfl) (Nat.le_of_ble_eq_true rfl) (pk_I ?_)
          refine r_if_eq (tgt := 73) C dX8_cheapestSupply_53 (by decide) (fun c53 => ?_) (fun c53 => ?_)
          ·
            refine r_iinc (v := nI (v + 1)) (L' := [(4, .int (nI (v + 1))), (5, .int (costF V (needF V (nI v)))), (3, .int ls), (2, .int bs), (1, .int (vS V 0)), (0, .ref (mA G 107))]) C dX8_cheapestSupply_73 1 rfl (nI_inc _) (by decide) rfl ?_
            refine r_goto (tgt := 16) C dX8_cheapestSupply_76 (by decide) ?_
            refine r_sub (L' := [(4, .int (nI (v + 1))), (3, .int ls), (2, .int bs), (1, .int (vS V 0)), (0, .ref (mA G 107))]) [0, 2, 3, 4, 5] rfl ?_
            exact ih16 _ (v + 1) _ _ (by omega) (sc_go hN ((frW.of o33).tr hc37.fr)) (chp_no hch (fun z => by have h9 := (sc_gr hW hv2).mpr z.2; exact absurd (h9.symm.trans (b2i_0.mp c53)) (by decide))) (by omega)
          ·
            refine r_iload_n C dX8_cheapestSupply_56 3 rfl ?_
            refine r_iconst (v := (-1)) C dX8_cheapestSupply_57 rfl ?_
            refine r_icmp_eq (tgt := 67) C dX8_cheapestSupply_58 (by decide) (fun c58 => ?_) (fun c58 => ?_)
            ·
              refine r_iload C dX8_cheapestSupply_67 1 rfl ?_
              refine r_istore_n (L' := [(2, .int (nI v)), (5, .int (costF V (needF V (nI v)))), (4, .int (nI v)), (3, .int ls), (1, .int (vS V 0)), (0, .ref (mA G 107))]) C dX8_cheapestSupply_69 (by decide) rfl ?_
              refine r_iload C dX8_cheapestSupply_70 1 rfl ?_
              refine r_istore_n (L' := [(3, .int (costF V (needF V (nI v)))), (2, .int (nI v)), (5, .int (costF V (needF V (nI v)))), (4, .int (nI v)), (1, .int (vS V 0)), (0, .ref (mA G 107))]) C dX8_cheapestSupply_72 (by decide) rfl ?_
              refine r_iinc (v := nI (v + 1)) (L' := [(4, .int (nI (v + 1))), (3, .int (costF V (needF V (nI v)))), (2, .int (nI v)), (5, .int (costF V (needF V (nI v)))), (1, .int (vS V 0)), (0, .ref (mA G 107))]) C dX8_cheapestSupply_73 3 rfl (nI_inc _) (by decide) rfl ?_
              refine r_goto (tgt := 16) C dX8_cheapestSupply_76 (by decide) ?_
              refine r_sub (L' := [(4, .int (nI (v + 1))), (3, .int (costF V (needF V (nI v)))), (2, .int (nI v)), (1, .int (vS V 0)), (0, .ref (mA G 107))]) [0, 1, 2, 4, 5] rfl ?_
              exact ih16 _ (v + 1) _ _ (by omega) (sc_go hN ((frW.of o33).tr hc37.fr)) (chp_tk hch c58 hv.1 hv2 ⟨c46, (sc_gr hW hv2).mp (b2i_1.mp c53)⟩) (by omega)
            ·
              refine r_iload C dX8_cheapestSupply_61 0 rfl ?_
              refine r_iload_n C dX8_cheapestSupply_63 2 rfl ?_
              refine r_icmp_ge (tgt := 73) C dX8_cheapestSupply_64 (by decide) (fun _ => ?_) (fun h => absurd (chp_ge hW hch c58 hv2) h)
              refine r_iinc (v := nI (v + 1)) (L' := [(4, .int (nI (v + 1))), (5, .int (costF V (needF V (nI v)))), (3, .int ls), (2, .int bs), (1, .int (vS V 0)), (0, .ref (mA G 107))]) C dX8_cheapestSupply_73 1 rfl (nI_inc _) (by decide) rfl ?_
              refine r_goto (tgt := 16) C dX8_cheapestSupply_76 (by decide) ?_
              refine r_sub (L' := [(4, .int (nI (v + 1))), (3, .int ls), (2, .int bs), (1, .int (vS V 0)), (0, .ref (mA G 107))]) [0, 2, 3, 4, 5] rfl ?_
              exact ih16 _ (v + 1) _ _ (by omega) (sc_go hN ((frW.of o33).tr hc37.fr)) (chp_kp hch c58) (by omega)
  refine r_sub (L' := [(4, .int (nI 400)), (3, .int 0), (2, .int (-1)), (1, .int (vS V 0)), (0, .ref (mA G 107))]) [0, 1, 2, 3, 4] rfl ?_
  exact lp16 _ _ 400 (-1) 0 (by omega) (sc_st M) (Or.inl ⟨rfl, fun s h1 h2 => by omega⟩) (Nat.lt_succ_self _)
