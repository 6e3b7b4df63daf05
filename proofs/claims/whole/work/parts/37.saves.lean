set_option maxRecDepth 20000 in
set_option maxHeartbeats 1000000 in
theorem c_X7_saves (l : Launch) (G : mG) (hG : mInj G) (M : Mem) (g : Glo) (hfl : l.stackTraces = false) (V : View) (Hs : List View) (len : Nat) (T : Nat → Int32) (hI : cINV M V Hs len T) (n : Int32) : mcXI l G yX7_saves cX7_saves 3 7 1 6 [.ref (mA G 0), .int n] M g (fun r M' g' => (ePp V n = 0 ∧ r = savF V n.toNatClampNeg ∧ cINV M' V Hs len T ∧ offC M M') ∧ g' = g) (fun E => (E = IOO ∧ ePp V n = 1)) := by
  refine mcXI_of (L0 := [(0, .ref (mA G 0)), (1, .int n)]) hG (by decide) (Nat.le_of_ble_eq_true rfl) rfl ?_
  intro p e s m args below meth c Q C hno hend hqw hqx
  obtain ⟨hC, hW, hH, hHs, hTx, hP0⟩ := id hI
  have hT := hW.1
  obtain ⟨hn1, hn16, hb4, ⟨hd0, hd3, hd5, hd6⟩, hpar⟩ := id hT
  refine r_aload_n C dX7_saves_0 0 rfl ?_
  refine r_iload_n C dX7_saves_1 1 rfl ?_
  refine r_xVV (As := [.int n]) (rest := []) C dX7_saves_2 s_X7_94 (c_X7_requirePipe l G hG M g hfl V hn16 hC.net.1 n) (by decide) rfl rfl rfl rfl (Nat.le_of_ble_eq_true rfl) (Nat.le_of_ble_eq_true rfl) (Nat.le_of_ble_eq_true rfl) (fun E9 hE9 => r_outX hno hqx (⟨hE9.1, if_pos hE9.2⟩) (Nat.le_of_ble_eq_true rfl) (Nat.le_of_ble_eq_true rfl)) (pk_VC (fun hc2 => ?_))
  obtain ⟨j, hj0, hj, hnj⟩ := isPp_nI (by omega) hc2
  have e9 : n.toNatClampNeg = j := by rw [hnj]; exact nI_clamp (by omega)
  have hw2 : wfV (vSet V 5 j 0) := wf_set5 hW hj0 ⟨by decide, by decide⟩
  have hS2 : cSt (mset M 8 j 0) 1 (vSet V 5 j 0) := cSt_set (w := 5) (by decide) hC.1
  refine r_aload_n C dX7_saves_5 0 rfl ?_
  refine r_getr (q2 := 1) C dX7_saves_6 0 f_X7_10 rfl rfl ?_
  refine r_getr (q2 := 2) C dX7_saves_9 0 f_X7_72 rfl rfl ?_
  refine r_getr (q2 := 8) C dX7_saves_12 5 f_X7_103 rfl rfl ?_
  refine r_iload_n C dX7_saves_15 1 rfl ?_
  refine r_ialdN (j := j) (v := vD V 5 j) C dX7_saves_16 rfl (hnj) (by omega) (by decide) (hC.net.at 5 (by decide) hj) ?_
  refine r_istore_n (L' := [(2, .int (vD V 5 j)), (0, .ref (mA G 0)), (1, .int n)]) C dX7_saves_17 (by decide) rfl ?_
  refine r_aload_n C dX7_saves_18 1 rfl ?_
  refine r_getr (q2 := 1) C dX7_saves_19 0 f_X7_10 rfl rfl ?_
  refine r_getr (q2 := 2) C dX7_saves_22 0 f_X7_72 rfl rfl ?_
  refine r_getr (q2 := 8) C dX7_saves_25 5 f_X7_103 rfl rfl ?_
  refine r_iload_n C dX7_saves_28 2 rfl ?_
  refine r_iconst (v := 0) C dX7_saves_29 rfl ?_
  refine r_iastN (j := j) C dX7_saves_30 rfl (hnj) (by omega) (by decide) ?_
  refine r_aload_n C dX7_saves_31 1 rfl ?_
  refine r_getr (q2 := 86) C dX7_saves_32 5 f_X7_44 rfl rfl ?_
  refine r_aload_n C dX7_saves_35 1 rfl ?_
  refine r_getr (q2 := 1) C dX7_saves_36 0 f_X7_10 rfl rfl ?_
  refine r_aload_n C dX7_saves_39 1 rfl ?_
  refine r_getr (q2 := 1) C dX7_saves_40 0 f_X7_10 rfl rfl ?_
  refine r_geti C dX7_saves_43 2 f_X7_106 rfl rfl ?_
  refine r_valI (y := vS V 0) (hS2.2.2.1) ?_
  refine r_callVV (As := [.ref (mA G 1), .int (vS V 0)]) (rest := []) C dX7_saves_46 s_X7_210 (c_X2_settle l G hG (mset M 8 j 0) g (vSet V 5 j 0) hw2.1 hS2.1 hS2.2.1 86 isHour_86 (by decide) (vS V 0) hS2.2.2.2.1 (wfZ_of hw2)) (by decide) rfl rfl rfl rfl (Nat.le_of_ble_eq_true rfl) (Nat.le_of_ble_eq_true rfl) (Nat.le_of_ble_eq_true rfl) (fun M2 g2 hp46 => ?_)
  obtain ⟨⟨hh46, oh46⟩, eg46⟩ := hp46
  rw [eg46]
  have hl8 : M 8 j = vD V 5 j := hC.net.at 5 (by decide) hj
  have hof := offR.leak oh46 (by omega)
  rw [hl8] at hof
  refine r_aload_n C dX7_saves_49 1 rfl ?_
  refine r_getr (q2 := 1) C dX7_saves_50 0 f_X7_10 rfl rfl ?_
  refine r_getr (q2 := 2) C dX7_saves_53 0 f_X7_72 rfl rfl ?_
  refine r_getr (q2 := 8) C dX7_saves_56 5 f_X7_103 rfl rfl ?_
  refine r_iload_n C dX7_saves_59 2 rfl ?_
  refine r_iload_n C dX7_saves_60 0 rfl ?_
  refine r_iastN (j := j) C dX7_saves_61 rfl (hnj) (by omega) (by decide) ?_
  refine r_aload_n C dX7_saves_62 1 rfl ?_
  refine r_getr (q2 := 75) C dX7_saves_63 3 f_X7_33 rfl rfl ?_
  refine r_geti C dX7_saves_66 6 f_X7_172 rfl rfl ?_
  refine r_valI (y := costF V (needF V (vSup V))) (by rw [hof 75 (by omega)]; exact hC.2.1.2.2.2.2) ?_
  refine r_aload_n C dX7_saves_69 1 rfl ?_
  refine r_getr (q2 := 86) C dX7_saves_70 5 f_X7_44 rfl rfl ?_
  refine r_geti C dX7_saves_73 6 f_X7_172 rfl rfl ?_
  refine r_valI (y := costF (vSet V 5 j 0) (needF (vSet V 5 j 0) (vSup V))) (by rw [mset_ne (by decide)]; exact hh46.2.2.2.2) ?_
  refine r_isub C dX7_saves_76 ?_
  exact hend _ _ _ _ _ _ _ (Nat.le_of_ble_eq_true rfl) (Nat.le_of_ble_eq_true rfl) dX7_saves_77 (by rw [e9]; exact ⟨⟨if_neg (not_of hc2), rfl, hI.off hof (Or.inl ⟨by decide, by decide⟩), fun q hq => hof q (by omega)⟩, rfl⟩)

set_option maxRecDepth 20000 in
set_option maxHeartbeats 1000000 in
theorem c_X7_metersToFind (l : Launch) (G : mG) (hG : mInj G) (M : Mem) (g : Glo) (V : View) (Hs : List View) (len : Nat) (T : Nat → Int32) (hI : cINV M V Hs len T) : mcI l G yX7_metersToFind cX7_metersToFind 4 .int 5 [.ref (mA G 0)] M g (fun r M' g' => (r = nI (mfF V 16 (vD V 6)) ∧ cINV M' V Hs len T ∧ offC M M') ∧ g' = g) := by
  refine mcI_of (L0 := [(0, .ref (mA G 0))]) hG (by decide) (Nat.le_of_ble_eq_true rfl) rfl ?_
  intro p e s m args below meth c Q C hend
  obtain ⟨hC, hW, hH, hHs, hTx, hP0⟩ := id hI
  have hT := hW.1
  obtain ⟨hn1, hn16, hb4, ⟨hd0, hd3, hd5, hd6⟩, hpar⟩ := id hT
  refine r_aload_n C dX7_metersToFind_0 0 rfl ?_
  refine r_getr (q2 := 91) C dX7_metersToFind_1 6 f_X7_47 rfl rfl ?_
  refine r_aload_n C dX7_metersToFind_4 0 rfl ?_
  refine r_getr (q2 := 1) C dX7_metersToFind_5 0 f_X7_10 rfl rfl ?_
  refine r_getr (q2 := 2) C dX7_metersToFind_8 0 f_X7_72 rfl rfl ?_
  refine r_callVV (As := [.ref (mA G 2)]) (rest := []) C dX7_metersToFind_11 s_X7_195 (c_X5_takeMeters l G hG M g 91 isRegs_91 (by decide)) (by decide) rfl rfl rfl rfl (Nat.le_of_ble_eq_true rfl) (Nat.le_of_ble_eq_true rfl) (Nat.le_of_ble_eq_true rfl) (fun M11 g11 hp11 => ?_)
  obtain ⟨⟨f, rfl, hf⟩, eg11⟩ := hp11
  rw [eg11]
  have o11 : offR M (mrow M (91 + 1) f) 91 96 := offR.row f (by decide) (by decide)
  refine r_aload_n C dX7_metersToFind_14 0 rfl ?_
  refine r_getr (q2 := 91) C dX7_metersToFind_15 6 f_X7_47 rfl rfl ?_
  refine r_aload_n C dX7_metersToFind_18 0 rfl ?_
  refine r_getr (q2 := 1) C dX7_metersToFind_19 0 f_X7_10 rfl rfl ?_
  refine r_getr (q2 := 2) C dX7_metersToFind_22 0 f_X7_72 rfl rfl ?_
  refine r_callVV (As := [.ref (mA G 2)]) (rest := []) C dX7_metersToFind_25 s_X7_199 (c_X5_settle l G hG (mrow M (91 + 1) f) g V hT (hC.net.off o11 (by omega)) 91 isRegs_91 (by decide)) (by decide) rfl rfl rfl rfl (Nat.le_of_ble_eq_true rfl) (Nat.le_of_ble_eq_true rfl) (Nat.le_of_ble_eq_true rfl) (fun M25 g25 hp25 => ?_)
  obtain ⟨⟨hr25, or25⟩, eg25⟩ := hp25
  rw [eg25]
  have hrg0 : rgOK M25 91 V (vD V 6) := hr25.mt hT (fun j hj => by rw [mrow_at, hf j (by omega)]; exact hC.net.at 6 (by decide) hj)
  refine r_iconst (v := nI 0) C dX7_metersToFind_28 rfl ?_
  refine r_istore_n (L' := [(1, .int (nI 0)), (0, .ref (mA G 0))]) C dX7_metersToFind_29 (by decide) rfl ?_
  refine r_iconst (v := nI 0) C dX7_metersToFind_30 rfl ?_
  refine r_istore_n (L' := [(2, .int (nI 0)), (1, .int (nI 0)), (0, .ref (mA G 0))]) C dX7_metersToFind_31 (by decide) rfl ?_
  have lp32 : ∀ (fu : Nat) (k : Nat) (a : Nat) (mt : Nat → Int32) (M1 : Mem), (k ≤ 16) → (a ≤ k) → (rgOK M1 91 V mt) → (offR M M1 91 96) → (a + mfF V (16 - k) mt = mfF V 16 (vD V 6)) → (16 - k) < fu → At p l e (rmD 5 0 0) s m args below meth c G 4 0 0 Q M1 g [(2, .int (nI k)), (1, .int (nI a)), (0, .ref (mA G 0))] 32 [] := by
    intro fu
    induction fu with
    | zero => intro k a mt M1 hk ha hrg ho hmf hfu; exact absurd hfu (Nat.not_lt_zero _)
    | succ fu ih32 =>
      intro k a mt M1 hk ha hrg ho hmf hfu32
      refine r_iload_n C dX7_metersToFind_32 0 rfl ?_
      refine r_bipush (v := 16) C dX7_metersToFind_33 rfl ?_
      refine r_icmp_ge (tgt := 85) C dX7_metersToFind_35 (by decide) (fun c35 => ?_) (fun c35 => ?_)
      ·
        have hk16 : k = 16 := by have := le_of_le (a := 16) (by decide) (by omega) c35; omega
        refine r_iload_n C dX7_metersToFind_85 1 rfl ?_
        exact hend _ _ _ _ _ dX7_metersToFind_86 (rfl) (⟨⟨by rw [← hmf, hk16, Nat.sub_self, show mfF V 0 mt = 0 from rfl, Nat.add_zero], hI.off ho (Or.inl ⟨by decide, by decide⟩), fun q hq => ho q (by omega)⟩, rfl⟩)
      ·
        have hlt : k < 16 := lt_of_nle (b := 16) (by omega) c35
        refine r_aload_n C dX7_metersToFind_38 2 rfl ?_
        refine r_getr (q2 := 91) C dX7_metersToFind_39 6 f_X7_47 rfl rfl ?_
        refine r_callVI (As := []) (rest := []) C dX7_metersToFind_42 s_X7_201 (c_X5_firstNextPlace l G hG M1 g 91 isRegs_91 (by decide) (vN V) hn1 hn16 hrg.1 (hdF V mt) (rg_hd hT hrg)) (by decide) rfl rfl rfl rfl (Nat.le_of_ble_eq_true rfl) (Nat.le_of_ble_eq_true rfl) (Nat.le_of_ble_eq_true rfl) (pk_I ?_)
        refine r_valI (y := fnF V mt) (fnS_cong (vN V) 0 (vN V) (by omega) (fun j hj => rg_next hrg hj)) ?_
        refine r_istore_n (L' := [(3, .int (fnF V mt)), (2, .int (nI k)), (1, .int (nI a)), (0, .ref (mA G 0))]) C dX7_metersToFind_45 (by decide) rfl ?_
        refine r_iload_n C dX7_metersToFind_46 0 rfl ?_
        refine r_iconst (v := (-1)) C dX7_metersToFind_47 rfl ?_
        refine r_icmp_ne (tgt := 54) C dX7_metersToFind_48 (by decide) (fun c48 => ?_) (fun c48 => ?_)
        ·
          obtain ⟨i, hi0, hin, hmi, hie⟩ := (fnF_sp V mt).resolve_left c48
          refine r_aload_n C dX7_metersToFind_54 3 rfl ?_
          refine r_getr (q2 := 91) C dX7_metersToFind_55 6 f_X7_47 rfl rfl ?_
          refine r_iload_n C dX7_metersToFind_58 0 rfl ?_
          refine r_valI (y := nI i) (hie) ?_
          refine r_callVV (As := [.int (nI i)]) (rest := []) C dX7_metersToFind_59 s_X7_204 (c_X5_giveMeter l G hG M1 g 91 isRegs_91 (by decide) i (by omega)) (by decide) rfl rfl rfl rfl (Nat.le_of_ble_eq_true rfl) (Nat.le_of_ble_eq_true rfl) (Nat.le_of_ble_eq_true rfl) (pk_V ?_)
          have ho2 : offR M (mset M1 (91 + 1) i 1) 91 96 := ho.tr (offR.set 1 (by decide) (by decide) : offR M1 (mset M1 (91 + 1) i 1) 91 96) (by decide) (by decide) (by decide) (by decide)
          refine r_aload_n C dX7_metersToFind_62 3 rfl ?_
          refine r_getr (q2 := 91) C dX7_metersToFind_63 6 f_X7_47 rfl rfl ?_
          refine r_aload_n C dX7_metersToFind_66 3 rfl ?_
          refine r_getr (q2 := 1) C dX7_metersToFind_67 0 f_X7_10 rfl rfl ?_
          refine r_getr (q2 := 2) C dX7_metersToFind_70 0 f_X7_72 rfl rfl ?_
          refine r_callVV (As := [.ref (mA G 2)]) (rest := []) C dX7_metersToFind_73 s_X7_199 (c_X5_settle l G hG (mset M1 (91 + 1) i 1) g V hT (hC.net.off ho2 (by omega)) 91 isRegs_91 (by decide)) (by decide) rfl rfl rfl rfl (Nat.le_of_ble_eq_true rfl) (Nat.le_of_ble_eq_true rfl) (Nat.le_of_ble_eq_true rfl) (fun M73 g73 hp73 => ?_)
          obtain ⟨⟨hr73, or73⟩, eg73⟩ := hp73
          rw [eg73]
          have hrg2 : rgOK M73 91 V (upd mt i 1) := hr73.mt hT (fun j hj => by rw [mset_at]; by_cases e : j = i; (subst e; rw [upd_at, upd_at]); (rw [upd_ne e, upd_ne e]; exact hrg.2.1 j hj))
          refine r_iinc (v := nI (a + 1)) (L' := [(1, .int (nI (a + 1))), (3, .int (fnF V mt)), (2, .int (nI k)), (0, .ref (mA G 0))]) C dX7_metersToFind_76 2 rfl (nI_inc _) (by decide) rfl ?_
          refine r_iinc (v := nI (k + 1)) (L' := [(2, .int (nI (k + 1))), (1, .int (nI (a + 1))), (3, .int (fnF V mt)), (0, .ref (mA G 0))]) C dX7_metersToFind_79 2 rfl (nI_inc _) (by decide) rfl ?_
          refine r_goto (tgt := 32) C dX7_metersToFind_82 (by decide) ?_
          refine r_sub (L' := [(2, .int (nI (k + 1))), (1, .int (nI (a + 1))), (0, .ref (mA G 0))]) [0, 1, 3] rfl ?_
          exact ih32 (k + 1) (a + 1) (upd mt i 1) M73 (by omega) (by omega) hrg2 (ho2.tr or73 (by decide) (by decide) (by decide) (by decide)) (by rw [← hmf, show 16 - k = (16 - (k + 1)) + 1 by omega, mf_go hie (by omega)]; omega) (by omega)
        ·
          refine r_goto (tgt := 85) C dX7_metersToFind_51 (by decide) ?_
          refine r_iload_n C dX7_metersToFind_85 2 rfl ?_
          exact hend _ _ _ _ _ dX7_metersToFind_86 (rfl) (⟨⟨by rw [← hmf, mf_no c48, Nat.add_zero], hI.off ho (Or.inl ⟨by decide, by decide⟩), fun q hq => ho q (by omega)⟩, rfl⟩)
  refine r_sub (L' := [(2, .int (nI 0)), (1, .int (nI 0)), (0, .ref (mA G 0))]) [0, 1, 2] rfl ?_
  exact lp32 _ 0 0 (vD V 6) M25 (by omega) (by omega) hrg0 (o11.tr or25 (by decide) (by decide) (by decide) (by decide)) (by simp) (Nat.lt_succ_self _)
