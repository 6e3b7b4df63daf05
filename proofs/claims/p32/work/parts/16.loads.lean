set_option maxRecDepth 20000 in
set_option maxHeartbeats 1000000 in
theorem c_X2_settleLoads (l : Launch) (G : mG) (hG : mInj G) (M : Mem) (g : Glo) (V : View) (hT : wfT V) (hV : cBoi M 11 V) (H : Nat) (hH : isHour H) (hH9 : 70 < H) (nd : Int32) (hnd : M H 4 = nd) : mcV l G yX2_settleLoads cX2_settleLoads 5 3 [.ref (mA G H), .ref (mA G 11)] M g (fun M' g' => (∃ f, M' = mset (mset (mrow M (H + 4) f) H 6 (costF V nd)) H 5 (unmetF V nd) ∧ ∀ b, b < vB V → f b = loadF V nd b) ∧ g' = g) := by
  refine mcV_of (L0 := [(0, .ref (mA G H)), (1, .ref (mA G 11))]) hG (by decide) (Nat.le_of_ble_eq_true rfl) rfl ?_
  intro p e s m args below meth c Q C hend
  have hT0 := hT
  obtain ⟨hn1, hn16, hb4, ⟨hd0, hd3, hd5, hd6⟩, hpar⟩ := hT0
  have hVg : ∀ (f : Nat → Int32) (c : Int32), cBoi (mset (mrow M (H + 4) f) H 6 c) 11 V := fun f c => hV.off (a := H) (b := H + 4) (fun q hq => by rw [mset_ne (by omega), mrow_ne (by omega)]) (by omega)
  refine r_aload_n C dX2_settleLoads_0 0 rfl ?_
  refine r_geti C dX2_settleLoads_1 4 f_X2_24 (hH.1) rfl ?_
  refine r_valI (y := nd) (hnd) ?_
  refine r_istore_n (L' := [(2, .int nd), (0, .ref (mA G H)), (1, .ref (mA G 11))]) C dX2_settleLoads_4 (by decide) rfl ?_
  refine r_aload_n C dX2_settleLoads_5 1 rfl ?_
  refine r_iconst (v := 0) C dX2_settleLoads_6 rfl ?_
  refine r_puti C dX2_settleLoads_7 6 fi_X2_31 (hH.1) rfl ?_
  refine r_mem (M' := mset (mrow M (H + 4) (M (H + 4))) H 6 (csF V nd 0)) (by rw [mrow_self]; rfl) ?_
  refine r_iconst (v := nI 0) C dX2_settleLoads_10 rfl ?_
  refine r_istore_n (L' := [(3, .int (nI 0)), (2, .int nd), (0, .ref (mA G H)), (1, .ref (mA G 11))]) C dX2_settleLoads_11 (by decide) rfl ?_
  have lp12 : ∀ (fu : Nat) (k : Nat) (f : Nat → Int32) (lf : Int32), (k ≤ vB V) → (∀ p, p < k → f (boilAt V p) = ldV V (lfF V nd p) (boilAt V p)) → (lf = lfF V nd k) → (vB V - k) < fu → At p l e (rmD 3 0 0) s m args below meth c G 5 0 0 Q (mset (mrow M (H + 4) f) H 6 (csF V nd k)) g [(3, .int (nI k)), (2, .int lf), (0, .ref (mA G H)), (1, .ref (mA G 11))] 12 [] := by
    intro fu
    induction fu with
    | zero => intro k f lf hkn hf hl hfu; exact absurd hfu (Nat.not_lt_zero _)
    | succ fu ih12 =>
      intro k f lf hkn hf hl hfu12
      refine r_iload_n C dX2_settleLoads_12 0 rfl ?_
      refine r_aload_n C dX2_settleLoads_13 3 rfl ?_
      refine r_geti C dX2_settleLoads_14 3 f_X2_100 rfl rfl ?_
      refine r_valI (y := nI (vB V)) ((hVg _ _).1) ?_
      refine r_icmp_ge (tgt := 144) C dX2_settleLoads_17 (by decide) (fun c17 => ?_) (fun c17 => ?_)
      ·
        have hkn2 : k = vB V := by have := le_of_le (by omega) (by omega) c17; omega
        refine r_aload_n C dX2_settleLoads_144 2 rfl ?_
        refine r_iload_n C dX2_settleLoads_145 1 rfl ?_
        refine r_puti C dX2_settleLoads_146 5 fi_X2_28 (hH.1) rfl ?_
        exact hend _ _ _ _ dX2_settleLoads_149 (⟨⟨f, by rw [hl, hkn2]; rfl, fun b hb => by have h9 := hf (placeN V b) (by have := placeN_lt V hb; omega); rw [boilAt_place V hb] at h9; exact h9⟩, rfl⟩)
      ·
        have hlt : k < vB V := lt_of_nle (by omega) c17
        have hb := (boilAt_spec V hlt).1
        refine r_aload_n C dX2_settleLoads_20 3 rfl ?_
        refine r_iload_n C dX2_settleLoads_21 0 rfl ?_
        refine r_callVI (As := [.int (nI k)]) (rest := []) C dX2_settleLoads_22 s_X2_103 (c_X0_atPlace l G hG (mset (mrow M (H + 4) f) H 6 (csF V nd k)) g V hT (hVg f (csF V nd k)) k hlt) (by decide) rfl rfl rfl rfl (Nat.le_of_ble_eq_true rfl) (Nat.le_of_ble_eq_true rfl) (Nat.le_of_ble_eq_true rfl) (pk_I ?_)
        refine r_istore (L' := [(4, .int (nI (boilAt V k))), (3, .int (nI k)), (2, .int lf), (0, .ref (mA G H)), (1, .ref (mA G 11))]) C dX2_settleLoads_25 (by decide) rfl ?_
        refine r_iload C dX2_settleLoads_27 0 rfl ?_
        refine r_iconst (v := (-1)) C dX2_settleLoads_29 rfl ?_
        refine r_icmp_ne (tgt := 36) C dX2_settleLoads_30 (by decide) (fun _ => ?_) (fun h => absurd h (nI_nm1 (by omega)))
        refine r_aload_n C dX2_settleLoads_36 3 rfl ?_
        refine r_getr (q2 := (H + 4)) C dX2_settleLoads_37 3 f_X2_21 (hH.1) rfl ?_
        refine r_iload C dX2_settleLoads_40 0 rfl ?_
        refine r_aload_n C dX2_settleLoads_42 4 rfl ?_
        refine r_getr (q2 := 12) C dX2_settleLoads_43 0 f_X2_107 rfl rfl ?_
        refine r_iload C dX2_settleLoads_46 0 rfl ?_
        refine r_ialdN (j := boilAt V k) (v := vO V 0 (boilAt V k)) C dX2_settleLoads_48 rfl (rfl) (by omega) (by decide) ((hVg _ _).at 0 (by decide) hb) ?_
        refine r_iload_n C dX2_settleLoads_49 2 rfl ?_
        refine r_min (v := minI (vO V 0 (boilAt V k)) lf) C dX2_settleLoads_50 s_X2_110 (Nat.le_of_ble_eq_true rfl) (Nat.le_of_ble_eq_true rfl) (Nat.le_of_ble_eq_true rfl) (rfl) ?_
        refine r_iastN (j := boilAt V k) C dX2_settleLoads_53 ((hH).2.2.2.2) (rfl) (by omega) (by decide) ?_
        refine r_mem (M' := mset (mrow M (H + 4) (upd f (boilAt V k) (minI (vO V 0 (boilAt V k)) lf))) H 6 (csF V nd k)) (mset_row_c (by omega)) ?_
        refine r_aload_n C dX2_settleLoads_54 3 rfl ?_
        refine r_getr (q2 := (H + 4)) C dX2_settleLoads_55 3 f_X2_21 (hH.1) rfl ?_
        refine r_iload C dX2_settleLoads_58 0 rfl ?_
        refine r_ialdN (j := boilAt V k) (v := minI (vO V 0 (boilAt V k)) lf) C dX2_settleLoads_60 ((hH).2.2.2.2) (rfl) (by omega) (by decide) (by rw [mset_ne (by omega), mrow_at, upd_at]) ?_
        refine r_if_le (tgt := 100) C dX2_settleLoads_61 (by decide) (fun c61 => ?_) (fun c61 => ?_)
        ·
          refine r_iload_n C dX2_settleLoads_100 2 rfl ?_
          refine r_aload_n C dX2_settleLoads_101 3 rfl ?_
          refine r_getr (q2 := (H + 4)) C dX2_settleLoads_102 3 f_X2_21 (hH.1) rfl ?_
          refine r_iload C dX2_settleLoads_105 0 rfl ?_
          refine r_ialdN (j := boilAt V k) (v := minI (vO V 0 (boilAt V k)) lf) C dX2_settleLoads_107 ((hH).2.2.2.2) (rfl) (by omega) (by decide) (by rw [mset_ne (by omega), mrow_at, upd_at]) ?_
          refine r_isub C dX2_settleLoads_108 ?_
          refine r_istore_n (L' := [(2, .int (lf - (minI (vO V 0 (boilAt V k)) lf))), (4, .int (nI (boilAt V k))), (3, .int (nI k)), (0, .ref (mA G H)), (1, .ref (mA G 11))]) C dX2_settleLoads_109 (by decide) rfl ?_
          have hld : ldV V lf (boilAt V k) = minI (vO V 0 (boilAt V k)) lf := if_neg (fun h => i32_nlt.mpr c61 h.1)
          have hnx : nxL V lf (boilAt V k) = lf - minI (vO V 0 (boilAt V k)) lf := if_neg (fun h => i32_nlt.mpr c61 h.1)
          refine r_aload_n C dX2_settleLoads_110 3 rfl ?_
          refine r_dup C dX2_settleLoads_111 rfl ?_
          refine r_geti C dX2_settleLoads_112 6 f_X2_31 (hH.1) rfl ?_
          refine r_valI (y := csF V nd k) (by rw [mset_at, upd_at]) ?_
          refine r_aload_n C dX2_settleLoads_115 3 rfl ?_
          refine r_getr (q2 := (H + 4)) C dX2_settleLoads_116 3 f_X2_21 (hH.1) rfl ?_
          refine r_iload C dX2_settleLoads_119 1 rfl ?_
          refine r_ialdN (j := boilAt V k) (v := minI (vO V 0 (boilAt V k)) lf) C dX2_settleLoads_121 ((hH).2.2.2.2) (rfl) (by omega) (by decide) (by rw [mset_ne (by omega), mrow_at, upd_at]) ?_
          refine r_aload_n C dX2_settleLoads_122 4 rfl ?_
          refine r_getr (q2 := 14) C dX2_settleLoads_123 2 f_X2_116 rfl rfl ?_
          refine r_iload C dX2_settleLoads_126 1 rfl ?_
          refine r_ialdN (j := boilAt V k) (v := vO V 2 (boilAt V k)) C dX2_settleLoads_128 rfl (rfl) (by omega) (by decide) ((hVg _ _).at 2 (by decide) hb) ?_
          refine r_imul C dX2_settleLoads_129 ?_
          refine r_sipush (v := 1000) C dX2_settleLoads_130 rfl ?_
          refine r_idiv C dX2_settleLoads_133 (by decide) ?_
          refine r_iadd C dX2_settleLoads_134 ?_
          refine r_puti C dX2_settleLoads_135 6 fi_X2_31 (hH.1) rfl ?_
          refine r_mem (M' := mset (mrow M (H + 4) (upd f (boilAt V k) (minI (vO V 0 (boilAt V k)) lf))) H 6 (csF V nd (k + 1))) (by rw [mset_again, csF, ← hl, hld]) ?_
          refine r_iinc (v := nI (k + 1)) (L' := [(3, .int (nI (k + 1))), (2, .int (lf - (minI (vO V 0 (boilAt V k)) lf))), (4, .int (nI (boilAt V k))), (0, .ref (mA G H)), (1, .ref (mA G 11))]) C dX2_settleLoads_138 2 rfl (nI_inc _) (by decide) rfl ?_
          refine r_goto (tgt := 12) C dX2_settleLoads_141 (by decide) ?_
          refine r_sub (L' := [(3, .int (nI (k + 1))), (2, .int (lf - (minI (vO V 0 (boilAt V k)) lf))), (0, .ref (mA G H)), (1, .ref (mA G 11))]) [0, 1, 3, 4] rfl ?_
          exact ih12 (k + 1) (upd f (boilAt V k) (minI (vO V 0 (boilAt V k)) lf)) _ (by omega) (fun p hp => by rcases Nat.lt_or_ge p k with q | q; (rw [upd_ne (fun e9 => by have h8 := (boilAt_spec V (k := p) (by omega)).2.1; have h9 := (boilAt_spec V hlt).2.1; rw [e9] at h8; omega)]; exact hf p q); (have e9 : p = k := by omega); subst e9; rw [upd_at, ← hl, hld]) (by rw [lfF, ← hl, hnx]) (by omega)
        ·
          refine r_aload_n C dX2_settleLoads_64 3 rfl ?_
          refine r_getr (q2 := (H + 4)) C dX2_settleLoads_65 3 f_X2_21 (hH.1) rfl ?_
          refine r_iload C dX2_settleLoads_68 0 rfl ?_
          refine r_ialdN (j := boilAt V k) (v := minI (vO V 0 (boilAt V k)) lf) C dX2_settleLoads_70 ((hH).2.2.2.2) (rfl) (by omega) (by decide) (by rw [mset_ne (by omega), mrow_at, upd_at]) ?_
          refine r_aload_n C dX2_settleLoads_71 4 rfl ?_
          refine r_getr (q2 := 13) C dX2_settleLoads_72 1 f_X2_113 rfl rfl ?_
          refine r_iload C dX2_settleLoads_75 0 rfl ?_
          refine r_ialdN (j := boilAt V k) (v := vO V 1 (boilAt V k)) C dX2_settleLoads_77 rfl (rfl) (by omega) (by decide) ((hVg _ _).at 1 (by decide) hb) ?_
          refine r_icmp_ge (tgt := 100) C dX2_settleLoads_78 (by decide) (fun c78 => ?_) (fun c78 => ?_)
          ·
            refine r_iload_n C dX2_settleLoads_100 2 rfl ?_
            refine r_aload_n C dX2_settleLoads_101 3 rfl ?_
            refine r_getr (q2 := (H + 4)) C dX2_settleLoads_102 3 f_X2_21 (hH.1) rfl ?_
            refine r_iload C dX2_settleLoads_105 0 rfl ?_
            refine r_ialdN (j := boilAt V k) (v := minI (vO V 0 (boilAt V k)) lf) C dX2_settleLoads_107 ((hH).2.2.2.2) (rfl) (by omega) (by decide) (by rw [mset_ne (by omega), mrow_at, upd_at]) ?_
            refine r_isub C dX2_settleLoads_108 ?_
            refine r_istore_n (L' := [(2, .int (lf - (minI (vO V 0 (boilAt V k)) lf))), (4, .int (nI (boilAt V k))), (3, .int (nI k)), (0, .ref (mA G H)), (1, .ref (mA G 11))]) C dX2_settleLoads_109 (by decide) rfl ?_
            have hld : ldV V lf (boilAt V k) = minI (vO V 0 (boilAt V k)) lf := if_neg (fun h => i32_nlt.mpr c78 h.2)
            have hnx : nxL V lf (boilAt V k) = lf - minI (vO V 0 (boilAt V k)) lf := if_neg (fun h => i32_nlt.mpr c78 h.2)
            refine r_aload_n C dX2_settleLoads_110 3 rfl ?_
            refine r_dup C dX2_settleLoads_111 rfl ?_
            refine r_geti C dX2_settleLoads_112 6 f_X2_31 (hH.1) rfl ?_
            refine r_valI (y := csF V nd k) (by rw [mset_at, upd_at]) ?_
            refine r_aload_n C dX2_settleLoads_115 3 rfl ?_
            refine r_getr (q2 := (H + 4)) C dX2_settleLoads_116 3 f_X2_21 (hH.1) rfl ?_
            refine r_iload C dX2_settleLoads_119 1 rfl ?_
            refine r_ialdN (j := boilAt V k) (v := minI (vO V 0 (boilAt V k)) lf) C dX2_settleLoads_121 ((hH).2.2.2.2) (rfl) (by omega) (by decide) (by rw [mset_ne (by omega), mrow_at, upd_at]) ?_
            refine r_aload_n C dX2_settleLoads_122 4 rfl ?_
            refine r_getr (q2 := 14) C dX2_settleLoads_123 2 f_X2_116 rfl rfl ?_
            refine r_iload C dX2_settleLoads_126 1 rfl ?_
            refine r_ialdN (j := boilAt V k) (v := vO V 2 (boilAt V k)) C dX2_settleLoads_128 rfl (rfl) (by omega) (by decide) ((hVg _ _).at 2 (by decide) hb) ?_
            refine r_imul C dX2_settleLoads_129 ?_
            refine r_sipush (v := 1000) C dX2_settleLoads_130 rfl ?_
            refine r_idiv C dX2_settleLoads_133 (by decide) ?_
            refine r_iadd C dX2_settleLoads_134 ?_
            refine r_puti C dX2_settleLoads_135 6 fi_X2_31 (hH.1) rfl ?_
            refine r_mem (M' := mset (mrow M (H + 4) (upd f (boilAt V k) (minI (vO V 0 (boilAt V k)) lf))) H 6 (csF V nd (k + 1))) (by rw [mset_again, csF, ← hl, hld]) ?_
            refine r_iinc (v := nI (k + 1)) (L' := [(3, .int (nI (k + 1))), (2, .int (lf - (minI (vO V 0 (boilAt V k)) lf))), (4, .int (nI (boilAt V k))), (0, .ref (mA G H)), (1, .ref (mA G 11))]) C dX2_settleLoads_138 2 rfl (nI_inc _) (by decide) rfl ?_
            refine r_goto (tgt := 12) C dX2_settleLoads_141 (by decide) ?_
            refine r_sub (L' := [(3, .int (nI (k + 1))), (2, .int (lf - (minI (vO V 0 (boilAt V k)) lf))), (0, .ref (mA G H)), (1, .ref (mA G 11))]) [0, 1, 3, 4] rfl ?_
            exact ih12 (k + 1) (upd f (boilAt V k) (minI (vO V 0 (boilAt V k)) lf)) _ (by omega) (fun p hp => by rcases Nat.lt_or_ge p k with q | q; (rw [upd_ne (fun e9 => by have h8 := (boilAt_spec V (k := p) (by omega)).2.1; have h9 := (boilAt_spec V hlt).2.1; rw [e9] at h8; omega)]; exact hf p q); (have e9 : p = k := by omega); subst e9; rw [upd_at, ← hl, hld]) (by rw [lfF, ← hl, hnx]) (by omega)
          ·
            refine r_aload_n C dX2_settleLoads_81 3 rfl ?_
            refine r_getr (q2 := (H + 4)) C dX2_settleLoads_82 3 f_X2_21 (hH.1) rfl ?_
            refine r_iload C dX2_settleLoads_85 0 rfl ?_
            refine r_aload_n C dX2_settleLoads_87 4 rfl ?_
            refine r_getr (q2 := 13) C dX2_settleLoads_88 1 f_X2_113 rfl rfl ?_
            refine r_iload C dX2_settleLoads_91 0 rfl ?_
            refine r_ialdN (j := boilAt V k) (v := vO V 1 (boilAt V k)) C dX2_settleLoads_93 rfl (rfl) (by omega) (by decide) ((hVg _ _).at 1 (by decide) hb) ?_
            refine r_iastN (j := boilAt V k) C dX2_settleLoads_94 ((hH).2.2.2.2) (rfl) (by omega) (by decide) ?_
            refine r_mem (M' := mset (mrow M (H + 4) (upd f (boilAt V k) (vO V 1 (boilAt V k)))) H 6 (csF V nd k)) (by rw [mset_row_c (by omega), upd_upd]) ?_
            refine r_iconst (v := 0) C dX2_settleLoads_95 rfl ?_
            refine r_istore_n (L' := [(2, .int 0), (4, .int (nI (boilAt V k))), (3, .int (nI k)), (0, .ref (mA G H)), (1, .ref (mA G 11))]) C dX2_settleLoads_96 (by decide) rfl ?_
            refine r_goto (tgt := 110) C dX2_settleLoads_97 (by decide) ?_
            have hld : ldV V lf (boilAt V k) = vO V 1 (boilAt V k) := if_pos ⟨i32_nle.mp c61, i32_nle.mp c78⟩
            have hnx : nxL V lf (boilAt V k) = 0 := if_pos ⟨i32_nle.mp c61, i32_nle.mp c78⟩
            refine r_aload_n C dX2_settleLoads_110 3 rfl ?_
            refine r_dup C dX2_settleLoads_111 rfl ?_
            refine r_geti C dX2_settleLoads_112 6 f_X2_31 (hH.1) rfl ?_
            refine r_valI (y := csF V nd k) (by rw [mset_at, upd_at]) ?_
            refine r_aload_n C dX2_settleLoads_115 3 rfl ?_
            refine r_getr (q2 := (H + 4)) C dX2_settleLoads_116 3 f_X2_21 (hH.1) rfl ?_
            refine r_iload C dX2_settleLoads_119 1 rfl ?_
            refine r_ialdN (j := boilAt V k) (v := vO V 1 (boilAt V k)) C dX2_settleLoads_121 ((hH).2.2.2.2) (rfl) (by omega) (by decide) (by rw [mset_ne (by omega), mrow_at, upd_at]) ?_
            refine r_aload_n C dX2_settleLoads_122 4 rfl ?_
            refine r_getr (q2 := 14) C dX2_settleLoads_123 2 f_X2_116 rfl rfl ?_
            refine r_iload C dX2_settleLoads_126 1 rfl ?_
            refine r_ialdN (j := boilAt V k) (v := vO V 2 (boilAt V k)) C dX2_settleLoads_128 rfl (rfl) (by omega) (by decide) ((hVg _ _).at 2 (by decide) hb) ?_
            refine r_imul C dX2_settleLoads_129 ?_
            refine r_sipush (v := 1000) C dX2_settleLoads_130 rfl ?_
            refine r_idiv C dX2_settleLoads_133 (by decide) ?_
            refine r_iadd C dX2_settleLoads_134 ?_
            refine r_puti C dX2_settleLoads_135 6 fi_X2_31 (hH.1) rfl ?_
            refine r_mem (M' := mset (mrow M (H + 4) (upd f (boilAt V k) (vO V 1 (boilAt V k)))) H 6 (csF V nd (k + 1))) (by rw [mset_again, csF, ← hl, hld]) ?_
            refine r_iinc (v := nI (k + 1)) (L' := [(3, .int (nI (k + 1))), (2, .int 0), (4, .int (nI (boilAt V k))), (0, .ref (mA G H)), (1, .ref (mA G 11))]) C dX2_settleLoads_138 2 rfl (nI_inc _) (by decide) rfl ?_
            refine r_goto (tgt := 12) C dX2_settleLoads_141 (by decide) ?_
            refine r_sub (L' := [(3, .int (nI (k + 1))), (2, .int 0), (0, .ref (mA G H)), (1, .ref (mA G 11))]) [0, 1, 3, 4] rfl ?_
            exact ih12 (k + 1) (upd f (boilAt V k) (vO V 1 (boilAt V k))) _ (by omega) (fun p hp => by rcases Nat.lt_or_ge p k with q | q; (rw [upd_ne (fun e9 => by have h8 := (boilAt_spec V (k := p) (by omega)).2.1; have h9 := (boilAt_spec V hlt).2.1; rw [e9] at h8; omega)]; exact hf p q); (have e9 : p = k := by omega); subst e9; rw [upd_at, ← hl, hld]) (by rw [lfF, ← hl, hnx]) (by omega)
  refine r_sub (L' := [(3, .int (nI 0)), (2, .int nd), (0, .ref (mA G H)), (1, .ref (mA G 11))]) [0, 1, 2, 3] rfl ?_
  exact lp12 _ 0 (M (H + 4)) nd (by omega) (fun p hp => absurd hp (Nat.not_lt_zero p)) rfl (Nat.lt_succ_self _)

set_option maxRecDepth 20000 in
set_option maxHeartbeats 1000000 in
theorem c_X2_settle (l : Launch) (G : mG) (hG : mInj G) (M : Mem) (g : Glo) (V : View) (hT : wfT V) (hV : cNet M 2 V) (hB : cBoi M 11 V) (H : Nat) (hH : isHour H) (hH9 : 70 < H) (sup : Int32) (hgd : M 1 3 = vS V 1) (hdv : ∀ j, 0 < j → j < vN V → ¬ flowF V j ≤ 0 → ¬ 1000 * flowF V j = 0) : mcV l G yX2_settle cX2_settle 3 4 [.ref (mA G H), .ref (mA G 1), .int sup] M g (fun M' g' => (hourOK M' H V sup ∧ offR M M' H (H + 4)) ∧ g' = g) := by
  refine mcV_of (L0 := [(0, .ref (mA G H)), (1, .ref (mA G 1)), (2, .int sup)]) hG (by decide) (Nat.le_of_ble_eq_true rfl) rfl ?_
  intro p e s m args below meth c Q C hend
  have hT0 := hT
  obtain ⟨hn1, hn16, hb4, ⟨hd0, hd3, hd5, hd6⟩, hpar⟩ := hT0
  refine r_aload_n C dX2_settle_0 0 rfl ?_
  refine r_aload_n C dX2_settle_1 1 rfl ?_
  refine r_getr (q2 := 2) C dX2_settle_2 0 f_X2_34 rfl rfl ?_
  refine r_callVV (As := [.ref (mA G 2)]) (rest := []) C dX2_settle_5 s_X2_40 (c_X2_settleFlows l G hG M g V hT hV H hH hH9) (by decide) (hH.1) rfl rfl rfl (Nat.le_of_ble_eq_true rfl) (Nat.le_of_ble_eq_true rfl) (Nat.le_of_ble_eq_true rfl) (fun M5 g5 hp5 => ?_)
  obtain ⟨⟨f1, rfl, hf1⟩, eg5⟩ := hp5
  rw [eg5]
  refine r_aload_n C dX2_settle_8 0 rfl ?_
  refine r_aload_n C dX2_settle_9 1 rfl ?_
  refine r_iload_n C dX2_settle_10 2 rfl ?_
  refine r_callVV (As := [.ref (mA G 1), .int sup]) (rest := []) C dX2_settle_11 s_X2_44 (c_X2_settleWarmth l G hG (mrow M (H + 1) f1) g V hT (hV.off (a := H) (b := H + 4) (fun q hq => by rw [mrow_ne (by omega)]) (by omega)) H hH hH9 sup ((congrFun (mrow_ne (by omega) f1) 3).trans hgd) (fun j hj => by rw [mrow_at]; exact hf1 j hj) hdv) (by decide) (hH.1) rfl rfl rfl (Nat.le_of_ble_eq_true rfl) (Nat.le_of_ble_eq_true rfl) (Nat.le_of_ble_eq_true rfl) (fun M11 g11 hp11 => ?_)
  obtain ⟨⟨f2, rfl, hf2⟩, eg11⟩ := hp11
  rw [eg11]
  refine r_aload_n C dX2_settle_14 0 rfl ?_
  refine r_aload_n C dX2_settle_15 1 rfl ?_
  refine r_getr (q2 := 2) C dX2_settle_16 0 f_X2_34 rfl rfl ?_
  refine r_callVV (As := [.ref (mA G 2)]) (rest := []) C dX2_settle_19 s_X2_48 (c_X2_settleReturns l G hG (mrow (mrow M (H + 1) f1) (H + 2) f2) g V hT (hV.off (a := H) (b := H + 4) (fun q hq => by rw [mrow_ne (by omega), mrow_ne (by omega)]) (by omega)) H hH hH9 sup (fun j hj => by rw [mrow_at]; exact hf2 j hj)) (by decide) (hH.1) rfl rfl rfl (Nat.le_of_ble_eq_true rfl) (Nat.le_of_ble_eq_true rfl) (Nat.le_of_ble_eq_true rfl) (fun M19 g19 hp19 => ?_)
  obtain ⟨⟨f3, rfl, hf3⟩, eg19⟩ := hp19
  rw [eg19]
  refine r_aload_n C dX2_settle_22 0 rfl ?_
  refine r_iconst (v := 0) C dX2_settle_23 rfl ?_
  refine r_aload_n C dX2_settle_24 0 rfl ?_
  refine r_getr (q2 := (H + 1)) C dX2_settle_25 0 f_X2_9 (hH.1) rfl ?_
  refine r_iconst (v := 0) C dX2_settle_28 rfl ?_
  refine r_ialdN (j := 0) (v := flowF V 0) C dX2_settle_29 ((hH).2.1) (rfl) (by omega) (by decide) (by rw [mrow_ne (by omega), mrow_ne (by omega), mrow_at]; exact hf1 0 (by omega)) ?_
  refine r_iload_n C dX2_settle_30 2 rfl ?_
  refine r_imul C dX2_settle_31 ?_
  refine r_aload_n C dX2_settle_32 0 rfl ?_
  refine r_getr (q2 := (H + 3)) C dX2_settle_33 2 f_X2_18 (hH.1) rfl ?_
  refine r_iconst (v := 0) C dX2_settle_36 rfl ?_
  refine r_ialdN (j := 0) (v := backF V sup 0) C dX2_settle_37 ((hH).2.2.2.1) (rfl) (by omega) (by decide) (by rw [mrow_at]; exact hf3 0 (by omega)) ?_
  refine r_isub C dX2_settle_38 ?_
  refine r_max (v := needF V sup) C dX2_settle_39 s_X2_51 (Nat.le_of_ble_eq_true rfl) (Nat.le_of_ble_eq_true rfl) (Nat.le_of_ble_eq_true rfl) (rfl) ?_
  refine r_puti C dX2_settle_42 4 fi_X2_24 (hH.1) rfl ?_
  refine r_aload_n C dX2_settle_45 0 rfl ?_
  refine r_aload_n C dX2_settle_46 1 rfl ?_
  refine r_getr (q2 := 11) C dX2_settle_47 1 f_X2_57 rfl rfl ?_
  refine r_callVV (As := [.ref (mA G 11)]) (rest := []) C dX2_settle_50 s_X2_61 (c_X2_settleLoads l G hG (mset (mrow (mrow (mrow M (H + 1) f1) (H + 2) f2) (H + 3) f3) H 4 (needF V sup)) g V hT (hB.off (a := H) (b := H + 4) (fun q hq => by rw [mset_ne (by omega), mrow_ne (by omega), mrow_ne (by omega), mrow_ne (by omega)]) (by omega)) H hH hH9 (needF V sup) (by rw [mset_at, upd_at])) (by decide) (hH.1) rfl rfl rfl (Nat.le_of_ble_eq_true rfl) (Nat.le_of_ble_eq_true rfl) (Nat.le_of_ble_eq_true rfl) (fun M50 g50 hp50 => ?_)
  obtain ⟨⟨f4, rfl, hf4⟩, eg50⟩ := hp50
  rw [eg50]
  exact hend _ _ _ _ dX2_settle_53 (⟨hour_fin hf1 hf2 hf3 hf4, rfl⟩)
