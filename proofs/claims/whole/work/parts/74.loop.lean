/-! the law goes through its script -/
def lwEnd (p : Program) (l : Launch) (e : Env) (s : State) (m : MethodId) (args : Array Value) (below : List Frame) (meth : Method) (c : Code) (G : mG) (Q : State → Prop) : Prop :=
  ∀ (M : Mem) (g : Glo) (L : List (Nat × Value)), At p l e room_1 s m args below meth c G 9 601024 7293034 Q M g L 1751 [.int 1]
theorem lw_stop {LL t : Nat} (hL : LL ≤ 3072) (ht : t ≤ 513) : nI LL - nI 6 < nI (6 * t) ↔ LL < 6 * t + 6 := by
  rw [Int32.lt_iff_toInt_lt, pk_sub_toInt (by omega) (by decide), nI_toInt (by omega)]
  omega
set_option maxRecDepth 20000 in
set_option maxHeartbeats 2000000 in
theorem lw_loop {p : Program} {l : Launch} {e : Env} {s : State} {m : MethodId} {args : Array Value} {below : List Frame} {meth : Method} {c : Code} {G : mG} {Q : State → Prop} {b LL : Nat} {xs : Nat → Int32} (X : lwCtx l p s m args c G b LL xs) (fin : lwEnd p l e s m args below meth c G Q) : ∀ (f t kk nn : Nat) (M : Mem) (g : Glo) (V : View) (Hs : List View) (len : Nat) (T : Nat → Int32), t + f = 513 → cINV M V Hs len T → rINV M V Hs len T → kk ≤ 590000 + 6 * t → nn ≤ 7000000 + 36 * t → At p l e room_1 s m args below meth c G 9 kk nn Q M g [(4, .int (nI (6 * t))), (0, .ref b), (1, .ref (mA G 0)), (2, .ref (mA G 107)), (3, .ref (mA G 117))] 23 []
  | f, t, kk, nn, M, g, V, Hs, len, T, hf, hI, hR, hk, hn => by
    obtain ⟨hfl, hG, C, hX, hbl, hbA, hLL⟩ := id X
    refine r_iload C dL_law_23 0 rfl ?_
    refine r_aload_n C dL_law_25 1 rfl ?_
    refine r_slen C hX hbl hbA dL_law_26 ?_
    refine r_bipush (v := nI 6) C dL_law_27 (by decide) ?_
    refine r_isub C dL_law_29 ?_
    refine r_icmp_gt (tgt := 1750) C dL_law_30 (by decide) (fun h => ?_) (fun h => ?_)
    · refine r_iconst (v := 1) C dL_law_1750 (by decide) ?_
      exact r_more (by omega) (by omega) (fin M g _)
    rw [lw_stop hLL (by omega)] at h
    match f, hf with
    | 0, hf => exact absurd (show LL < 6 * t + 6 by omega) h
    | f + 1, hf =>
    refine r_aload_n C dL_law_33 1 rfl ?_
    refine r_iload C dL_law_34 0 rfl ?_
    refine r_sldN (j := 6 * t) C hX hbl hbA hLL dL_law_36 rfl (by omega) ?_
    refine r_bipush (v := 31) C dL_law_37 (by decide) ?_
    refine r_iand C dL_law_39 ?_
    obtain ⟨j, hj, ej⟩ := pk_andE (xs (6 * t)) (m := 31) 5 (by decide)
    rw [ej]
    have next : lwNext p l e s m args below meth c G Q b (6 * t) kk nn := by
      intro M' g' V' Hs' len' T' kk' nn' hI' hR' hk' hn'
      refine r_iinc (v := nI (6 * (t + 1))) C dL_law_1744 0 rfl (nI_add (6 * t) 6) (by decide) rfl ?_
      refine r_goto (tgt := 23) C dL_law_1747 (by decide) ?_
      exact lw_loop X fin f (t + 1) kk' nn' M' g' V' Hs' len' T' (by omega) hI' hR' (by omega) (by omega)
    have hi : 6 * t + 6 ≤ LL := by omega
    have hk1 : kk + 6 ≤ 601024 := by omega
    have hn1 : nn + 36 ≤ 7293034 := by omega
    clear ej
    match j, hj with
    | 0, _ =>
      refine r_tableIn (off := 132) (tgt := 172) C dL_law_40 (by decide) (by decide) (by decide) (by decide) ?_
      exact lw_case_0 X M g V Hs len T hI hR (6 * t) hi kk nn hk1 hn1 next
    | 1, _ =>
      refine r_tableIn (off := 236) (tgt := 276) C dL_law_40 (by decide) (by decide) (by decide) (by decide) ?_
      exact lw_case_1 X M g V Hs len T hI hR (6 * t) hi kk nn hk1 hn1 next
    | 2, _ =>
      refine r_tableIn (off := 316) (tgt := 356) C dL_law_40 (by decide) (by decide) (by decide) (by decide) ?_
      exact lw_case_2 X M g V Hs len T hI hR (6 * t) hi kk nn hk1 hn1 next
    | 3, _ =>
      refine r_tableIn (off := 384) (tgt := 424) C dL_law_40 (by decide) (by decide) (by decide) (by decide) ?_
      exact lw_case_3 X M g V Hs len T hI hR (6 * t) hi kk nn hk1 hn1 next
    | 4, _ =>
      refine r_tableIn (off := 452) (tgt := 492) C dL_law_40 (by decide) (by decide) (by decide) (by decide) ?_
      exact lw_case_4 X M g V Hs len T hI hR (6 * t) hi kk nn hk1 hn1 next
    | 5, _ =>
      refine r_tableIn (off := 520) (tgt := 560) C dL_law_40 (by decide) (by decide) (by decide) (by decide) ?_
      exact lw_case_5 X M g V Hs len T hI hR (6 * t) hi kk nn hk1 hn1 next
    | 6, _ =>
      refine r_tableIn (off := 588) (tgt := 628) C dL_law_40 (by decide) (by decide) (by decide) (by decide) ?_
      exact lw_case_6 X M g V Hs len T hI hR (6 * t) hi kk nn hk1 hn1 next
    | 7, _ =>
      refine r_tableIn (off := 644) (tgt := 684) C dL_law_40 (by decide) (by decide) (by decide) (by decide) ?_
      exact lw_case_7 X M g V Hs len T hI hR (6 * t) hi kk nn hk1 hn1 next
    | 8, _ =>
      refine r_tableIn (off := 700) (tgt := 740) C dL_law_40 (by decide) (by decide) (by decide) (by decide) ?_
      exact lw_case_8 X M g V Hs len T hI hR (6 * t) hi kk nn hk1 hn1 next
    | 9, _ =>
      refine r_tableIn (off := 780) (tgt := 820) C dL_law_40 (by decide) (by decide) (by decide) (by decide) ?_
      exact lw_case_9 X M g V Hs len T hI hR (6 * t) hi kk nn hk1 hn1 next
    | 10, _ =>
      refine r_tableIn (off := 848) (tgt := 888) C dL_law_40 (by decide) (by decide) (by decide) (by decide) ?_
      exact lw_case_10 X M g V Hs len T hI hR (6 * t) hi kk nn hk1 hn1 next
    | 11, _ =>
      refine r_tableIn (off := 916) (tgt := 956) C dL_law_40 (by decide) (by decide) (by decide) (by decide) ?_
      exact lw_case_11 X M g V Hs len T hI hR (6 * t) hi kk nn hk1 hn1 next
    | 12, _ =>
      refine r_tableIn (off := 996) (tgt := 1036) C dL_law_40 (by decide) (by decide) (by decide) (by decide) ?_
      exact lw_case_12 X M g V Hs len T hI hR (6 * t) hi kk nn hk1 hn1 next
    | 13, _ =>
      refine r_tableIn (off := 1052) (tgt := 1092) C dL_law_40 (by decide) (by decide) (by decide) (by decide) ?_
      exact lw_case_13 X M g V Hs len T hI hR (6 * t) hi kk nn hk1 hn1 next
    | 14, _ =>
      refine r_tableIn (off := 1136) (tgt := 1176) C dL_law_40 (by decide) (by decide) (by decide) (by decide) ?_
      exact lw_case_14 X M g V Hs len T hI hR (6 * t) hi kk nn hk1 hn1 next
    | 15, _ =>
      refine r_tableIn (off := 1192) (tgt := 1232) C dL_law_40 (by decide) (by decide) (by decide) (by decide) ?_
      exact lw_case_15 X M g V Hs len T hI hR (6 * t) hi kk nn hk1 hn1 next
    | 16, _ =>
      refine r_tableIn (off := 1248) (tgt := 1288) C dL_law_40 (by decide) (by decide) (by decide) (by decide) ?_
      exact lw_case_16 X M g V Hs len T hI hR (6 * t) hi kk nn hk1 hn1 next
    | 17, _ =>
      refine r_tableIn (off := 1304) (tgt := 1344) C dL_law_40 (by decide) (by decide) (by decide) (by decide) ?_
      exact lw_case_17 X M g V Hs len T hI hR (6 * t) hi kk nn hk1 hn1 next
    | 18, _ =>
      refine r_tableIn (off := 1360) (tgt := 1400) C dL_law_40 (by decide) (by decide) (by decide) (by decide) ?_
      exact lw_case_18 X M g V Hs len T hI hR (6 * t) hi kk nn hk1 hn1 next
    | 19, _ =>
      refine r_tableIn (off := 1373) (tgt := 1413) C dL_law_40 (by decide) (by decide) (by decide) (by decide) ?_
      exact lw_case_19 X M g V Hs len T hI hR (6 * t) hi kk nn hk1 hn1 next
    | 20, _ =>
      refine r_tableIn (off := 1386) (tgt := 1426) C dL_law_40 (by decide) (by decide) (by decide) (by decide) ?_
      exact lw_case_20 X M g V Hs len T hI hR (6 * t) hi kk nn hk1 hn1 next
    | 21, _ =>
      refine r_tableIn (off := 1454) (tgt := 1494) C dL_law_40 (by decide) (by decide) (by decide) (by decide) ?_
      exact lw_case_21 X M g V Hs len T hI hR (6 * t) hi kk nn hk1 hn1 next
    | 22, _ =>
      refine r_tableIn (off := 1467) (tgt := 1507) C dL_law_40 (by decide) (by decide) (by decide) (by decide) ?_
      exact lw_case_22 X M g V Hs len T hI hR (6 * t) hi kk nn hk1 hn1 next
    | 23, _ =>
      refine r_tableIn (off := 1523) (tgt := 1563) C dL_law_40 (by decide) (by decide) (by decide) (by decide) ?_
      exact lw_case_23 X M g V Hs len T hI hR (6 * t) hi kk nn hk1 hn1 next
    | 24, _ =>
      refine r_tableIn (off := 1564) (tgt := 1604) C dL_law_40 (by decide) (by decide) (by decide) (by decide) ?_
      exact lw_case_24 X M g V Hs len T hI hR (6 * t) hi kk nn hk1 hn1 next
    | 25, _ =>
      refine r_tableIn (off := 1620) (tgt := 1660) C dL_law_40 (by decide) (by decide) (by decide) (by decide) ?_
      exact lw_case_25 X M g V Hs len T hI hR (6 * t) hi kk nn hk1 hn1 next
    | 26, _ =>
      refine r_tableIn (off := 1633) (tgt := 1673) C dL_law_40 (by decide) (by decide) (by decide) (by decide) ?_
      exact lw_case_26 X M g V Hs len T hI hR (6 * t) hi kk nn hk1 hn1 next
    | 27, _ =>
      refine r_tableIn (off := 1646) (tgt := 1686) C dL_law_40 (by decide) (by decide) (by decide) (by decide) ?_
      exact lw_case_27 X M g V Hs len T hI hR (6 * t) hi kk nn hk1 hn1 next
    | 28, _ =>
      refine r_tableIn (off := 1690) (tgt := 1730) C dL_law_40 (by decide) (by decide) (by decide) (by decide) ?_
      exact lw_case_28 X M g V Hs len T hI hR (6 * t) hi kk nn hk1 hn1 next
    | 29, _ =>
      refine r_tableOut (tgt := 1744) C dL_law_40 (by decide) (by decide) ?_
      exact next M g V Hs len T kk nn hI hR (by omega) (by omega)
    | 30, _ =>
      refine r_tableOut (tgt := 1744) C dL_law_40 (by decide) (by decide) ?_
      exact next M g V Hs len T kk nn hI hR (by omega) (by omega)
    | 31, _ =>
      refine r_tableOut (tgt := 1744) C dL_law_40 (by decide) (by decide) ?_
      exact next M g V Hs len T kk nn hI hR (by omega) (by omega)
    | j + 32, h => exact absurd h (by omega)
