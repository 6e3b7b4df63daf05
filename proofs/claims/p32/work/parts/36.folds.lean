def nodeF (V : View) (j w : Nat) : Int32 := if w < 6 then vD V w j else if w = 6 then flowF V j else if w = 7 then warmF V (vSup V) j else if w = 8 then (if j = 0 then -1 else rF V (vSup V) j) else if w = 9 then sumP (fun k => b2i (decide (vD V 0 k = nI j))) (vN V) else if w = 10 then branchF V j else vD V 7 j

set_option maxRecDepth 20000 in
set_option maxHeartbeats 1000000 in
theorem c_X7_nodeFact_0 (l : Launch) (G : mG) (hG : mInj G) (M : Mem) (g : Glo) (V : View) (hT : wfT V) (hC : cOK M V) (j : Nat) (hj : j < vN V) : mcI l G yX7_nodeFact cX7_nodeFact 4 .int 4 [.ref (mA G 0), .int (nI j), .int 0] M g (fun r M' g' => r = nodeF V j 0 ∧ M' = M ∧ g' = g) := by
  refine mcI_of (L0 := [(0, .ref (mA G 0)), (1, .int (nI j)), (2, .int 0)]) hG (by decide) (Nat.le_of_ble_eq_true rfl) rfl ?_
  intro p e s m args below meth c Q C hend
  obtain ⟨hn1, hn16, hb4, ⟨hd0, hd3, hd5, hd6⟩, hpar⟩ := id hT
  refine r_aload_n C dX7_nodeFact_0 0 rfl ?_
  refine r_getr (q2 := 1) C dX7_nodeFact_1 0 f_X7_10 rfl rfl ?_
  refine r_getr (q2 := 2) C dX7_nodeFact_4 0 f_X7_72 rfl rfl ?_
  refine r_astore_n (L' := [(3, .ref (mA G 2)), (0, .ref (mA G 0)), (1, .int (nI j)), (2, .int 0)]) C dX7_nodeFact_7 (by decide) rfl ?_
  refine r_iload_n C dX7_nodeFact_8 3 rfl ?_
  refine r_tableIn (off := 59) (tgt := 68) C dX7_nodeFact_9 (by decide) (by decide) (by decide) (by decide) ?_
  refine r_aload_n C dX7_nodeFact_68 0 rfl ?_
  refine r_getr (q2 := 3) C dX7_nodeFact_69 0 f_X7_270 rfl rfl ?_
  refine r_iload_n C dX7_nodeFact_72 2 rfl ?_
  refine r_ialdN (j := j) (v := vD V 0 j) C dX7_nodeFact_73 rfl (rfl) (by omega) (by decide) (hC.net.at 0 (by decide) hj) ?_
  exact hend _ _ _ _ _ dX7_nodeFact_74 (rfl) (⟨rfl, rfl, rfl⟩)

set_option maxRecDepth 20000 in
set_option maxHeartbeats 1000000 in
theorem c_X7_nodeFact_1 (l : Launch) (G : mG) (hG : mInj G) (M : Mem) (g : Glo) (V : View) (hT : wfT V) (hC : cOK M V) (j : Nat) (hj : j < vN V) : mcI l G yX7_nodeFact cX7_nodeFact 4 .int 4 [.ref (mA G 0), .int (nI j), .int 1] M g (fun r M' g' => r = nodeF V j 1 ∧ M' = M ∧ g' = g) := by
  refine mcI_of (L0 := [(0, .ref (mA G 0)), (1, .int (nI j)), (2, .int 1)]) hG (by decide) (Nat.le_of_ble_eq_true rfl) rfl ?_
  intro p e s m args below meth c Q C hend
  obtain ⟨hn1, hn16, hb4, ⟨hd0, hd3, hd5, hd6⟩, hpar⟩ := id hT
  refine r_aload_n C dX7_nodeFact_0 0 rfl ?_
  refine r_getr (q2 := 1) C dX7_nodeFact_1 0 f_X7_10 rfl rfl ?_
  refine r_getr (q2 := 2) C dX7_nodeFact_4 0 f_X7_72 rfl rfl ?_
  refine r_astore_n (L' := [(3, .ref (mA G 2)), (0, .ref (mA G 0)), (1, .int (nI j)), (2, .int 1)]) C dX7_nodeFact_7 (by decide) rfl ?_
  refine r_iload_n C dX7_nodeFact_8 3 rfl ?_
  refine r_tableIn (off := 66) (tgt := 75) C dX7_nodeFact_9 (by decide) (by decide) (by decide) (by decide) ?_
  refine r_aload_n C dX7_nodeFact_75 0 rfl ?_
  refine r_getr (q2 := 4) C dX7_nodeFact_76 1 f_X7_273 rfl rfl ?_
  refine r_iload_n C dX7_nodeFact_79 2 rfl ?_
  refine r_ialdN (j := j) (v := vD V 1 j) C dX7_nodeFact_80 rfl (rfl) (by omega) (by decide) (hC.net.at 1 (by decide) hj) ?_
  exact hend _ _ _ _ _ dX7_nodeFact_81 (rfl) (⟨rfl, rfl, rfl⟩)

set_option maxRecDepth 20000 in
set_option maxHeartbeats 1000000 in
theorem c_X7_nodeFact_2 (l : Launch) (G : mG) (hG : mInj G) (M : Mem) (g : Glo) (V : View) (hT : wfT V) (hC : cOK M V) (j : Nat) (hj : j < vN V) : mcI l G yX7_nodeFact cX7_nodeFact 4 .int 4 [.ref (mA G 0), .int (nI j), .int 2] M g (fun r M' g' => r = nodeF V j 2 ∧ M' = M ∧ g' = g) := by
  refine mcI_of (L0 := [(0, .ref (mA G 0)), (1, .int (nI j)), (2, .int 2)]) hG (by decide) (Nat.le_of_ble_eq_true rfl) rfl ?_
  intro p e s m args below meth c Q C hend
  obtain ⟨hn1, hn16, hb4, ⟨hd0, hd3, hd5, hd6⟩, hpar⟩ := id hT
  refine r_aload_n C dX7_nodeFact_0 0 rfl ?_
  refine r_getr (q2 := 1) C dX7_nodeFact_1 0 f_X7_10 rfl rfl ?_
  refine r_getr (q2 := 2) C dX7_nodeFact_4 0 f_X7_72 rfl rfl ?_
  refine r_astore_n (L' := [(3, .ref (mA G 2)), (0, .ref (mA G 0)), (1, .int (nI j)), (2, .int 2)]) C dX7_nodeFact_7 (by decide) rfl ?_
  refine r_iload_n C dX7_nodeFact_8 3 rfl ?_
  refine r_tableIn (off := 73) (tgt := 82) C dX7_nodeFact_9 (by decide) (by decide) (by decide) (by decide) ?_
  refine r_aload_n C dX7_nodeFact_82 0 rfl ?_
  refine r_getr (q2 := 5) C dX7_nodeFact_83 2 f_X7_275 rfl rfl ?_
  refine r_iload_n C dX7_nodeFact_86 2 rfl ?_
  refine r_ialdN (j := j) (v := vD V 2 j) C dX7_nodeFact_87 rfl (rfl) (by omega) (by decide) (hC.net.at 2 (by decide) hj) ?_
  exact hend _ _ _ _ _ dX7_nodeFact_88 (rfl) (⟨rfl, rfl, rfl⟩)

set_option maxRecDepth 20000 in
set_option maxHeartbeats 1000000 in
theorem c_X7_nodeFact_3 (l : Launch) (G : mG) (hG : mInj G) (M : Mem) (g : Glo) (V : View) (hT : wfT V) (hC : cOK M V) (j : Nat) (hj : j < vN V) : mcI l G yX7_nodeFact cX7_nodeFact 4 .int 4 [.ref (mA G 0), .int (nI j), .int 3] M g (fun r M' g' => r = nodeF V j 3 ∧ M' = M ∧ g' = g) := by
  refine mcI_of (L0 := [(0, .ref (mA G 0)), (1, .int (nI j)), (2, .int 3)]) hG (by decide) (Nat.le_of_ble_eq_true rfl) rfl ?_
  intro p e s m args below meth c Q C hend
  obtain ⟨hn1, hn16, hb4, ⟨hd0, hd3, hd5, hd6⟩, hpar⟩ := id hT
  refine r_aload_n C dX7_nodeFact_0 0 rfl ?_
  refine r_getr (q2 := 1) C dX7_nodeFact_1 0 f_X7_10 rfl rfl ?_
  refine r_getr (q2 := 2) C dX7_nodeFact_4 0 f_X7_72 rfl rfl ?_
  refine r_astore_n (L' := [(3, .ref (mA G 2)), (0, .ref (mA G 0)), (1, .int (nI j)), (2, .int 3)]) C dX7_nodeFact_7 (by decide) rfl ?_
  refine r_iload_n C dX7_nodeFact_8 3 rfl ?_
  refine r_tableIn (off := 80) (tgt := 89) C dX7_nodeFact_9 (by decide) (by decide) (by decide) (by decide) ?_
  refine r_aload_n C dX7_nodeFact_89 0 rfl ?_
  refine r_getr (q2 := 6) C dX7_nodeFact_90 3 f_X7_97 rfl rfl ?_
  refine r_iload_n C dX7_nodeFact_93 2 rfl ?_
  refine r_ialdN (j := j) (v := vD V 3 j) C dX7_nodeFact_94 rfl (rfl) (by omega) (by decide) (hC.net.at 3 (by decide) hj) ?_
  exact hend _ _ _ _ _ dX7_nodeFact_95 (rfl) (⟨rfl, rfl, rfl⟩)

set_option maxRecDepth 20000 in
set_option maxHeartbeats 1000000 in
theorem c_X7_nodeFact_4 (l : Launch) (G : mG) (hG : mInj G) (M : Mem) (g : Glo) (V : View) (hT : wfT V) (hC : cOK M V) (j : Nat) (hj : j < vN V) : mcI l G yX7_nodeFact cX7_nodeFact 4 .int 4 [.ref (mA G 0), .int (nI j), .int 4] M g (fun r M' g' => r = nodeF V j 4 ∧ M' = M ∧ g' = g) := by
  refine mcI_of (L0 := [(0, .ref (mA G 0)), (1, .int (nI j)), (2, .int 4)]) hG (by decide) (Nat.le_of_ble_eq_true rfl) rfl ?_
  intro p e s m args below meth c Q C hend
  obtain ⟨hn1, hn16, hb4, ⟨hd0, hd3, hd5, hd6⟩, hpar⟩ := id hT
  refine r_aload_n C dX7_nodeFact_0 0 rfl ?_
  refine r_getr (q2 := 1) C dX7_nodeFact_1 0 f_X7_10 rfl rfl ?_
  refine r_getr (q2 := 2) C dX7_nodeFact_4 0 f_X7_72 rfl rfl ?_
  refine r_astore_n (L' := [(3, .ref (mA G 2)), (0, .ref (mA G 0)), (1, .int (nI j)), (2, .int 4)]) C dX7_nodeFact_7 (by decide) rfl ?_
  refine r_iload_n C dX7_nodeFact_8 3 rfl ?_
  refine r_tableIn (off := 87) (tgt := 96) C dX7_nodeFact_9 (by decide) (by decide) (by decide) (by decide) ?_
  refine r_aload_n C dX7_nodeFact_96 0 rfl ?_
  refine r_getr (q2 := 7) C dX7_nodeFact_97 4 f_X7_100 rfl rfl ?_
  refine r_iload_n C dX7_nodeFact_100 2 rfl ?_
  refine r_ialdN (j := j) (v := vD V 4 j) C dX7_nodeFact_101 rfl (rfl) (by omega) (by decide) (hC.net.at 4 (by decide) hj) ?_
  exact hend _ _ _ _ _ dX7_nodeFact_102 (rfl) (⟨rfl, rfl, rfl⟩)

set_option maxRecDepth 20000 in
set_option maxHeartbeats 1000000 in
theorem c_X7_nodeFact_5 (l : Launch) (G : mG) (hG : mInj G) (M : Mem) (g : Glo) (V : View) (hT : wfT V) (hC : cOK M V) (j : Nat) (hj : j < vN V) : mcI l G yX7_nodeFact cX7_nodeFact 4 .int 4 [.ref (mA G 0), .int (nI j), .int 5] M g (fun r M' g' => r = nodeF V j 5 ∧ M' = M ∧ g' = g) := by
  refine mcI_of (L0 := [(0, .ref (mA G 0)), (1, .int (nI j)), (2, .int 5)]) hG (by decide) (Nat.le_of_ble_eq_true rfl) rfl ?_
  intro p e s m args below meth c Q C hend
  obtain ⟨hn1, hn16, hb4, ⟨hd0, hd3, hd5, hd6⟩, hpar⟩ := id hT
  refine r_aload_n C dX7_nodeFact_0 0 rfl ?_
  refine r_getr (q2 := 1) C dX7_nodeFact_1 0 f_X7_10 rfl rfl ?_
  refine r_getr (q2 := 2) C dX7_nodeFact_4 0 f_X7_72 rfl rfl ?_
  refine r_astore_n (L' := [(3, .ref (mA G 2)), (0, .ref (mA G 0)), (1, .int (nI j)), (2, .int 5)]) C dX7_nodeFact_7 (by decide) rfl ?_
  refine r_iload_n C dX7_nodeFact_8 3 rfl ?_
  refine r_tableIn (off := 94) (tgt := 103) C dX7_nodeFact_9 (by decide) (by decide) (by decide) (by decide) ?_
  refine r_aload_n C dX7_nodeFact_103 0 rfl ?_
  refine r_getr (q2 := 8) C dX7_nodeFact_104 5 f_X7_103 rfl rfl ?_
  refine r_iload_n C dX7_nodeFact_107 2 rfl ?_
  refine r_ialdN (j := j) (v := vD V 5 j) C dX7_nodeFact_108 rfl (rfl) (by omega) (by decide) (hC.net.at 5 (by decide) hj) ?_
  exact hend _ _ _ _ _ dX7_nodeFact_109 (rfl) (⟨rfl, rfl, rfl⟩)

set_option maxRecDepth 20000 in
set_option maxHeartbeats 1000000 in
theorem c_X7_nodeFact_6 (l : Launch) (G : mG) (hG : mInj G) (M : Mem) (g : Glo) (V : View) (hT : wfT V) (hC : cOK M V) (j : Nat) (hj : j < vN V) : mcI l G yX7_nodeFact cX7_nodeFact 4 .int 4 [.ref (mA G 0), .int (nI j), .int 6] M g (fun r M' g' => r = nodeF V j 6 ∧ M' = M ∧ g' = g) := by
  refine mcI_of (L0 := [(0, .ref (mA G 0)), (1, .int (nI j)), (2, .int 6)]) hG (by decide) (Nat.le_of_ble_eq_true rfl) rfl ?_
  intro p e s m args below meth c Q C hend
  obtain ⟨hn1, hn16, hb4, ⟨hd0, hd3, hd5, hd6⟩, hpar⟩ := id hT
  refine r_aload_n C dX7_nodeFact_0 0 rfl ?_
  refine r_getr (q2 := 1) C dX7_nodeFact_1 0 f_X7_10 rfl rfl ?_
  refine r_getr (q2 := 2) C dX7_nodeFact_4 0 f_X7_72 rfl rfl ?_
  refine r_astore_n (L' := [(3, .ref (mA G 2)), (0, .ref (mA G 0)), (1, .int (nI j)), (2, .int 6)]) C dX7_nodeFact_7 (by decide) rfl ?_
  refine r_iload_n C dX7_nodeFact_8 3 rfl ?_
  refine r_tableIn (off := 101) (tgt := 110) C dX7_nodeFact_9 (by decide) (by decide) (by decide) (by decide) ?_
  refine r_aload_n C dX7_nodeFact_110 1 rfl ?_
  refine r_getr (q2 := 75) C dX7_nodeFact_111 3 f_X7_33 rfl rfl ?_
  refine r_getr (q2 := 76) C dX7_nodeFact_114 0 f_X7_216 rfl rfl ?_
  refine r_iload_n C dX7_nodeFact_117 2 rfl ?_
  refine r_ialdN (j := j) (v := flowF V j) C dX7_nodeFact_118 rfl (rfl) (by omega) (by decide) (hC.fl hj) ?_
  exact hend _ _ _ _ _ dX7_nodeFact_119 (rfl) (⟨rfl, rfl, rfl⟩)

set_option maxRecDepth 20000 in
set_option maxHeartbeats 1000000 in
theorem c_X7_nodeFact_7 (l : Launch) (G : mG) (hG : mInj G) (M : Mem) (g : Glo) (V : View) (hT : wfT V) (hC : cOK M V) (j : Nat) (hj : j < vN V) : mcI l G yX7_nodeFact cX7_nodeFact 4 .int 4 [.ref (mA G 0), .int (nI j), .int 7] M g (fun r M' g' => r = nodeF V j 7 ∧ M' = M ∧ g' = g) := by
  refine mcI_of (L0 := [(0, .ref (mA G 0)), (1, .int (nI j)), (2, .int 7)]) hG (by decide) (Nat.le_of_ble_eq_true rfl) rfl ?_
  intro p e s m args below meth c Q C hend
  obtain ⟨hn1, hn16, hb4, ⟨hd0, hd3, hd5, hd6⟩, hpar⟩ := id hT
  refine r_aload_n C dX7_nodeFact_0 0 rfl ?_
  refine r_getr (q2 := 1) C dX7_nodeFact_1 0 f_X7_10 rfl rfl ?_
  refine r_getr (q2 := 2) C dX7_nodeFact_4 0 f_X7_72 rfl rfl ?_
  refine r_astore_n (L' := [(3, .ref (mA G 2)), (0, .ref (mA G 0)), (1, .int (nI j)), (2, .int 7)]) C dX7_nodeFact_7 (by decide) rfl ?_
  refine r_iload_n C dX7_nodeFact_8 3 rfl ?_
  refine r_tableIn (off := 111) (tgt := 120) C dX7_nodeFact_9 (by decide) (by decide) (by decide) (by decide) ?_
  refine r_aload_n C dX7_nodeFact_120 1 rfl ?_
  refine r_getr (q2 := 75) C dX7_nodeFact_121 3 f_X7_33 rfl rfl ?_
  refine r_getr (q2 := 77) C dX7_nodeFact_124 1 f_X7_278 rfl rfl ?_
  refine r_iload_n C dX7_nodeFact_127 2 rfl ?_
  refine r_ialdN (j := j) (v := warmF V (vSup V) j) C dX7_nodeFact_128 rfl (rfl) (by omega) (by decide) (hC.wm hj) ?_
  exact hend _ _ _ _ _ dX7_nodeFact_129 (rfl) (⟨rfl, rfl, rfl⟩)

set_option maxRecDepth 20000 in
set_option maxHeartbeats 1000000 in
theorem c_X7_nodeFact_8 (l : Launch) (G : mG) (hG : mInj G) (M : Mem) (g : Glo) (V : View) (hT : wfT V) (hC : cOK M V) (j : Nat) (hj : j < vN V) : mcI l G yX7_nodeFact cX7_nodeFact 4 .int 4 [.ref (mA G 0), .int (nI j), .int 8] M g (fun r M' g' => r = nodeF V j 8 ∧ M' = M ∧ g' = g) := by
  refine mcI_of (L0 := [(0, .ref (mA G 0)), (1, .int (nI j)), (2, .int 8)]) hG (by decide) (Nat.le_of_ble_eq_true rfl) rfl ?_
  intro p e s m args below meth c Q C hend
  obtain ⟨hn1, hn16, hb4, ⟨hd0, hd3, hd5, hd6⟩, hpar⟩ := id hT
  refine r_aload_n C dX7_nodeFact_0 0 rfl ?_
  refine r_getr (q2 := 1) C dX7_nodeFact_1 0 f_X7_10 rfl rfl ?_
  refine r_getr (q2 := 2) C dX7_nodeFact_4 0 f_X7_72 rfl rfl ?_
  refine r_astore_n (L' := [(3, .ref (mA G 2)), (0, .ref (mA G 0)), (1, .int (nI j)), (2, .int 8)]) C dX7_nodeFact_7 (by decide) rfl ?_
  refine r_iload_n C dX7_nodeFact_8 3 rfl ?_
  refine r_tableIn (off := 121) (tgt := 130) C dX7_nodeFact_9 (by decide) (by decide) (by decide) (by decide) ?_
  refine r_iload_n C dX7_nodeFact_130 2 rfl ?_
  refine r_if_ne (tgt := 138) C dX7_nodeFact_131 (by decide) (fun c131 => ?_) (fun c131 => ?_)
  ·
    have hj0 : ¬ j = 0 := fun z => c131 (by rw [z]; rfl)
    refine r_aload_n C dX7_nodeFact_138 1 rfl ?_
    refine r_getr (q2 := 75) C dX7_nodeFact_139 3 f_X7_33 rfl rfl ?_
    refine r_aload_n C dX7_nodeFact_142 0 rfl ?_
    refine r_iload_n C dX7_nodeFact_143 2 rfl ?_
    refine r_callVI (As := [.ref (mA G 2), .int (nI j)]) (rest := []) C dX7_nodeFact_144 s_X7_281 (c_X2_returnOf l G hG M g V hT hC.net 75 isHour_75 (by decide) j hj) (by decide) rfl rfl rfl rfl (Nat.le_of_ble_eq_true rfl) (Nat.le_of_ble_eq_true rfl) (Nat.le_of_ble_eq_true rfl) (pk_I ?_)
    refine r_valI (y := rF V (vSup V) j) (congrArg (minI (vD V 4 j)) (hC.wm hj)) ?_
    exact hend _ _ _ _ _ dX7_nodeFact_147 (rfl) (⟨(if_neg hj0).symm, rfl, rfl⟩)
  ·
    have hj0 : j = 0 := (nI_eq (b := 0) (by omega) (by decide)).mp c131
    refine r_iconst (v := (-1)) C dX7_nodeFact_134 rfl ?_
    refine r_goto (tgt := 147) C dX7_nodeFact_135 (by decide) ?_
    exact hend _ _ _ _ _ dX7_nodeFact_147 (rfl) (⟨(if_pos hj0).symm, rfl, rfl⟩)

set_option maxRecDepth 20000 in
set_option maxHeartbeats 1000000 in
theorem c_X7_nodeFact_9 (l : Launch) (G : mG) (hG : mInj G) (M : Mem) (g : Glo) (V : View) (hT : wfT V) (hC : cOK M V) (j : Nat) (hj : j < vN V) : mcI l G yX7_nodeFact cX7_nodeFact 4 .int 4 [.ref (mA G 0), .int (nI j), .int 9] M g (fun r M' g' => r = nodeF V j 9 ∧ M' = M ∧ g' = g) := by
  refine mcI_of (L0 := [(0, .ref (mA G 0)), (1, .int (nI j)), (2, .int 9)]) hG (by decide) (Nat.le_of_ble_eq_true rfl) rfl ?_
  intro p e s m args below meth c Q C hend
  obtain ⟨hn1, hn16, hb4, ⟨hd0, hd3, hd5, hd6⟩, hpar⟩ := id hT
  refine r_aload_n C dX7_nodeFact_0 0 rfl ?_
  refine r_getr (q2 := 1) C dX7_nodeFact_1 0 f_X7_10 rfl rfl ?_
  refine r_getr (q2 := 2) C dX7_nodeFact_4 0 f_X7_72 rfl rfl ?_
  refine r_astore_n (L' := [(3, .ref (mA G 2)), (0, .ref (mA G 0)), (1, .int (nI j)), (2, .int 9)]) C dX7_nodeFact_7 (by decide) rfl ?_
  refine r_iload_n C dX7_nodeFact_8 3 rfl ?_
  refine r_tableIn (off := 139) (tgt := 148) C dX7_nodeFact_9 (by decide) (by decide) (by decide) (by decide) ?_
  refine r_aload_n C dX7_nodeFact_148 0 rfl ?_
  refine r_iload_n C dX7_nodeFact_149 2 rfl ?_
  refine r_callVI (As := [.int (nI j)]) (rest := []) C dX7_nodeFact_150 s_X7_285 (c_X3_childrenOf l G hG M g V hT hC.net j hj) (by decide) rfl rfl rfl rfl (Nat.le_of_ble_eq_true rfl) (Nat.le_of_ble_eq_true rfl) (Nat.le_of_ble_eq_true rfl) (pk_I ?_)
  exact hend _ _ _ _ _ dX7_nodeFact_153 (rfl) (⟨rfl, rfl, rfl⟩)

set_option maxRecDepth 20000 in
set_option maxHeartbeats 1000000 in
theorem c_X7_nodeFact_10 (l : Launch) (G : mG) (hG : mInj G) (M : Mem) (g : Glo) (V : View) (hT : wfT V) (hC : cOK M V) (j : Nat) (hj : j < vN V) : mcI l G yX7_nodeFact cX7_nodeFact 4 .int 4 [.ref (mA G 0), .int (nI j), .int 10] M g (fun r M' g' => r = nodeF V j 10 ∧ M' = M ∧ g' = g) := by
  refine mcI_of (L0 := [(0, .ref (mA G 0)), (1, .int (nI j)), (2, .int 10)]) hG (by decide) (Nat.le_of_ble_eq_true rfl) rfl ?_
  intro p e s m args below meth c Q C hend
  obtain ⟨hn1, hn16, hb4, ⟨hd0, hd3, hd5, hd6⟩, hpar⟩ := id hT
  refine r_aload_n C dX7_nodeFact_0 0 rfl ?_
  refine r_getr (q2 := 1) C dX7_nodeFact_1 0 f_X7_10 rfl rfl ?_
  refine r_getr (q2 := 2) C dX7_nodeFact_4 0 f_X7_72 rfl rfl ?_
  refine r_astore_n (L' := [(3, .ref (mA G 2)), (0, .ref (mA G 0)), (1, .int (nI j)), (2, .int 10)]) C dX7_nodeFact_7 (by decide) rfl ?_
  refine r_iload_n C dX7_nodeFact_8 3 rfl ?_
  refine r_tableIn (off := 145) (tgt := 154) C dX7_nodeFact_9 (by decide) (by decide) (by decide) (by decide) ?_
  refine r_aload_n C dX7_nodeFact_154 0 rfl ?_
  refine r_iload_n C dX7_nodeFact_155 2 rfl ?_
  refine r_callVI (As := [.int (nI j)]) (rest := []) C dX7_nodeFact_156 s_X7_288 (c_X3_branchOf l G hG M g V hT hC.net j hj) (by decide) rfl rfl rfl rfl (Nat.le_of_ble_eq_true rfl) (Nat.le_of_ble_eq_true rfl) (Nat.le_of_ble_eq_true rfl) (pk_I ?_)
  exact hend _ _ _ _ _ dX7_nodeFact_159 (rfl) (⟨rfl, rfl, rfl⟩)

set_option maxRecDepth 20000 in
set_option maxHeartbeats 1000000 in
theorem c_X7_nodeFact_11 (l : Launch) (G : mG) (hG : mInj G) (M : Mem) (g : Glo) (V : View) (hT : wfT V) (hC : cOK M V) (j : Nat) (hj : j < vN V) : mcI l G yX7_nodeFact cX7_nodeFact 4 .int 4 [.ref (mA G 0), .int (nI j), .int 11] M g (fun r M' g' => r = nodeF V j 11 ∧ M' = M ∧ g' = g) := by
  refine mcI_of (L0 := [(0, .ref (mA G 0)), (1, .int (nI j)), (2, .int 11)]) hG (by decide) (Nat.le_of_ble_eq_true rfl) rfl ?_
  intro p e s m args below meth c Q C hend
  obtain ⟨hn1, hn16, hb4, ⟨hd0, hd3, hd5, hd6⟩, hpar⟩ := id hT
  refine r_aload_n C dX7_nodeFact_0 0 rfl ?_
  refine r_getr (q2 := 1) C dX7_nodeFact_1 0 f_X7_10 rfl rfl ?_
  refine r_getr (q2 := 2) C dX7_nodeFact_4 0 f_X7_72 rfl rfl ?_
  refine r_astore_n (L' := [(3, .ref (mA G 2)), (0, .ref (mA G 0)), (1, .int (nI j)), (2, .int 11)]) C dX7_nodeFact_7 (by decide) rfl ?_
  refine r_iload_n C dX7_nodeFact_8 3 rfl ?_
  refine r_tableOut (tgt := 160) C dX7_nodeFact_9 (Or.inr (by decide)) (by decide) ?_
  refine r_aload_n C dX7_nodeFact_160 0 rfl ?_
  refine r_getr (q2 := 10) C dX7_nodeFact_161 7 f_X7_163 rfl rfl ?_
  refine r_iload_n C dX7_nodeFact_164 2 rfl ?_
  refine r_ialdN (j := j) (v := vD V 7 j) C dX7_nodeFact_165 rfl (rfl) (by omega) (by decide) (hC.net.at 7 (by decide) hj) ?_
  exact hend _ _ _ _ _ dX7_nodeFact_166 (rfl) (⟨rfl, rfl, rfl⟩)

theorem c_X7_nodeFact (l : Launch) (G : mG) (hG : mInj G) (M : Mem) (g : Glo) (V : View) (hT : wfT V) (hC : cOK M V) (j : Nat) (hj : j < vN V) (w : Nat) (hw : w < 12) : mcI l G yX7_nodeFact cX7_nodeFact 4 .int 4 [.ref (mA G 0), .int (nI j), .int (nI w)] M g (fun r M' g' => r = nodeF V j w ∧ M' = M ∧ g' = g) := by
  obtain rfl | rfl | rfl | rfl | rfl | rfl | rfl | rfl | rfl | rfl | rfl | rfl : w = 0 ∨ w = 1 ∨ w = 2 ∨ w = 3 ∨ w = 4 ∨ w = 5 ∨ w = 6 ∨ w = 7 ∨ w = 8 ∨ w = 9 ∨ w = 10 ∨ w = 11 := by omega
  · exact c_X7_nodeFact_0 l G hG M g V hT hC j hj
  · exact c_X7_nodeFact_1 l G hG M g V hT hC j hj
  · exact c_X7_nodeFact_2 l G hG M g V hT hC j hj
  · exact c_X7_nodeFact_3 l G hG M g V hT hC j hj
  · exact c_X7_nodeFact_4 l G hG M g V hT hC j hj
  · exact c_X7_nodeFact_5 l G hG M g V hT hC j hj
  · exact c_X7_nodeFact_6 l G hG M g V hT hC j hj
  · exact c_X7_nodeFact_7 l G hG M g V hT hC j hj
  · exact c_X7_nodeFact_8 l G hG M g V hT hC j hj
  · exact c_X7_nodeFact_9 l G hG M g V hT hC j hj
  · exact c_X7_nodeFact_10 l G hG M g V hT hC j hj
  · exact c_X7_nodeFact_11 l G hG M g V hT hC j hj

set_option maxRecDepth 20000 in
set_option maxHeartbeats 1000000 in
theorem c_X7_node (l : Launch) (G : mG) (hG : mInj G) (M : Mem) (g : Glo) (hfl : l.stackTraces = false) (V : View) (Hs : List View) (len : Nat) (T : Nat → Int32) (hI : cINV M V Hs len T) (n w : Int32) : mcXI l G yX7_node cX7_node 3 7 2 12 [.ref (mA G 0), .int n, .int w] M g (fun r M' g' => (eNode V n w = 0 ∧ r = nodeF V n.toNatClampNeg w.toNatClampNeg) ∧ M' = M ∧ g' = g) (fun E => (E = IOO ∧ eNode V n w = 1) ∨ (E = IAE ∧ eNode V n w = 2)) := by
  refine mcXI_of (L0 := [(0, .ref (mA G 0)), (1, .int n), (2, .int w)]) hG (by decide) (Nat.le_of_ble_eq_true rfl) rfl ?_
  intro p e s m args below meth c Q C hno hend hqw hqx
  obtain ⟨hC, hW, hH, hHs, hTx, hP0⟩ := id hI
  have hT := hW.1
  obtain ⟨hn1, hn16, hb4, ⟨hd0, hd3, hd5, hd6⟩, hpar⟩ := id hT
  refine r_aload_n C dX7_node_0 0 rfl ?_
  refine r_iload_n C dX7_node_1 1 rfl ?_
  refine r_xVV (As := [.int n]) (rest := []) C dX7_node_2 s_X7_64 (c_X7_requireNode l G hG M g hfl V hn16 hC.net.1 n) (by decide) rfl rfl rfl rfl (Nat.le_of_ble_eq_true rfl) (Nat.le_of_ble_eq_true rfl) (Nat.le_of_ble_eq_true rfl) (fun E9 hE9 => r_outX hno hqx (Or.inl (⟨hE9.1, if_pos hE9.2⟩)) (Nat.le_of_ble_eq_true rfl) (Nat.le_of_ble_eq_true rfl)) (pk_VC (fun hc2 => ?_))
  obtain ⟨j, hj, hnj⟩ := isNd_nI (by omega) hc2
  have e9 : n.toNatClampNeg = j := by rw [hnj]; exact nI_clamp (by omega)
  refine r_iload_n C dX7_node_5 2 rfl ?_
  refine r_iconst (v := 0) C dX7_node_6 rfl ?_
  refine r_bipush (v := 11) C dX7_node_7 rfl ?_
  refine r_xSV (As := [.int w, .int 0, .int 11]) (rest := []) C dX7_node_9 s_X7_68 (c_X7_requireWithin l G hG M g hfl w 0 11) (by decide) rfl rfl (Nat.le_of_ble_eq_true rfl) (Nat.le_of_ble_eq_true rfl) (Nat.le_of_ble_eq_true rfl) (fun E9 hE9 => r_outX hno hqx (Or.inr (⟨hE9.1, (if_neg (not_of hc2)).trans (if_pos hE9.2)⟩)) (Nat.le_of_ble_eq_true rfl) (Nat.le_of_ble_eq_true rfl)) (pk_VC (fun hc9 => ?_))
  obtain ⟨k, hk, hwk⟩ := nI_of2 (x := w) (M := 11) (n := 11) (by decide) (i32_nlt.mpr hc9.1) hc9.2
  have e8 : w.toNatClampNeg = k := by rw [hwk]; exact nI_clamp (by omega)
  refine r_aload_n C dX7_node_12 0 rfl ?_
  refine r_iload_n C dX7_node_13 1 rfl ?_
  refine r_valI (y := nI j) (hnj) ?_
  refine r_iload_n C dX7_node_14 2 rfl ?_
  refine r_valI (y := nI k) (hwk) ?_
  refine r_callVI (As := [.int (nI j), .int (nI k)]) (rest := []) C dX7_node_15 s_X7_112 (c_X7_nodeFact l G hG M g V hT hC j hj k (by omega)) (by decide) rfl rfl rfl rfl (Nat.le_of_ble_eq_true rfl) (Nat.le_of_ble_eq_true rfl) (Nat.le_of_ble_eq_true rfl) (pk_I ?_)
  exact hend _ _ _ _ _ _ _ (Nat.le_of_ble_eq_true rfl) (Nat.le_of_ble_eq_true rfl) dX7_node_18 (by rw [e9, e8]; exact ⟨⟨(if_neg (not_of hc2)).trans (if_neg (not_of hc9)), rfl⟩, rfl, rfl⟩)
