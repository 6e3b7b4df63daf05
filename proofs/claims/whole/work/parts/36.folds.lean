def nodeF (V : View) (j w : Nat) : Int32 := if w < 6 then vD V w j else if w = 6 then flowF V j else if w = 7 then warmF V (vSup V) j else if w = 8 then (if j = 0 then -1 else rF V (vSup V) j) else if w = 9 then sumP (fun k => b2i (decide (vD V 0 k = nI j))) (vN V) else if w = 10 then branchF V j else vD V 7 j
def foldF (h v : Int64) : Int64 := 31 * h + v
def foldA (f : Nat → Int32) : Nat → Int64 → Int64
  | 0, x => x
  | k + 1, x => foldF (foldA f k x) (f k).toInt64
theorem foldA_0 (f : Nat → Int32) (x : Int64) : foldA f 0 x = x := rfl
theorem foldA_s (f : Nat → Int32) (k : Nat) (x : Int64) : foldA f (k + 1) x = foldF (foldA f k x) (f k).toInt64 := rfl
def fNod (V : View) : Nat → Int64 → Int64
  | 0, x => x
  | k + 1, x => foldF (foldF (foldF (foldA (nodeF V k) 12 (fNod V k x)) (balF (vD V 6) (lkF V (vD V 6)) k).toInt64) (balF (vD V 6) (szF V (vD V 6)) k).toInt64) (nextF V (vD V 6) k).toInt64
def fHea (V : View) : Nat → Int64 → Int64
  | 0, x => x
  | k + 1, x => if k = 0 then x else foldA (heatF V k) 6 (fHea V k x)
def fBoi (V : View) : Nat → Int64 → Int64
  | 0, x => x
  | k + 1, x => foldA (boiF V k) 5 (fBoi V k x)
def digF (V : View) (len c : Nat) : Int64 := foldF (foldF (fBoi V (vB V) (fHea V (vN V) (fNod V (vN V) (foldA (sumF V) 3 (foldA (valF V) 15 (foldF 3407 (nI len).toInt64)))))) (susF V (vD V 6)).toInt64) (nI c).toInt64
theorem mf_go {V : View} {mt : Nat → Int32} {i f : Nat} (h : fnF V mt = nI i) (hi : i < 16) : mfF V (f + 1) mt = 1 + mfF V f (upd mt i 1) := by
  rw [mfF, if_neg (by rw [h]; exact nI_nm1 (by omega)), h, nI_clamp (by omega)]
theorem mf_no {V : View} {mt : Nat → Int32} {f : Nat} (h : fnF V mt = -1) : mfF V f mt = 0 := by
  cases f with
  | zero => rfl
  | succ f => rw [mfF, if_pos h]
theorem offR.leak {M M2 : Mem} {j a b : Nat} {x : Int32} (o : offR (mset M 8 j x) M2 a b) (h : 8 < a ∨ b < 8) : offR M (mset M2 8 j (M 8 j)) a b := fun q hq => by
  by_cases e : q = 8
  · subst e
    rw [mset_at, o 8 (by omega), mset_at, upd_upd]
    funext i
    by_cases e : i = j
    · subst e; rw [upd_at]
    · rw [upd_ne e]
  · rw [mset_ne e, o q hq, mset_ne e]

set_option maxRecDepth 20000 in
set_option maxHeartbeats 1000000 in
theorem c_X7_nodeFact_0 (l : Launch) (G : mG) (hG : mInj G) (M : Mem) (g : Glo) (V : View) (hT : wfT V) (hC : cOK M V) (j : Nat) (hj : j < vN V) : mcI l G yX7_nodeFact cX7_nodeFact 4 .int 4 [.ref (mA G 0), .int (nI j), .int 0] M g (fun r M' g' => r = nodeF V j 0 ∧ M' = M ∧ g' = g) := by
  refine mcI_of (L0 := [(0, .ref (mA G 0)), (1, .int (nI j)), (2, .int 0)]) hG (by decide) (Nat.le_of_ble_eq_true rfl) rfl ?_
  intro p e s m args below meth c Q C hend
  obtain ⟨hn1, hn16, hb4, ⟨hd0, hd3, hd5, hd6⟩, hpar⟩ := id hT
  refine r_aload_n C dX7_nodeFact_0 0 rfl ?_
  refine r_getr (q2 := 1) C dX7_nodeFact_1 0 f_X7_10 rfl rfl ?_
  refine r_getr (q2 := 2) C dX7_nodeFact_4 0 f_X7_72 rfl rfl ?_
  refine r_astore_n (L' := [(3, .ref (mA G 2)), (0, .ref (mA G 0)), (1, .int (nI j)), (2, .int 0)]) C dX7_nodeFact_7 (by decide) rfl ?_
  refine r_iload_n C dX7_nodeFact_8 3 rfl ?_
  refine r_tableIn (off := 59) (tgt := 68) C dX7_nodeFact_9 (by decide) (by decide) (by decide) (by decide) ?_
  refine r_aload_n C dX7_nodeFact_68 0 rfl ?_
  refine r_getr (q2 := 3) C dX7_nodeFact_69 0 f_X7_270 rfl rfl ?_
  refine r_iload_n C dX7_nodeFact_72 2 rfl ?_
  refine r_ialdN (j := j) (v := vD V 0 j) C dX7_nodeFact_73 rfl (rfl) (by omega) (by decide) (hC.net.at 0 (by decide) hj) ?_
  exact hend _ _ _ _ _ dX7_nodeFact_74 (rfl) (⟨rfl, rfl, rfl⟩)

set_option maxRecDepth 20000 in
set_option maxHeartbeats 1000000 in
theorem c_X7_nodeFact_1 (l : Launch) (G : mG) (hG : mInj G) (M : Mem) (g : Glo) (V : View) (hT : wfT V) (hC : cOK M V) (j : Nat) (hj : j < vN V) : mcI l G yX7_nodeFact cX7_nodeFact 4 .int 4 [.ref (mA G 0), .int (nI j), .int 1] M g (fun r M' g' => r = nodeF V j 1 ∧ M' = M ∧ g' = g) := by
  refine mcI_of (L0 := [(0, .ref (mA G 0)), (1, .int (nI j)), (2, .int 1)]) hG (by decide) (Nat.le_of_ble_eq_true rfl) rfl ?_
  intro p e s m args below meth c Q C hend
  obtain ⟨hn1, hn16, hb4, ⟨hd0, hd3, hd5, hd6⟩, hpar⟩ := id hT
  refine r_aload_n C dX7_nodeFact_0 0 rfl ?_
  refine r_getr (q2 := 1) C dX7_nodeFact_1 0 f_X7_10 rfl rfl ?_
  refine r_getr (q2 := 2) C dX7_nodeFact_4 0 f_X7_72 rfl rfl ?_
  refine r_astore_n (L' := [(3, .ref (mA G 2)), (0, .ref (mA G 0)), (1, .int (nI j)), (2, .int 1)]) C dX7_nodeFact_7 (by decide) rfl ?_
  refine r_iload_n C dX7_nodeFact_8 3 rfl ?_
  refine r_tableIn (off := 66) (tgt := 75) C dX7_nodeFact_9 (by decide) (by decide) (by decide) (by decide) ?_
  refine r_aload_n C dX7_nodeFact_75 0 rfl ?_
  refine r_getr (q2 := 4) C dX7_nodeFact_76 1 f_X7_273 rfl rfl ?_
  refine r_iload_n C dX7_nodeFact_79 2 rfl ?_
  refine r_ialdN (j := j) (v := vD V 1 j) C dX7_nodeFact_80 rfl (rfl) (by omega) (by decide) (hC.net.at 1 (by decide) hj) ?_
  exact hend _ _ _ _ _ dX7_nodeFact_81 (rfl) (⟨rfl, rfl, rfl⟩)

set_option maxRecDepth 20000 in
set_option maxHeartbeats 1000000 in
theorem c_X7_nodeFact_2 (l : Launch) (G : mG) (hG : mInj G) (M : Mem) (g : Glo) (V : View) (hT : wfT V) (hC : cOK M V) (j : Nat) (hj : j < vN V) : mcI l G yX7_nodeFact cX7_nodeFact 4 .int 4 [.ref (mA G 0), .int (nI j), .int 2] M g (fun r M' g' => r = nodeF V j 2 ∧ M' = M ∧ g' = g) := by
  refine mcI_of (L0 := [(0, .ref (mA G 0)), (1, .int (nI j)), (2, .int 2)]) hG (by decide) (Nat.le_of_ble_eq_true rfl) rfl ?_
  intro p e s m args below meth c Q C hend
  obtain ⟨hn1, hn16, hb4, ⟨hd0, hd3, hd5, hd6⟩, hpar⟩ := id hT
  refine r_aload_n C dX7_nodeFact_0 0 rfl ?_
  refine r_getr (q2 := 1) C dX7_nodeFact_1 0 f_X7_10 rfl rfl ?_
  refine r_getr (q2 := 2) C dX7_nodeFact_4 0 f_X7_72 rfl rfl ?_
  refine r_astore_n (L' := [(3, .ref (mA G 2)), (0, .ref (mA G 0)), (1, .int (nI j)), (2, .int 2)]) C dX7_nodeFact_7 (by decide) rfl ?_
  refine r_iload_n C dX7_nodeFact_8 3 rfl ?_
  refine r_tableIn (off := 73) (tgt := 82) C dX7_nodeFact_9 (by decide) (by decide) (by decide) (by decide) ?_
  refine r_aload_n C dX7_nodeFact_82 0 rfl ?_
  refine r_getr (q2 := 5) C dX7_nodeFact_83 2 f_X7_275 rfl rfl ?_
  refine r_iload_n C dX7_nodeFact_86 2 rfl ?_
  refine r_ialdN (j := j) (v := vD V 2 j) C dX7_nodeFact_87 rfl (rfl) (by omega) (by decide) (hC.net.at 2 (by decide) hj) ?_
  exact hend _ _ _ _ _ dX7_nodeFact_88 (rfl) (⟨rfl, rfl, rfl⟩)

set_option maxRecDepth 20000 in
set_option maxHeartbeats 1000000 in
theorem c_X7_nodeFact_3 (l : Launch) (G : mG) (hG : mInj G) (M : Mem) (g : Glo) (V : View) (hT : wfT V) (hC : cOK M V) (j : Nat) (hj : j < vN V) : mcI l G yX7_nodeFact cX7_nodeFact 4 .int 4 [.ref (mA G 0), .int (nI j), .int 3] M g (fun r M' g' => r = nodeF V j 3 ∧ M' = M ∧ g' = g) := by
  refine mcI_of (L0 := [(0, .ref (mA G 0)), (1, .int (nI j)), (2, .int 3)]) hG (by decide) (Nat.le_of_ble_eq_true rfl) rfl ?_
  intro p e s m args below meth c Q C hend
  obtain ⟨hn1, hn16, hb4, ⟨hd0, hd3, hd5, hd6⟩, hpar⟩ := id hT
  refine r_aload_n C dX7_nodeFact_0 0 rfl ?_
  refine r_getr (q2 := 1) C dX7_nodeFact_1 0 f_X7_10 rfl rfl ?_
  refine r_getr (q2 := 2) C dX7_nodeFact_4 0 f_X7_72 rfl rfl ?_
  refine r_astore_n (L' := [(3, .ref (mA G 2)), (0, .ref (mA G 0)), (1, .int (nI j)), (2, .int 3)]) C dX7_nodeFact_7 (by decide) rfl ?_
  refine r_iload_n C dX7_nodeFact_8 3 rfl ?_
  refine r_tableIn (off := 80) (tgt := 89) C dX7_nodeFact_9 (by decide) (by decide) (by decide) (by decide) ?_
  refine r_aload_n C dX7_nodeFact_89 0 rfl ?_
  refine r_getr (q2 := 6) C dX7_nodeFact_90 3 f_X7_97 rfl rfl ?_
  refine r_iload_n C dX7_nodeFact_93 2 rfl ?_
  refine r_ialdN (j := j) (v := vD V 3 j) C dX7_nodeFact_94 rfl (rfl) (by omega) (by decide) (hC.net.at 3 (by decide) hj) ?_
  exact hend _ _ _ _ _ dX7_nodeFact_95 (rfl) (⟨rfl, rfl, rfl⟩)

set_option maxRecDepth 20000 in
set_option maxHeartbeats 1000000 in
theorem c_X7_nodeFact_4 (l : Launch) (G : mG) (hG : mInj G) (M : Mem) (g : Glo) (V : View) (hT : wfT V) (hC : cOK M V) (j : Nat) (hj : j < vN V) : mcI l G yX7_nodeFact cX7_nodeFact 4 .int 4 [.ref (mA G 0), .int (nI j), .int 4] M g (fun r M' g' => r = nodeF V j 4 ∧ M' = M ∧ g' = g) := by
  refine mcI_of (L0 := [(0, .ref (mA G 0)), (1, .int (nI j)), (2, .int 4)]) hG (by decide) (Nat.le_of_ble_eq_true rfl) rfl ?_
  intro p e s m args below meth c Q C hend
  obtain ⟨hn1, hn16, hb4, ⟨hd0, hd3, hd5, hd6⟩, hpar⟩ := id hT
  refine r_aload_n C dX7_nodeFact_0 0 rfl ?_
  refine r_getr (q2 := 1) C dX7_nodeFact_1 0 f_X7_10 rfl rfl ?_
  refine r_getr (q2 := 2) C dX7_nodeFact_4 0 f_X7_72 rfl rfl ?_
  refine r_astore_n (L' := [(3, .ref (mA G 2)), (0, .ref (mA G 0)), (1, .int (nI j)), (2, .int 4)]) C dX7_nodeFact_7 (by decide) rfl ?_
  refine r_iload_n C dX7_nodeFact_8 3 rfl ?_
  refine r_tableIn (off := 87) (tgt := 96) C dX7_nodeFact_9 (by decide) (by decide) (by decide) (by decide) ?_
  refine r_aload_n C dX7_nodeFact_96 0 rfl ?_
  refine r_getr (q2 := 7) C dX7_nodeFact_97 4 f_X7_100 rfl rfl ?_
  refine r_iload_n C dX7_nodeFact_100 2 rfl ?_
  refine r_ialdN (j := j) (v := vD V 4 j) C dX7_nodeFact_101 rfl (rfl) (by omega) (by decide) (hC.net.at 4 (by decide) hj) ?_
  exact hend _ _ _ _ _ dX7_nodeFact_102 (rfl) (⟨rfl, rfl, rfl⟩)

set_option maxRecDepth 20000 in
set_option maxHeartbeats 1000000 in
theorem c_X7_nodeFact_5 (l : Launch) (G : mG) (hG : mInj G) (M : Mem) (g : Glo) (V : View) (hT : wfT V) (hC : cOK M V) (j : Nat) (hj : j < vN V) : mcI l G yX7_nodeFact cX7_nodeFact 4 .int 4 [.ref (mA G 0), .int (nI j), .int 5] M g (fun r M' g' => r = nodeF V j 5 ∧ M' = M ∧ g' = g) := by
  refine mcI_of (L0 := [(0, .ref (mA G 0)), (1, .int (nI j)), (2, .int 5)]) hG (by decide) (Nat.le_of_ble_eq_true rfl) rfl ?_
  intro p e s m args below meth c Q C hend
  obtain ⟨hn1, hn16, hb4, ⟨hd0, hd3, hd5, hd6⟩, hpar⟩ := id hT
  refine r_aload_n C dX7_nodeFact_0 0 rfl ?_
  refine r_getr (q2 := 1) C dX7_nodeFact_1 0 f_X7_10 rfl rfl ?_
  refine r_getr (q2 := 2) C dX7_nodeFact_4 0 f_X7_72 rfl rfl ?_
  refine r_astore_n (L' := [(3, .ref (mA G 2)), (0, .ref (mA G 0)), (1, .int (nI j)), (2, .int 5)]) C dX7_nodeFact_7 (by decide) rfl ?_
  refine r_iload_n C dX7_nodeFact_8 3 rfl ?_
  refine r_tableIn (off := 94) (tgt := 103) C dX7_nodeFact_9 (by decide) (by decide) (by decide) (by decide) ?_
  refine r_aload_n C dX7_nodeFact_103 0 rfl ?_
  refine r_getr (q2 := 8) C dX7_nodeFact_104 5 f_X7_103 rfl rfl ?_
  refine r_iload_n C dX7_nodeFact_107 2 rfl ?_
  refine r_ialdN (j := j) (v := vD V 5 j) C dX7_nodeFact_108 rfl (rfl) (by omega) (by decide) (hC.net.at 5 (by decide) hj) ?_
  exact hend _ _ _ _ _ dX7_nodeFact_109 (rfl) (⟨rfl, rfl, rfl⟩)

set_option maxRecDepth 20000 in
set_option maxHeartbeats 1000000 in
theorem c_X7_nodeFact_6 (l : Launch) (G : mG) (hG : mInj G) (M : Mem) (g : Glo) (V : View) (hT : wfT V) (hC : cOK M V) (j : Nat) (hj : j < vN V) : mcI l G yX7_nodeFact cX7_nodeFact 4 .int 4 [.ref (mA G 0), .int (nI j), .int 6] M g (fun r M' g' => r = nodeF V j 6 ∧ M' = M ∧ g' = g) := by
  refine mcI_of (L0 := [(0, .ref (mA G 0)), (1, .int (nI j)), (2, .int 6)]) hG (by decide) (Nat.le_of_ble_eq_true rfl) rfl ?_
  intro p e s m args below meth c Q C hend
  obtain ⟨hn1, hn16, hb4, ⟨hd0, hd3, hd5, hd6⟩, hpar⟩ := id hT
  refine r_aload_n C dX7_nodeFact_0 0 rfl ?_
  refine r_getr (q2 := 1) C dX7_nodeFact_1 0 f_X7_10 rfl rfl ?_
  refine r_getr (q2 := 2) C dX7_nodeFact_4 0 f_X7_72 rfl rfl ?_
  refine r_astore_n (L' := [(3, .ref (mA G 2)), (0, .ref (mA G 0)), (1, .int (nI j)), (2, .int 6)]) C dX7_nodeFact_7 (by decide) rfl ?_
  refine r_iload_n C dX7_nodeFact_8 3 rfl ?_
  refine r_tableIn (off := 101) (tgt := 110) C dX7_nodeFact_9 (by decide) (by decide) (by decide) (by decide) ?_
  refine r_aload_n C dX7_nodeFact_110 1 rfl ?_
  refine r_getr (q2 := 75) C dX7_nodeFact_111 3 f_X7_33 rfl rfl ?_
  refine r_getr (q2 := 76) C dX7_nodeFact_114 0 f_X7_216 rfl rfl ?_
  refine r_iload_n C dX7_nodeFact_117 2 rfl ?_
  refine r_ialdN (j := j) (v := flowF V j) C dX7_nodeFact_118 rfl (rfl) (by omega) (by decide) (hC.fl hj) ?_
  exact hend _ _ _ _ _ dX7_nodeFact_119 (rfl) (⟨rfl, rfl, rfl⟩)

set_option maxRecDepth 20000 in
set_option maxHeartbeats 1000000 in
theorem c_X7_nodeFact_7 (l : Launch) (G : mG) (hG : mInj G) (M : Mem) (g : Glo) (V : View) (hT : wfT V) (hC : cOK M V) (j : Nat) (hj : j < vN V) : mcI l G yX7_nodeFact cX7_nodeFact 4 .int 4 [.ref (mA G 0), .int (nI j), .int 7] M g (fun r M' g' => r = nodeF V j 7 ∧ M' = M ∧ g' = g) := by
  refine mcI_of (L0 := [(0, .ref (mA G 0)), (1, .int (nI j)), (2, .int 7)]) hG (by decide) (Nat.le_of_ble_eq_true rfl) rfl ?_
  intro p e s m args below meth c Q C hend
  obtain ⟨hn1, hn16, hb4, ⟨hd0, hd3, hd5, hd6⟩, hpar⟩ := id hT
  refine r_aload_n C dX7_nodeFact_0 0 rfl ?_
  refine r_getr (q2 := 1) C dX7_nodeFact_1 0 f_X7_10 rfl rfl ?_
  refine r_getr (q2 := 2) C dX7_nodeFact_4 0 f_X7_72 rfl rfl ?_
  refine r_astore_n (L' := [(3, .ref (mA G 2)), (0, .ref (mA G 0)), (1, .int (nI j)), (2, .int 7)]) C dX7_nodeFact_7 (by decide) rfl ?_
  refine r_iload_n C dX7_nodeFact_8 3 rfl ?_
  refine r_tableIn (off := 111) (tgt := 120) C dX7_nodeFact_9 (by decide) (by decide) (by decide) (by decide) ?_
  refine r_aload_n C dX7_nodeFact_120 1 rfl ?_
  refine r_getr (q2 := 75) C dX7_nodeFact_121 3 f_X7_33 rfl rfl ?_
  refine r_getr (q2 := 77) C dX7_nodeFact_124 1 f_X7_278 rfl rfl ?_
  refine r_iload_n C dX7_nodeFact_127 2 rfl ?_
  refine r_ialdN (j := j) (v := warmF V (vSup V) j) C dX7_nodeFact_128 rfl (rfl) (by omega) (by decide) (hC.wm hj) ?_
  exact hend _ _ _ _ _ dX7_nodeFact_129 (rfl) (⟨rfl, rfl, rfl⟩)

set_option maxRecDepth 20000 in
set_option maxHeartbeats 1000000 in
theorem c_X7_nodeFact_8 (l : Launch) (G : mG) (hG : mInj G) (M : Mem) (g : Glo) (V : View) (hT : wfT V) (hC : cOK M V) (j : Nat) (hj : j < vN V) : mcI l G yX7_nodeFact cX7_nodeFact 4 .int 4 [.ref (mA G 0), .int (nI j), .int 8] M g (fun r M' g' => r = nodeF V j 8 ∧ M' = M ∧ g' = g) := by
  refine mcI_of (L0 := [(0, .ref (mA G 0)), (1, .int (nI j)), (2, .int 8)]) hG (by decide) (Nat.le_of_ble_eq_true rfl) rfl ?_
  intro p e s m args below meth c Q C hend
  obtain ⟨hn1, hn16, hb4, ⟨hd0, hd3, hd5, hd6⟩, hpar⟩ := id hT
  refine r_aload_n C dX7_nodeFact_0 0 rfl ?_
  refine r_getr (q2 := 1) C dX7_nodeFact_1 0 f_X7_10 rfl rfl ?_
  refine r_getr (q2 := 2) C dX7_nodeFact_4 0 f_X7_72 rfl rfl ?_
  refine r_astore_n (L' := [(3, .ref (mA G 2)), (0, .ref (mA G 0)), (1, .int (nI j)), (2, .int 8)]) C dX7_nodeFact_7 (by decide) rfl ?_
  refine r_iload_n C dX7_nodeFact_8 3 rfl ?_
  refine r_tableIn (off := 121) (tgt := 130) C dX7_nodeFact_9 (by decide) (by decide) (by decide) (by decide) ?_
  refine r_iload_n C dX7_nodeFact_130 2 rfl ?_
  refine r_if_ne (tgt := 138) C dX7_nodeFact_131 (by decide) (fun c131 => ?_) (fun c131 => ?_)
  ·
    have hj0 : ¬ j = 0 := fun z => c131 (by rw [z]; rfl)
    refine r_aload_n C dX7_nodeFact_138 1 rfl ?_
    refine r_getr (q2 := 75) C dX7_nodeFact_139 3 f_X7_33 rfl rfl ?_
    refine r_aload_n C dX7_nodeFact_142 0 rfl ?_
    refine r_iload_n C dX7_nodeFact_143 2 rfl ?_
    refine r_callVI (As := [.ref (mA G 2), .int (nI j)]) (rest := []) C dX7_nodeFact_144 s_X7_281 (c_X2_returnOf l G hG M g V hT hC.net 75 isHour_75 (by decide) j hj) (by decide) rfl rfl rfl rfl (Nat.le_of_ble_eq_true rfl) (Nat.le_of_ble_eq_true rfl) (Nat.le_of_ble_eq_true rfl) (pk_I ?_)
    refine r_valI (y := rF V (vSup V) j) (congrArg (minI (vD V 4 j)) (hC.wm hj)) ?_
    exact hend _ _ _ _ _ dX7_nodeFact_147 (rfl) (⟨(if_neg hj0).symm, rfl, rfl⟩)
  ·
    have hj0 : j = 0 := (nI_eq (b := 0) (by omega) (by decide)).mp c131
    refine r_iconst (v := (-1)) C dX7_nodeFact_134 rfl ?_
    refine r_goto (tgt := 147) C dX7_nodeFact_135 (by decide) ?_
    exact hend _ _ _ _ _ dX7_nodeFact_147 (rfl) (⟨(if_pos hj0).symm, rfl, rfl⟩)

set_option maxRecDepth 20000 in
set_option maxHeartbeats 1000000 in
theorem c_X7_nodeFact_9 (l : Launch) (G : mG) (hG : mInj G) (M : Mem) (g : Glo) (V : View) (hT : wfT V) (hC : cOK M V) (j : Nat) (hj : j < vN V) : mcI l G yX7_nodeFact cX7_nodeFact 4 .int 4 [.ref (mA G 0), .int (nI j), .int 9] M g (fun r M' g' => r = nodeF V j 9 ∧ M' = M ∧ g' = g) := by
  refine mcI_of (L0 := [(0, .ref (mA G 0)), (1, .int (nI j)), (2, .int 9)]) hG (by decide) (Nat.le_of_ble_eq_true rfl) rfl ?_
  intro p e s m args below meth c Q C hend
  obtain ⟨hn1, hn16, hb4, ⟨hd0, hd3, hd5, hd6⟩, hpar⟩ := id hT
  refine r_aload_n C dX7_nodeFact_0 0 rfl ?_
  refine r_getr (q2 := 1) C dX7_nodeFact_1 0 f_X7_10 rfl rfl ?_
  refine r_getr (q2 := 2) C dX7_nodeFact_4 0 f_X7_72 rfl rfl ?_
  refine r_astore_n (L' := [(3, .ref (mA G 2)), (0, .ref (mA G 0)), (1, .int (nI j)), (2, .int 9)]) C dX7_nodeFact_7 (by decide) rfl ?_
  refine r_iload_n C dX7_nodeFact_8 3 rfl ?_
  refine r_tableIn (off := 139) (tgt := 148) C dX7_nodeFact_9 (by decide) (by decide) (by decide) (by decide) ?_
  refine r_aload_n C dX7_nodeFact_148 0 rfl ?_
  refine r_iload_n C dX7_nodeFact_149 2 rfl ?_
  refine r_callVI (As := [.int (nI j)]) (rest := []) C dX7_nodeFact_150 s_X7_285 (c_X3_childrenOf l G hG M g V hT hC.net j hj) (by decide) rfl rfl rfl rfl (Nat.le_of_ble_eq_true rfl) (Nat.le_of_ble_eq_true rfl) (Nat.le_of_ble_eq_true rfl) (pk_I ?_)
  exact hend _ _ _ _ _ dX7_nodeFact_153 (rfl) (⟨rfl, rfl, rfl⟩)

set_option maxRecDepth 20000 in
set_option maxHeartbeats 1000000 in
theorem c_X7_nodeFact_10 (l : Launch) (G : mG) (hG : mInj G) (M : Mem) (g : Glo) (V : View) (hT : wfT V) (hC : cOK M V) (j : Nat) (hj : j < vN V) : mcI l G yX7_nodeFact cX7_nodeFact 4 .int 4 [.ref (mA G 0), .int (nI j), .int 10] M g (fun r M' g' => r = nodeF V j 10 ∧ M' = M ∧ g' = g) := by
  refine mcI_of (L0 := [(0, .ref (mA G 0)), (1, .int (nI j)), (2, .int 10)]) hG (by decide) (Nat.le_of_ble_eq_true rfl) rfl ?_
  intro p e s m args below meth c Q C hend
  obtain ⟨hn1, hn16, hb4, ⟨hd0, hd3, hd5, hd6⟩, hpar⟩ := id hT
  refine r_aload_n C dX7_nodeFact_0 0 rfl ?_
  refine r_getr (q2 := 1) C dX7_nodeFact_1 0 f_X7_10 rfl rfl ?_
  refine r_getr (q2 := 2) C dX7_nodeFact_4 0 f_X7_72 rfl rfl ?_
  refine r_astore_n (L' := [(3, .ref (mA G 2)), (0, .ref (mA G 0)), (1, .int (nI j)), (2, .int 10)]) C dX7_nodeFact_7 (by decide) rfl ?_
  refine r_iload_n C dX7_nodeFact_8 3 rfl ?_
  refine r_tableIn (off := 145) (tgt := 154) C dX7_nodeFact_9 (by decide) (by decide) (by decide) (by decide) ?_
  refine r_aload_n C dX7_nodeFact_154 0 rfl ?_
  refine r_iload_n C dX7_nodeFact_155 2 rfl ?_
  refine r_callVI (As := [.int (nI j)]) (rest := []) C dX7_nodeFact_156 s_X7_288 (c_X3_branchOf l G hG M g V hT hC.net j hj) (by decide) rfl rfl rfl rfl (Nat.le_of_ble_eq_true rfl) (Nat.le_of_ble_eq_true rfl) (Nat.le_of_ble_eq_true rfl) (pk_I ?_)
  exact hend _ _ _ _ _ dX7_nodeFact_159 (rfl) (⟨rfl, rfl, rfl⟩)

set_option maxRecDepth 20000 in
set_option maxHeartbeats 1000000 in
theorem c_X7_nodeFact_11 (l : Launch) (G : mG) (hG : mInj G) (M : Mem) (g : Glo) (V : View) (hT : wfT V) (hC : cOK M V) (j : Nat) (hj : j < vN V) : mcI l G yX7_nodeFact cX7_nodeFact 4 .int 4 [.ref (mA G 0), .int (nI j), .int 11] M g (fun r M' g' => r = nodeF V j 11 ∧ M' = M ∧ g' = g) := by
  refine mcI_of (L0 := [(0, .ref (mA G 0)), (1, .int (nI j)), (2, .int 11)]) hG (by decide) (Nat.le_of_ble_eq_true rfl) rfl ?_
  intro p e s m args below meth c Q C hend
  obtain ⟨hn1, hn16, hb4, ⟨hd0, hd3, hd5, hd6⟩, hpar⟩ := id hT
  refine r_aload_n C dX7_nodeFact_0 0 rfl ?_
  refine r_getr (q2 := 1) C dX7_nodeFact_1 0 f_X7_10 rfl rfl ?_
  refine r_getr (q2 := 2) C dX7_nodeFact_4 0 f_X7_72 rfl rfl ?_
  refine r_astore_n (L' := [(3, .ref (mA G 2)), (0, .ref (mA G 0)), (1, .int (nI j)), (2, .int 11)]) C dX7_nodeFact_7 (by decide) rfl ?_
  refine r_iload_n C dX7_nodeFact_8 3 rfl ?_
  refine r_tableOut (tgt := 160) C dX7_nodeFact_9 (Or.inr (by decide)) (by decide) ?_
  refine r_aload_n C dX7_nodeFact_160 0 rfl ?_
  refine r_getr (q2 := 10) C dX7_nodeFact_161 7 f_X7_163 rfl rfl ?_
  refine r_iload_n C dX7_nodeFact_164 2 rfl ?_
  refine r_ialdN (j := j) (v := vD V 7 j) C dX7_nodeFact_165 rfl (rfl) (by omega) (by decide) (hC.net.at 7 (by decide) hj) ?_
  exact hend _ _ _ _ _ dX7_nodeFact_166 (rfl) (⟨rfl, rfl, rfl⟩)

theorem c_X7_nodeFact (l : Launch) (G : mG) (hG : mInj G) (M : Mem) (g : Glo) (V : View) (hT : wfT V) (hC : cOK M V) (j : Nat) (hj : j < vN V) (w : Nat) (hw : w < 12) : mcI l G yX7_nodeFact cX7_nodeFact 4 .int 4 [.ref (mA G 0), .int (nI j), .int (nI w)] M g (fun r M' g' => r = nodeF V j w ∧ M' = M ∧ g' = g) := by
  obtain rfl | rfl | rfl | rfl | rfl | rfl | rfl | rfl | rfl | rfl | rfl | rfl : w = 0 ∨ w = 1 ∨ w = 2 ∨ w = 3 ∨ w = 4 ∨ w = 5 ∨ w = 6 ∨ w = 7 ∨ w = 8 ∨ w = 9 ∨ w = 10 ∨ w = 11 := by omega
  · exact c_X7_nodeFact_0 l G hG M g V hT hC j hj
  · exact c_X7_nodeFact_1 l G hG M g V hT hC j hj
  · exact c_X7_nodeFact_2 l G hG M g V hT hC j hj
  · exact c_X7_nodeFact_3 l G hG M g V hT hC j hj
  · exact c_X7_nodeFact_4 l G hG M g V hT hC j hj
  · exact c_X7_nodeFact_5 l G hG M g V hT hC j hj
  · exact c_X7_nodeFact_6 l G hG M g V hT hC j hj
  · exact c_X7_nodeFact_7 l G hG M g V hT hC j hj
  · exact c_X7_nodeFact_8 l G hG M g V hT hC j hj
  · exact c_X7_nodeFact_9 l G hG M g V hT hC j hj
  · exact c_X7_nodeFact_10 l G hG M g V hT hC j hj
  · exact c_X7_nodeFact_11 l G hG M g V hT hC j hj

set_option maxRecDepth 20000 in
set_option maxHeartbeats 1000000 in
theorem c_X7_node (l : Launch) (G : mG) (hG : mInj G) (M : Mem) (g : Glo) (hfl : l.stackTraces = false) (V : View) (Hs : List View) (len : Nat) (T : Nat → Int32) (hI : cINV M V Hs len T) (n w : Int32) : mcXI l G yX7_node cX7_node 3 7 2 12 [.ref (mA G 0), .int n, .int w] M g (fun r M' g' => (eNode V n w = 0 ∧ r = nodeF V n.toNatClampNeg w.toNatClampNeg) ∧ M' = M ∧ g' = g) (fun E => (E = IOO ∧ eNode V n w = 1) ∨ (E = IAE ∧ eNode V n w = 2)) := by
  refine mcXI_of (L0 := [(0, .ref (mA G 0)), (1, .int n), (2, .int w)]) hG (by decide) (Nat.le_of_ble_eq_true rfl) rfl ?_
  intro p e s m args below meth c Q C hno hend hqw hqx
  obtain ⟨hC, hW, hH, hHs, hTx, hP0⟩ := id hI
  have hT := hW.1
  obtain ⟨hn1, hn16, hb4, ⟨hd0, hd3, hd5, hd6⟩, hpar⟩ := id hT
  refine r_aload_n C dX7_node_0 0 rfl ?_
  refine r_iload_n C dX7_node_1 1 rfl ?_
  refine r_xVV (As := [.int n]) (rest := []) C dX7_node_2 s_X7_64 (c_X7_requireNode l G hG M g hfl V hn16 hC.net.1 n) (by decide) rfl rfl rfl rfl (Nat.le_of_ble_eq_true rfl) (Nat.le_of_ble_eq_true rfl) (Nat.le_of_ble_eq_true rfl) (fun E9 hE9 => r_outX hno hqx (Or.inl (⟨hE9.1, if_pos hE9.2⟩)) (Nat.le_of_ble_eq_true rfl) (Nat.le_of_ble_eq_true rfl)) (pk_VC (fun hc2 => ?_))
  obtain ⟨j, hj, hnj⟩ := isNd_nI (by omega) hc2
  have e9 : n.toNatClampNeg = j := by rw [hnj]; exact nI_clamp (by omega)
  refine r_iload_n C dX7_node_5 2 rfl ?_
  refine r_iconst (v := 0) C dX7_node_6 rfl ?_
  refine r_bipush (v := 11) C dX7_node_7 rfl ?_
  refine r_xSV (As := [.int w, .int 0, .int 11]) (rest := []) C dX7_node_9 s_X7_68 (c_X7_requireWithin l G hG M g hfl w 0 11) (by decide) rfl rfl (Nat.le_of_ble_eq_true rfl) (Nat.le_of_ble_eq_true rfl) (Nat.le_of_ble_eq_true rfl) (fun E9 hE9 => r_outX hno hqx (Or.inr (⟨hE9.1, (if_neg (not_of hc2)).trans (if_pos hE9.2)⟩)) (Nat.le_of_ble_eq_true rfl) (Nat.le_of_ble_eq_true rfl)) (pk_VC (fun hc9 => ?_))
  obtain ⟨k, hk, hwk⟩ := nI_of2 (x := w) (M := 11) (n := 11) (by decide) (i32_nlt.mpr hc9.1) hc9.2
  have e8 : w.toNatClampNeg = k := by rw [hwk]; exact nI_clamp (by omega)
  refine r_aload_n C dX7_node_12 0 rfl ?_
  refine r_iload_n C dX7_node_13 1 rfl ?_
  refine r_valI (y := nI j) (hnj) ?_
  refine r_iload_n C dX7_node_14 2 rfl ?_
  refine r_valI (y := nI k) (hwk) ?_
  refine r_callVI (As := [.int (nI j), .int (nI k)]) (rest := []) C dX7_node_15 s_X7_112 (c_X7_nodeFact l G hG M g V hT hC j hj k (by omega)) (by decide) rfl rfl rfl rfl (Nat.le_of_ble_eq_true rfl) (Nat.le_of_ble_eq_true rfl) (Nat.le_of_ble_eq_true rfl) (pk_I ?_)
  exact hend _ _ _ _ _ _ _ (Nat.le_of_ble_eq_true rfl) (Nat.le_of_ble_eq_true rfl) dX7_node_18 (by rw [e9, e8]; exact ⟨⟨(if_neg (not_of hc2)).trans (if_neg (not_of hc9)), rfl⟩, rfl, rfl⟩)

set_option maxRecDepth 20000 in
set_option maxHeartbeats 1000000 in
theorem c_X7_fold (l : Launch) (G : mG) (hG : mInj G) (M : Mem) (g : Glo) (a b : Int64) : mcL l G yX7_fold cX7_fold 4 1 [.long a, .long b] M g (fun r M' g' => r = foldF a b ∧ M' = M ∧ g' = g) := by
  refine mcL_of (L0 := [(0, .long a), (2, .long b)]) hG (by decide) (Nat.le_of_ble_eq_true rfl) rfl ?_
  intro p e s m args below meth c Q C hend
  refine r_ldc2 (v := 31) C dX7_fold_0 (gd_t 500 (by decide +kernel) rfl) ?_
  refine r_lload_n C dX7_fold_3 0 rfl ?_
  refine r_lmul C dX7_fold_4 ?_
  refine r_lload_n C dX7_fold_5 1 rfl ?_
  refine r_ladd C dX7_fold_6 ?_
  exact hend _ _ _ _ _ dX7_fold_7 (⟨rfl, rfl, rfl⟩)

set_option maxRecDepth 20000 in
set_option maxHeartbeats 1000000 in
theorem c_X7_foldNodes (l : Launch) (G : mG) (hG : mInj G) (M : Mem) (g : Glo) (V : View) (hT : wfT V) (hC : cOK M V) (h0 : Int64) : mcL l G yX7_foldNodes cX7_foldNodes 7 5 [.ref (mA G 0), .long h0] M g (fun r M' g' => r = fNod V (vN V) h0 ∧ M' = M ∧ g' = g) := by
  refine mcL_of (L0 := [(0, .ref (mA G 0)), (1, .long h0)]) hG (by decide) (Nat.le_of_ble_eq_true rfl) rfl ?_
  intro p e s m args below meth c Q C hend
  obtain ⟨hn1, hn16, hb4, ⟨hd0, hd3, hd5, hd6⟩, hpar⟩ := id hT
  refine r_lload_n C dX7_foldNodes_0 1 rfl ?_
  refine r_lstore_n (L' := [(3, .long h0), (0, .ref (mA G 0)), (1, .long h0)]) C dX7_foldNodes_1 (by decide) rfl ?_
  refine r_iconst (v := nI 0) C dX7_foldNodes_2 rfl ?_
  refine r_istore (L' := [(5, .int (nI 0)), (3, .long h0), (0, .ref (mA G 0)), (1, .long h0)]) C dX7_foldNodes_3 (by decide) rfl ?_
  have lp5 : ∀ (fu : Nat) (k : Nat) (x : Int64), (k ≤ vN V) → (x = fNod V k h0) → (vN V - k) < fu → At p l e (rmD 5 0 0) s m args below meth c G 7 0 0 Q M g [(5, .int (nI k)), (3, .long x), (0, .ref (mA G 0)), (1, .long h0)] 5 [] := by
    intro fu
    induction fu with
    | zero => intro k x hkn hx hfu; exact absurd hfu (Nat.not_lt_zero _)
    | succ fu ih5 =>
      intro k x hkn hx hfu5
      refine r_iload C dX7_foldNodes_5 0 rfl ?_
      refine r_aload_n C dX7_foldNodes_7 2 rfl ?_
      refine r_getr (q2 := 1) C dX7_foldNodes_8 0 f_X7_10 rfl rfl ?_
      refine r_getr (q2 := 2) C dX7_foldNodes_11 0 f_X7_72 rfl rfl ?_
      refine r_geti C dX7_foldNodes_14 8 f_X7_75 rfl rfl ?_
      refine r_valI (y := nI (vN V)) (hC.net.1) ?_
      refine r_icmp_ge (tgt := 101) C dX7_foldNodes_17 (by decide) (fun c17 => ?_) (fun c17 => ?_)
      ·
        have hkn2 : k = vN V := by have := le_of_le (by omega) (by omega) c17; omega
        refine r_lload_n C dX7_foldNodes_101 1 rfl ?_
        exact hend _ _ _ _ _ dX7_foldNodes_102 (⟨by rw [hx, hkn2], rfl, rfl⟩)
      ·
        have hlt : k < vN V := lt_of_nle (by omega) c17
        refine r_iconst (v := nI 0) C dX7_foldNodes_20 rfl ?_
        refine r_istore (L' := [(6, .int (nI 0)), (5, .int (nI k)), (3, .long x), (0, .ref (mA G 0)), (1, .long h0)]) C dX7_foldNodes_21 (by decide) rfl ?_
        have lp23 : ∀ (fu : Nat) (w : Nat) (y : Int64), (w ≤ 12) → (y = foldA (nodeF V k) w x) → (12 - w) < fu → At p l e (rmD 5 0 0) s m args below meth c G 7 0 0 Q M g [(6, .int (nI w)), (3, .long y), (5, .int (nI k)), (0, .ref (mA G 0)), (1, .long h0)] 23 [] := by
          intro fu
          induction fu with
          | zero => intro w y hw hy hfu; exact absurd hfu (Nat.not_lt_zero _)
          | succ fu ih23 =>
            intro w y hw hy hfu23
            refine r_iload C dX7_foldNodes_23 0 rfl ?_
            refine r_bipush (v := 11) C dX7_foldNodes_25 rfl ?_
            refine r_icmp_gt (tgt := 50) C dX7_foldNodes_27 (by decide) (fun c27 => ?_) (fun c27 => ?_)
            ·
              have hw2 : w = 12 := by have := (nI_ltI (a := 11) (b := w) (by decide) (by omega)).mp c27; omega
              refine r_lload_n C dX7_foldNodes_50 1 rfl ?_
              refine r_aload_n C dX7_foldNodes_51 3 rfl ?_
              refine r_getr (q2 := 80) C dX7_foldNodes_52 4 f_X7_40 rfl rfl ?_
              refine r_iload C dX7_foldNodes_55 2 rfl ?_
              refine r_callVI (As := [.int (nI k)]) (rest := [.long y]) C dX7_foldNodes_57 s_X7_180 (c_X5_balanceAt l G hG M g 80 isRegs_80 (by decide) k (by omega)) (by decide) rfl rfl rfl rfl (Nat.le_of_ble_eq_true rfl) (Nat.le_of_ble_eq_true rfl) (Nat.le_of_ble_eq_true rfl) (pk_I ?_)
              refine r_valI (y := balF (vD V 6) (lkF V (vD V 6)) k) (rg_bal hC.2.2 hlt) ?_
              refine r_i2l C dX7_foldNodes_60 ?_
              refine r_callSL (As := [.long y, .long ((balF (vD V 6) (lkF V (vD V 6)) k).toInt64)]) (rest := []) C dX7_foldNodes_61 s_X7_242 (c_X7_fold l G hG M g y ((balF (vD V 6) (lkF V (vD V 6)) k).toInt64)) (by decide) rfl rfl (Nat.le_of_ble_eq_true rfl) (Nat.le_of_ble_eq_true rfl) (Nat.le_of_ble_eq_true rfl) (pk_L ?_)
              refine r_lstore_n (L' := [(3, .long (foldF y ((balF (vD V 6) (lkF V (vD V 6)) k).toInt64))), (6, .int (nI w)), (5, .int (nI k)), (0, .ref (mA G 0)), (1, .long h0)]) C dX7_foldNodes_64 (by decide) rfl ?_
              refine r_lload_n C dX7_foldNodes_65 0 rfl ?_
              refine r_aload_n C dX7_foldNodes_66 3 rfl ?_
              refine r_getr (q2 := 80) C dX7_foldNodes_67 4 f_X7_40 rfl rfl ?_
              refine r_iload C dX7_foldNodes_70 2 rfl ?_
              refine r_callVI (As := [.int (nI k)]) (rest := [.long (foldF y ((balF (vD V 6) (lkF V (vD V 6)) k).toInt64))]) C dX7_foldNodes_72 s_X7_183 (c_X5_sizeAt l G hG M g 80 isRegs_80 (by decide) k (by omega)) (by decide) rfl rfl rfl rfl (Nat.le_of_ble_eq_true rfl) (Nat.le_of_ble_eq_true rfl) (Nat.le_of_ble_eq_true rfl) (pk_I ?_)
              refine r_valI (y := balF (vD V 6) (szF V (vD V 6)) k) (rg_siz hC.2.2 hlt) ?_
              refine r_i2l C dX7_foldNodes_75 ?_
              refine r_callSL (As := [.long (foldF y ((balF (vD V 6) (lkF V (vD V 6)) k).toInt64)), .long ((balF (vD V 6) (szF V (vD V 6)) k).toInt64)]) (rest := []) C dX7_foldNodes_76 s_X7_242 (c_X7_fold l G hG M g (foldF y (balF (vD V 6) (lkF V (vD V 6)) k).toInt64) ((balF (vD V 6) (szF V (vD V 6)) k).toInt64)) (by decide) rfl rfl (Nat.le_of_ble_eq_true rfl) (Nat.le_of_ble_eq_true rfl) (Nat.le_of_ble_eq_true rfl) (pk_L ?_)
              refine r_lstore_n (L' := [(3, .long (foldF (foldF y (balF (vD V 6) (lkF V (vD V 6)) k).toInt64) ((balF (vD V 6) (szF V (vD V 6)) k).toInt64))), (6, .int (nI w)), (5, .int (nI k)), (0, .ref (mA G 0)), (1, .long h0)]) C dX7_foldNodes_79 (by decide) rfl ?_
              refine r_lload_n C dX7_foldNodes_80 0 rfl ?_
              refine r_aload_n C dX7_foldNodes_81 3 rfl ?_
              refine r_getr (q2 := 80) C dX7_foldNodes_82 4 f_X7_40 rfl rfl ?_
              refine r_iload C dX7_foldNodes_85 2 rfl ?_
              refine r_callVI (As := [.int (nI k)]) (rest := [.long (foldF (foldF y (balF (vD V 6) (lkF V (vD V 6)) k).toInt64) ((balF (vD V 6) (szF V (vD V 6)) k).toInt64))]) C dX7_foldNodes_87 s_X7_189 (c_X5_nextPlace l G hG M g 80 isRegs_80 (by decide) (vN V) k hn1 hn16 hlt hC.2.2.1 (hdF V (vD V 6)) (rg_hd hT hC.2.2)) (by decide) rfl rfl rfl rfl (Nat.le_of_ble_eq_true rfl) (Nat.le_of_ble_eq_true rfl) (Nat.le_of_ble_eq_true rfl) (pk_I ?_)
              refine r_valI (y := nextF V (vD V 6) k) (rg_next hC.2.2 hlt) ?_
              refine r_i2l C dX7_foldNodes_90 ?_
              refine r_callSL (As := [.long (foldF (foldF y (balF (vD V 6) (lkF V (vD V 6)) k).toInt64) ((balF (vD V 6) (szF V (vD V 6)) k).toInt64)), .long ((nextF V (vD V 6) k).toInt64)]) (rest := []) C dX7_foldNodes_91 s_X7_242 (c_X7_fold l G hG M g (foldF (foldF y (balF (vD V 6) (lkF V (vD V 6)) k).toInt64) (balF (vD V 6) (szF V (vD V 6)) k).toInt64) ((nextF V (vD V 6) k).toInt64)) (by decide) rfl rfl (Nat.le_of_ble_eq_true rfl) (Nat.le_of_ble_eq_true rfl) (Nat.le_of_ble_eq_true rfl) (pk_L ?_)
              refine r_lstore_n (L' := [(3, .long (foldF (foldF (foldF y (balF (vD V 6) (lkF V (vD V 6)) k).toInt64) (balF (vD V 6) (szF V (vD V 6)) k).toInt64) ((nextF V (vD V 6) k).toInt64))), (6, .int (nI w)), (5, .int (nI k)), (0, .ref (mA G 0)), (1, .long h0)]) C dX7_foldNodes_94 (by decide) rfl ?_
              refine r_iinc (v := nI (k + 1)) (L' := [(5, .int (nI (k + 1))), (3, .long (foldF (foldF (foldF y (balF (vD V 6) (lkF V (vD V 6)) k).toInt64) (balF (vD V 6) (szF V (vD V 6)) k).toInt64) ((nextF V (vD V 6) k).toInt64))), (6, .int (nI w)), (0, .ref (mA G 0)), (1, .long h0)]) C dX7_foldNodes_95 2 rfl (nI_inc _) (by decide) rfl ?_
              refine r_goto (tgt := 5) C dX7_foldNodes_98 (by decide) ?_
              refine r_sub (L' := [(5, .int (nI (k + 1))), (3, .long (foldF (foldF (foldF y (balF (vD V 6) (lkF V (vD V 6)) k).toInt64) (balF (vD V 6) (szF V (vD V 6)) k).toInt64) ((nextF V (vD V 6) k).toInt64))), (0, .ref (mA G 0)), (1, .long h0)]) [0, 1, 3, 4] rfl ?_
              exact ih5 (k + 1) _ (by omega) (by rw [hy, hw2, hx]; rfl) (by omega)
            ·
              have hwl : w < 12 := by rcases Nat.lt_or_ge w 12 with q | q; exact q; exact absurd ((nI_ltI (a := 11) (b := w) (by decide) (by omega)).mpr (by omega)) c27
              refine r_lload_n C dX7_foldNodes_30 1 rfl ?_
              refine r_aload_n C dX7_foldNodes_31 3 rfl ?_
              refine r_iload C dX7_foldNodes_32 2 rfl ?_
              refine r_iload C dX7_foldNodes_34 0 rfl ?_
              refine r_callVI (As := [.int (nI k), .int (nI w)]) (rest := [.long y]) C dX7_foldNodes_36 s_X7_112 (c_X7_nodeFact l G hG M g V hT hC k hlt w hwl) (by decide) rfl rfl rfl rfl (Nat.le_of_ble_eq_true rfl) (Nat.le_of_ble_eq_true rfl) (Nat.le_of_ble_eq_true rfl) (pk_I ?_)
              refine r_i2l C dX7_foldNodes_39 ?_
              refine r_callSL (As := [.long y, .long ((nodeF V k w).toInt64)]) (rest := []) C dX7_foldNodes_40 s_X7_242 (c_X7_fold l G hG M g y ((nodeF V k w).toInt64)) (by decide) rfl rfl (Nat.le_of_ble_eq_true rfl) (Nat.le_of_ble_eq_true rfl) (Nat.le_of_ble_eq_true rfl) (pk_L ?_)
              refine r_lstore_n (L' := [(3, .long (foldF y ((nodeF V k w).toInt64))), (6, .int (nI w)), (5, .int (nI k)), (0, .ref (mA G 0)), (1, .long h0)]) C dX7_foldNodes_43 (by decide) rfl ?_
              refine r_iinc (v := nI (w + 1)) (L' := [(6, .int (nI (w + 1))), (3, .long (foldF y ((nodeF V k w).toInt64))), (5, .int (nI k)), (0, .ref (mA G 0)), (1, .long h0)]) C dX7_foldNodes_44 1 rfl (nI_inc _) (by decide) rfl ?_
              refine r_goto (tgt := 23) C dX7_foldNodes_47 (by decide) ?_
              refine r_sub (L' := [(6, .int (nI (w + 1))), (3, .long (foldF y ((nodeF V k w).toInt64))), (5, .int (nI k)), (0, .ref (mA G 0)), (1, .long h0)]) [0, 1, 2, 3, 4] rfl ?_
              exact ih23 (w + 1) _ (by omega) (by rw [hy]; rfl) (by omega)
        refine r_sub (L' := [(6, .int (nI 0)), (3, .long x), (5, .int (nI k)), (0, .ref (mA G 0)), (1, .long h0)]) [0, 2, 1, 3, 4] rfl ?_
        exact lp23 _ 0 x (by omega) rfl (Nat.lt_succ_self _)
  refine r_sub (L' := [(5, .int (nI 0)), (3, .long h0), (0, .ref (mA G 0)), (1, .long h0)]) [0, 1, 2, 3] rfl ?_
  exact lp5 _ 0 h0 (by omega) rfl (Nat.lt_succ_self _)

set_option maxRecDepth 20000 in
set_option maxHeartbeats 1000000 in
theorem c_X7_foldHeats (l : Launch) (G : mG) (hG : mInj G) (M : Mem) (g : Glo) (V : View) (hT : wfT V) (hC : cOK M V) (h0 : Int64) : mcL l G yX7_foldHeats cX7_foldHeats 7 5 [.ref (mA G 0), .long h0] M g (fun r M' g' => r = fHea V (vN V) h0 ∧ M' = M ∧ g' = g) := by
  refine mcL_of (L0 := [(0, .ref (mA G 0)), (1, .long h0)]) hG (by decide) (Nat.le_of_ble_eq_true rfl) rfl ?_
  intro p e s m args below meth c Q C hend
  obtain ⟨hn1, hn16, hb4, ⟨hd0, hd3, hd5, hd6⟩, hpar⟩ := id hT
  refine r_lload_n C dX7_foldHeats_0 1 rfl ?_
  refine r_lstore_n (L' := [(3, .long h0), (0, .ref (mA G 0)), (1, .long h0)]) C dX7_foldHeats_1 (by decide) rfl ?_
  refine r_iconst (v := nI 1) C dX7_foldHeats_2 rfl ?_
  refine r_istore (L' := [(5, .int (nI 1)), (3, .long h0), (0, .ref (mA G 0)), (1, .long h0)]) C dX7_foldHeats_3 (by decide) rfl ?_
  have lp5 : ∀ (fu : Nat) (k : Nat) (x : Int64), (0 < k) → (k ≤ vN V) → (x = fHea V k h0) → (vN V - k) < fu → At p l e (rmD 5 0 0) s m args below meth c G 7 0 0 Q M g [(5, .int (nI k)), (3, .long x), (0, .ref (mA G 0)), (1, .long h0)] 5 [] := by
    intro fu
    induction fu with
    | zero => intro k x hk0 hkn hx hfu; exact absurd hfu (Nat.not_lt_zero _)
    | succ fu ih5 =>
      intro k x hk0 hkn hx hfu5
      refine r_iload C dX7_foldHeats_5 0 rfl ?_
      refine r_aload_n C dX7_foldHeats_7 2 rfl ?_
      refine r_getr (q2 := 1) C dX7_foldHeats_8 0 f_X7_10 rfl rfl ?_
      refine r_getr (q2 := 2) C dX7_foldHeats_11 0 f_X7_72 rfl rfl ?_
      refine r_geti C dX7_foldHeats_14 8 f_X7_75 rfl rfl ?_
      refine r_valI (y := nI (vN V)) (hC.net.1) ?_
      refine r_icmp_ge (tgt := 55) C dX7_foldHeats_17 (by decide) (fun c17 => ?_) (fun c17 => ?_)
      ·
        have hkn2 : k = vN V := by have := le_of_le (by omega) (by omega) c17; omega
        refine r_lload_n C dX7_foldHeats_55 1 rfl ?_
        exact hend _ _ _ _ _ dX7_foldHeats_56 (⟨by rw [hx, hkn2], rfl, rfl⟩)
      ·
        have hlt : k < vN V := lt_of_nle (by omega) c17
        refine r_iconst (v := nI 0) C dX7_foldHeats_20 rfl ?_
        refine r_istore (L' := [(6, .int (nI 0)), (5, .int (nI k)), (3, .long x), (0, .ref (mA G 0)), (1, .long h0)]) C dX7_foldHeats_21 (by decide) rfl ?_
        have lp23 : ∀ (fu : Nat) (w : Nat) (y : Int64), (w ≤ 6) → (y = foldA (heatF V k) w x) → (6 - w) < fu → At p l e (rmD 5 0 0) s m args below meth c G 7 0 0 Q M g [(6, .int (nI w)), (3, .long y), (5, .int (nI k)), (0, .ref (mA G 0)), (1, .long h0)] 23 [] := by
          intro fu
          induction fu with
          | zero => intro w y hw hy hfu; exact absurd hfu (Nat.not_lt_zero _)
          | succ fu ih23 =>
            intro w y hw hy hfu23
            refine r_iload C dX7_foldHeats_23 0 rfl ?_
            refine r_iconst (v := 5) C dX7_foldHeats_25 rfl ?_
            refine r_icmp_gt (tgt := 49) C dX7_foldHeats_26 (by decide) (fun c26 => ?_) (fun c26 => ?_)
            ·
              have hw2 : w = 6 := by have := (nI_ltI (a := 5) (b := w) (by decide) (by omega)).mp c26; omega
              refine r_iinc (v := nI (k + 1)) (L' := [(5, .int (nI (k + 1))), (6, .int (nI w)), (3, .long y), (0, .ref (mA G 0)), (1, .long h0)]) C dX7_foldHeats_49 2 rfl (nI_inc _) (by decide) rfl ?_
              refine r_goto (tgt := 5) C dX7_foldHeats_52 (by decide) ?_
              refine r_sub (L' := [(5, .int (nI (k + 1))), (3, .long y), (0, .ref (mA G 0)), (1, .long h0)]) [0, 2, 3, 4] rfl ?_
              exact ih5 (k + 1) _ (by omega) (by omega) (by rw [hy, hw2, hx]; exact (if_neg (by omega)).symm) (by omega)
            ·
              have hwl : w < 6 := by rcases Nat.lt_or_ge w 6 with q | q; exact q; exact absurd ((nI_ltI (a := 5) (b := w) (by decide) (by omega)).mpr (by omega)) c26
              refine r_lload_n C dX7_foldHeats_29 1 rfl ?_
              refine r_aload_n C dX7_foldHeats_30 3 rfl ?_
              refine r_iload C dX7_foldHeats_31 2 rfl ?_
              refine r_iload C dX7_foldHeats_33 0 rfl ?_
              refine r_callVI (As := [.int (nI k), .int (nI w)]) (rest := [.long y]) C dX7_foldHeats_35 s_X7_116 (c_X7_heatOf l G hG M g V hT hC k hk0 hlt w (by omega)) (by decide) rfl rfl rfl rfl (Nat.le_of_ble_eq_true rfl) (Nat.le_of_ble_eq_true rfl) (Nat.le_of_ble_eq_true rfl) (pk_I ?_)
              refine r_i2l C dX7_foldHeats_38 ?_
              refine r_callSL (As := [.long y, .long ((heatF V k w).toInt64)]) (rest := []) C dX7_foldHeats_39 s_X7_242 (c_X7_fold l G hG M g y ((heatF V k w).toInt64)) (by decide) rfl rfl (Nat.le_of_ble_eq_true rfl) (Nat.le_of_ble_eq_true rfl) (Nat.le_of_ble_eq_true rfl) (pk_L ?_)
              refine r_lstore_n (L' := [(3, .long (foldF y ((heatF V k w).toInt64))), (6, .int (nI w)), (5, .int (nI k)), (0, .ref (mA G 0)), (1, .long h0)]) C dX7_foldHeats_42 (by decide) rfl ?_
              refine r_iinc (v := nI (w + 1)) (L' := [(6, .int (nI (w + 1))), (3, .long (foldF y ((heatF V k w).toInt64))), (5, .int (nI k)), (0, .ref (mA G 0)), (1, .long h0)]) C dX7_foldHeats_43 1 rfl (nI_inc _) (by decide) rfl ?_
              refine r_goto (tgt := 23) C dX7_foldHeats_46 (by decide) ?_
              refine r_sub (L' := [(6, .int (nI (w + 1))), (3, .long (foldF y ((heatF V k w).toInt64))), (5, .int (nI k)), (0, .ref (mA G 0)), (1, .long h0)]) [0, 1, 2, 3, 4] rfl ?_
              exact ih23 (w + 1) _ (by omega) (by rw [hy]; rfl) (by omega)
        refine r_sub (L' := [(6, .int (nI 0)), (3, .long x), (5, .int (nI k)), (0, .ref (mA G 0)), (1, .long h0)]) [0, 2, 1, 3, 4] rfl ?_
        exact lp23 _ 0 x (by omega) rfl (Nat.lt_succ_self _)
  refine r_sub (L' := [(5, .int (nI 1)), (3, .long h0), (0, .ref (mA G 0)), (1, .long h0)]) [0, 1, 2, 3] rfl ?_
  exact lp5 _ 1 h0 (by omega) (by omega) rfl (Nat.lt_succ_self _)

set_option maxRecDepth 20000 in
set_option maxHeartbeats 1000000 in
theorem c_X7_foldBoilers (l : Launch) (G : mG) (hG : mInj G) (M : Mem) (g : Glo) (V : View) (hT : wfT V) (hC : cOK M V) (h0 : Int64) : mcL l G yX7_foldBoilers cX7_foldBoilers 7 5 [.ref (mA G 0), .long h0] M g (fun r M' g' => r = fBoi V (vB V) h0 ∧ M' = M ∧ g' = g) := by
  refine mcL_of (L0 := [(0, .ref (mA G 0)), (1, .long h0)]) hG (by decide) (Nat.le_of_ble_eq_true rfl) rfl ?_
  intro p e s m args below meth c Q C hend
  obtain ⟨hn1, hn16, hb4, ⟨hd0, hd3, hd5, hd6⟩, hpar⟩ := id hT
  refine r_lload_n C dX7_foldBoilers_0 1 rfl ?_
  refine r_lstore_n (L' := [(3, .long h0), (0, .ref (mA G 0)), (1, .long h0)]) C dX7_foldBoilers_1 (by decide) rfl ?_
  refine r_iconst (v := nI 0) C dX7_foldBoilers_2 rfl ?_
  refine r_istore (L' := [(5, .int (nI 0)), (3, .long h0), (0, .ref (mA G 0)), (1, .long h0)]) C dX7_foldBoilers_3 (by decide) rfl ?_
  have lp5 : ∀ (fu : Nat) (k : Nat) (x : Int64), (k ≤ vB V) → (x = fBoi V k h0) → (vB V - k) < fu → At p l e (rmD 5 0 0) s m args below meth c G 7 0 0 Q M g [(5, .int (nI k)), (3, .long x), (0, .ref (mA G 0)), (1, .long h0)] 5 [] := by
    intro fu
    induction fu with
    | zero => intro k x hkn hx hfu; exact absurd hfu (Nat.not_lt_zero _)
    | succ fu ih5 =>
      intro k x hkn hx hfu5
      refine r_iload C dX7_foldBoilers_5 0 rfl ?_
      refine r_aload_n C dX7_foldBoilers_7 2 rfl ?_
      refine r_getr (q2 := 1) C dX7_foldBoilers_8 0 f_X7_10 rfl rfl ?_
      refine r_getr (q2 := 11) C dX7_foldBoilers_11 1 f_X7_127 rfl rfl ?_
      refine r_geti C dX7_foldBoilers_14 3 f_X7_131 rfl rfl ?_
      refine r_valI (y := nI (vB V)) (hC.boi.1) ?_
      refine r_icmp_ge (tgt := 55) C dX7_foldBoilers_17 (by decide) (fun c17 => ?_) (fun c17 => ?_)
      ·
        have hkn2 : k = vB V := by have := le_of_le (by omega) (by omega) c17; omega
        refine r_lload_n C dX7_foldBoilers_55 1 rfl ?_
        exact hend _ _ _ _ _ dX7_foldBoilers_56 (⟨by rw [hx, hkn2], rfl, rfl⟩)
      ·
        have hlt : k < vB V := lt_of_nle (by omega) c17
        refine r_iconst (v := nI 0) C dX7_foldBoilers_20 rfl ?_
        refine r_istore (L' := [(6, .int (nI 0)), (5, .int (nI k)), (3, .long x), (0, .ref (mA G 0)), (1, .long h0)]) C dX7_foldBoilers_21 (by decide) rfl ?_
        have lp23 : ∀ (fu : Nat) (w : Nat) (y : Int64), (w ≤ 5) → (y = foldA (boiF V k) w x) → (5 - w) < fu → At p l e (rmD 5 0 0) s m args below meth c G 7 0 0 Q M g [(6, .int (nI w)), (3, .long y), (5, .int (nI k)), (0, .ref (mA G 0)), (1, .long h0)] 23 [] := by
          intro fu
          induction fu with
          | zero => intro w y hw hy hfu; exact absurd hfu (Nat.not_lt_zero _)
          | succ fu ih23 =>
            intro w y hw hy hfu23
            refine r_iload C dX7_foldBoilers_23 0 rfl ?_
            refine r_iconst (v := 4) C dX7_foldBoilers_25 rfl ?_
            refine r_icmp_gt (tgt := 49) C dX7_foldBoilers_26 (by decide) (fun c26 => ?_) (fun c26 => ?_)
            ·
              have hw2 : w = 5 := by have := (nI_ltI (a := 4) (b := w) (by decide) (by omega)).mp c26; omega
              refine r_iinc (v := nI (k + 1)) (L' := [(5, .int (nI (k + 1))), (6, .int (nI w)), (3, .long y), (0, .ref (mA G 0)), (1, .long h0)]) C dX7_foldBoilers_49 2 rfl (nI_inc _) (by decide) rfl ?_
              refine r_goto (tgt := 5) C dX7_foldBoilers_52 (by decide) ?_
              refine r_sub (L' := [(5, .int (nI (k + 1))), (3, .long y), (0, .ref (mA G 0)), (1, .long h0)]) [0, 2, 3, 4] rfl ?_
              exact ih5 (k + 1) _ (by omega) (by rw [hy, hw2, hx]; rfl) (by omega)
            ·
              have hwl : w < 5 := by rcases Nat.lt_or_ge w 5 with q | q; exact q; exact absurd ((nI_ltI (a := 4) (b := w) (by decide) (by omega)).mpr (by omega)) c26
              refine r_lload_n C dX7_foldBoilers_29 1 rfl ?_
              refine r_aload_n C dX7_foldBoilers_30 3 rfl ?_
              refine r_iload C dX7_foldBoilers_31 2 rfl ?_
              refine r_iload C dX7_foldBoilers_33 0 rfl ?_
              refine r_callVI (As := [.int (nI k), .int (nI w)]) (rest := [.long y]) C dX7_foldBoilers_35 s_X7_146 (c_X7_boilerFact l G hG M g V hT hC k hlt w hwl) (by decide) rfl rfl rfl rfl (Nat.le_of_ble_eq_true rfl) (Nat.le_of_ble_eq_true rfl) (Nat.le_of_ble_eq_true rfl) (pk_I ?_)
              refine r_i2l C dX7_foldBoilers_38 ?_
              refine r_callSL (As := [.long y, .long ((boiF V k w).toInt64)]) (rest := []) C dX7_foldBoilers_39 s_X7_242 (c_X7_fold l G hG M g y ((boiF V k w).toInt64)) (by decide) rfl rfl (Nat.le_of_ble_eq_true rfl) (Nat.le_of_ble_eq_true rfl) (Nat.le_of_ble_eq_true rfl) (pk_L ?_)
              refine r_lstore_n (L' := [(3, .long (foldF y ((boiF V k w).toInt64))), (6, .int (nI w)), (5, .int (nI k)), (0, .ref (mA G 0)), (1, .long h0)]) C dX7_foldBoilers_42 (by decide) rfl ?_
              refine r_iinc (v := nI (w + 1)) (L' := [(6, .int (nI (w + 1))), (3, .long (foldF y ((boiF V k w).toInt64))), (5, .int (nI k)), (0, .ref (mA G 0)), (1, .long h0)]) C dX7_foldBoilers_43 1 rfl (nI_inc _) (by decide) rfl ?_
              refine r_goto (tgt := 23) C dX7_foldBoilers_46 (by decide) ?_
              refine r_sub (L' := [(6, .int (nI (w + 1))), (3, .long (foldF y ((boiF V k w).toInt64))), (5, .int (nI k)), (0, .ref (mA G 0)), (1, .long h0)]) [0, 1, 2, 3, 4] rfl ?_
              exact ih23 (w + 1) _ (by omega) (by rw [hy]; rfl) (by omega)
        refine r_sub (L' := [(6, .int (nI 0)), (3, .long x), (5, .int (nI k)), (0, .ref (mA G 0)), (1, .long h0)]) [0, 2, 1, 3, 4] rfl ?_
        exact lp23 _ 0 x (by omega) rfl (Nat.lt_succ_self _)
  refine r_sub (L' := [(5, .int (nI 0)), (3, .long h0), (0, .ref (mA G 0)), (1, .long h0)]) [0, 1, 2, 3] rfl ?_
  exact lp5 _ 0 h0 (by omega) rfl (Nat.lt_succ_self _)

set_option maxRecDepth 20000 in
set_option maxHeartbeats 1000000 in
theorem c_X7_digest (l : Launch) (G : mG) (hG : mInj G) (M : Mem) (g : Glo) (V : View) (Hs : List View) (len : Nat) (T : Nat → Int32) (hI : cINV M V Hs len T) : mcL l G yX7_digest cX7_digest 4 6 [.ref (mA G 0)] M g (fun r M' g' => r = digF V len Hs.length ∧ M' = M ∧ g' = g) := by
  refine mcL_of (L0 := [(0, .ref (mA G 0))]) hG (by decide) (Nat.le_of_ble_eq_true rfl) rfl ?_
  intro p e s m args below meth c Q C hend
  obtain ⟨hC, hW, hH, hHs, hTx, hP0⟩ := id hI
  have hT := hW.1
  obtain ⟨hn1, hn16, hb4, ⟨hd0, hd3, hd5, hd6⟩, hpar⟩ := id hT
  obtain ⟨o9, ho9, hlen9, hh9, hh92, hh95⟩ := id hH
  refine r_ldc2 (v := 3407) C dX7_digest_0 (gd_t 496 (by decide +kernel) rfl) ?_
  refine r_aload_n C dX7_digest_3 0 rfl ?_
  refine r_getr (q2 := 73) C dX7_digest_4 2 f_X7_26 rfl rfl ?_
  refine r_geti C dX7_digest_7 1 f_X7_219 rfl rfl ?_
  refine r_valI (y := nI len) (hTx.1) ?_
  refine r_i2l C dX7_digest_10 ?_
  refine r_callSL (As := [.long 3407, .long ((nI len).toInt64)]) (rest := []) C dX7_digest_11 s_X7_242 (c_X7_fold l G hG M g 3407 ((nI len).toInt64)) (by decide) rfl rfl (Nat.le_of_ble_eq_true rfl) (Nat.le_of_ble_eq_true rfl) (Nat.le_of_ble_eq_true rfl) (pk_L ?_)
  refine r_lstore_n (L' := [(1, .long (foldF 3407 ((nI len).toInt64))), (0, .ref (mA G 0))]) C dX7_digest_14 (by decide) rfl ?_
  refine r_iconst (v := nI 0) C dX7_digest_15 rfl ?_
  refine r_istore_n (L' := [(3, .int (nI 0)), (1, .long (foldF 3407 ((nI len).toInt64))), (0, .ref (mA G 0))]) C dX7_digest_16 (by decide) rfl ?_
  have lp17 : ∀ (fu : Nat) (w : Nat) (y : Int64), (w ≤ 15) → (y = foldA (valF V) w (foldF 3407 (nI len).toInt64)) → (15 - w) < fu → At p l e (rmD 6 0 0) s m args below meth c G 4 0 0 Q M g [(3, .int (nI w)), (1, .long y), (0, .ref (mA G 0))] 17 [] := by
    intro fu
    induction fu with
    | zero => intro w y hw hy hfu; exact absurd hfu (Nat.not_lt_zero _)
    | succ fu ih17 =>
      intro w y hw hy hfu17
      refine r_iload_n C dX7_digest_17 0 rfl ?_
      refine r_bipush (v := 14) C dX7_digest_18 rfl ?_
      refine r_icmp_gt (tgt := 40) C dX7_digest_20 (by decide) (fun c20 => ?_) (fun c20 => ?_)
      ·
        have hw2 : w = 15 := by have := (nI_ltI (a := 14) (b := w) (by decide) (by omega)).mp c20; omega
        refine r_iconst (v := nI 0) C dX7_digest_40 rfl ?_
        refine r_istore_n (L' := [(3, .int (nI 0)), (1, .long y), (0, .ref (mA G 0))]) C dX7_digest_41 (by decide) rfl ?_
        have lp42 : ∀ (fu : Nat) (w : Nat) (y : Int64), (w ≤ 3) → (y = foldA (sumF V) w (foldA (valF V) 15 (foldF 3407 (nI len).toInt64))) → (3 - w) < fu → At p l e (rmD 6 0 0) s m args below meth c G 4 0 0 Q M g [(3, .int (nI w)), (1, .long y), (0, .ref (mA G 0))] 42 [] := by
          intro fu
          induction fu with
          | zero => intro w y hw hy hfu; exact absurd hfu (Nat.not_lt_zero _)
          | succ fu ih42 =>
            intro w y hw hy hfu42
            refine r_iload_n C dX7_digest_42 0 rfl ?_
            refine r_iconst (v := 2) C dX7_digest_43 rfl ?_
            refine r_icmp_gt (tgt := 64) C dX7_digest_44 (by decide) (fun c44 => ?_) (fun c44 => ?_)
            ·
              have hw2 : w = 3 := by have := (nI_ltI (a := 2) (b := w) (by decide) (by omega)).mp c44; omega
              refine r_aload_n C dX7_digest_64 2 rfl ?_
              refine r_lload_n C dX7_digest_65 1 rfl ?_
              refine r_callVL (As := [.long y]) (rest := []) C dX7_digest_66 s_X7_246 (c_X7_foldNodes l G hG M g V hT hC y) (by decide) rfl rfl rfl rfl (Nat.le_of_ble_eq_true rfl) (Nat.le_of_ble_eq_true rfl) (Nat.le_of_ble_eq_true rfl) (pk_L ?_)
              refine r_lstore_n (L' := [(1, .long (fNod V (vN V) y)), (3, .int (nI w)), (0, .ref (mA G 0))]) C dX7_digest_69 (by decide) rfl ?_
              refine r_aload_n C dX7_digest_70 2 rfl ?_
              refine r_lload_n C dX7_digest_71 0 rfl ?_
              refine r_callVL (As := [.long (fNod V (vN V) y)]) (rest := []) C dX7_digest_72 s_X7_250 (c_X7_foldHeats l G hG M g V hT hC (fNod V (vN V) y)) (by decide) rfl rfl rfl rfl (Nat.le_of_ble_eq_true rfl) (Nat.le_of_ble_eq_true rfl) (Nat.le_of_ble_eq_true rfl) (pk_L ?_)
              refine r_lstore_n (L' := [(1, .long (fHea V (vN V) (fNod V (vN V) y))), (3, .int (nI w)), (0, .ref (mA G 0))]) C dX7_digest_75 (by decide) rfl ?_
              refine r_aload_n C dX7_digest_76 2 rfl ?_
              refine r_lload_n C dX7_digest_77 0 rfl ?_
              refine r_callVL (As := [.long (fHea V (vN V) (fNod V (vN V) y))]) (rest := []) C dX7_digest_78 s_X7_253 (c_X7_foldBoilers l G hG M g V hT hC (fHea V (vN V) (fNod V (vN V) y))) (by decide) rfl rfl rfl rfl (Nat.le_of_ble_eq_true rfl) (Nat.le_of_ble_eq_true rfl) (Nat.le_of_ble_eq_true rfl) (pk_L ?_)
              refine r_lstore_n (L' := [(1, .long (fBoi V (vB V) (fHea V (vN V) (fNod V (vN V) y)))), (3, .int (nI w)), (0, .ref (mA G 0))]) C dX7_digest_81 (by decide) rfl ?_
              refine r_lload_n C dX7_digest_82 0 rfl ?_
              refine r_aload_n C dX7_digest_83 2 rfl ?_
              refine r_getr (q2 := 80) C dX7_digest_84 4 f_X7_40 rfl rfl ?_
              refine r_callVI (As := []) (rest := [.long (fBoi V (vB V) (fHea V (vN V) (fNod V (vN V) y)))]) C dX7_digest_87 s_X7_192 (c_X5_suspectCount l G hG M g 80 isRegs_80 (by decide) (vN V) hn16 hC.2.2.1) (by decide) rfl rfl rfl rfl (Nat.le_of_ble_eq_true rfl) (Nat.le_of_ble_eq_true rfl) (Nat.le_of_ble_eq_true rfl) (pk_I ?_)
              refine r_valI (y := susF V (vD V 6)) (rg_sus hC.2.2) ?_
              refine r_i2l C dX7_digest_90 ?_
              refine r_callSL (As := [.long (fBoi V (vB V) (fHea V (vN V) (fNod V (vN V) y))), .long ((susF V (vD V 6)).toInt64)]) (rest := []) C dX7_digest_91 s_X7_242 (c_X7_fold l G hG M g (fBoi V (vB V) (fHea V (vN V) (fNod V (vN V) y))) ((susF V (vD V 6)).toInt64)) (by decide) rfl rfl (Nat.le_of_ble_eq_true rfl) (Nat.le_of_ble_eq_true rfl) (Nat.le_of_ble_eq_true rfl) (pk_L ?_)
              refine r_lstore_n (L' := [(1, .long (foldF (fBoi V (vB V) (fHea V (vN V) (fNod V (vN V) y))) ((susF V (vD V 6)).toInt64))), (3, .int (nI w)), (0, .ref (mA G 0))]) C dX7_digest_94 (by decide) rfl ?_
              refine r_lload_n C dX7_digest_95 0 rfl ?_
              refine r_aload_n C dX7_digest_96 2 rfl ?_
              refine r_getr (q2 := 15) C dX7_digest_97 1 f_X7_19 rfl rfl ?_
              refine r_geti C dX7_digest_100 2 f_X7_234 rfl rfl ?_
              refine r_valI (y := nI Hs.length) (hh92) ?_
              refine r_i2l C dX7_digest_103 ?_
              refine r_callSL (As := [.long (foldF (fBoi V (vB V) (fHea V (vN V) (fNod V (vN V) y))) ((susF V (vD V 6)).toInt64)), .long ((nI Hs.length).toInt64)]) (rest := []) C dX7_digest_104 s_X7_242 (c_X7_fold l G hG M g (foldF (fBoi V (vB V) (fHea V (vN V) (fNod V (vN V) y))) (susF V (vD V 6)).toInt64) ((nI Hs.length).toInt64)) (by decide) rfl rfl (Nat.le_of_ble_eq_true rfl) (Nat.le_of_ble_eq_true rfl) (Nat.le_of_ble_eq_true rfl) (pk_L ?_)
              exact hend _ _ _ _ _ dX7_digest_107 (⟨by rw [hy, hw2]; unfold digF; exact rfl, rfl, rfl⟩)
            ·
              have hwl : w < 3 := by rcases Nat.lt_or_ge w 3 with q | q; exact q; exact absurd ((nI_ltI (a := 2) (b := w) (by decide) (by omega)).mpr (by omega)) c44
              refine r_lload_n C dX7_digest_47 1 rfl ?_
              refine r_aload_n C dX7_digest_48 2 rfl ?_
              refine r_iload_n C dX7_digest_49 0 rfl ?_
              refine r_callVI (As := [.int (nI w)]) (rest := [.long y]) C dX7_digest_50 s_X7_123 (c_X7_sumOfHeats l G hG M g V hT hC w (by omega)) (by decide) rfl rfl rfl rfl (Nat.le_of_ble_eq_true rfl) (Nat.le_of_ble_eq_true rfl) (Nat.le_of_ble_eq_true rfl) (pk_I ?_)
              refine r_i2l C dX7_digest_53 ?_
              refine r_callSL (As := [.long y, .long ((sumF V w).toInt64)]) (rest := []) C dX7_digest_54 s_X7_242 (c_X7_fold l G hG M g y ((sumF V w).toInt64)) (by decide) rfl rfl (Nat.le_of_ble_eq_true rfl) (Nat.le_of_ble_eq_true rfl) (Nat.le_of_ble_eq_true rfl) (pk_L ?_)
              refine r_lstore_n (L' := [(1, .long (foldF y ((sumF V w).toInt64))), (3, .int (nI w)), (0, .ref (mA G 0))]) C dX7_digest_57 (by decide) rfl ?_
              refine r_iinc (v := nI (w + 1)) (L' := [(3, .int (nI (w + 1))), (1, .long (foldF y ((sumF V w).toInt64))), (0, .ref (mA G 0))]) C dX7_digest_58 1 rfl (nI_inc _) (by decide) rfl ?_
              refine r_goto (tgt := 42) C dX7_digest_61 (by decide) ?_
              refine r_sub (L' := [(3, .int (nI (w + 1))), (1, .long (foldF y ((sumF V w).toInt64))), (0, .ref (mA G 0))]) [0, 1, 2] rfl ?_
              exact ih42 (w + 1) _ (by omega) (by rw [hy]; exact (foldA_s _ _ _).symm) (by omega)
        refine r_sub (L' := [(3, .int (nI 0)), (1, .long y), (0, .ref (mA G 0))]) [0, 1, 2] rfl ?_
        exact lp42 _ 0 _ (by omega) (by rw [hy, hw2, foldA_0]) (Nat.lt_succ_self _)
      ·
        have hwl : w < 15 := by rcases Nat.lt_or_ge w 15 with q | q; exact q; exact absurd ((nI_ltI (a := 14) (b := w) (by decide) (by omega)).mpr (by omega)) c20
        refine r_lload_n C dX7_digest_23 1 rfl ?_
        refine r_aload_n C dX7_digest_24 2 rfl ?_
        refine r_iload_n C dX7_digest_25 0 rfl ?_
        refine r_callVI (As := [.int (nI w)]) (rest := [.long y]) C dX7_digest_26 s_X7_119 (c_X7_number l G hG M g V hT hC w hwl) (by decide) rfl rfl rfl rfl (Nat.le_of_ble_eq_true rfl) (Nat.le_of_ble_eq_true rfl) (Nat.le_of_ble_eq_true rfl) (pk_I ?_)
        refine r_i2l C dX7_digest_29 ?_
        refine r_callSL (As := [.long y, .long ((valF V w).toInt64)]) (rest := []) C dX7_digest_30 s_X7_242 (c_X7_fold l G hG M g y ((valF V w).toInt64)) (by decide) rfl rfl (Nat.le_of_ble_eq_true rfl) (Nat.le_of_ble_eq_true rfl) (Nat.le_of_ble_eq_true rfl) (pk_L ?_)
        refine r_lstore_n (L' := [(1, .long (foldF y ((valF V w).toInt64))), (3, .int (nI w)), (0, .ref (mA G 0))]) C dX7_digest_33 (by decide) rfl ?_
        refine r_iinc (v := nI (w + 1)) (L' := [(3, .int (nI (w + 1))), (1, .long (foldF y ((valF V w).toInt64))), (0, .ref (mA G 0))]) C dX7_digest_34 1 rfl (nI_inc _) (by decide) rfl ?_
        refine r_goto (tgt := 17) C dX7_digest_37 (by decide) ?_
        refine r_sub (L' := [(3, .int (nI (w + 1))), (1, .long (foldF y ((valF V w).toInt64))), (0, .ref (mA G 0))]) [0, 1, 2] rfl ?_
        exact ih17 (w + 1) _ (by omega) (by rw [hy]; exact (foldA_s _ _ _).symm) (by omega)
  refine r_sub (L' := [(3, .int (nI 0)), (1, .long (foldF 3407 ((nI len).toInt64))), (0, .ref (mA G 0))]) [0, 1, 2] rfl ?_
  exact lp17 _ 0 _ (by omega) (foldA_0 _ _).symm (Nat.lt_succ_self _)
