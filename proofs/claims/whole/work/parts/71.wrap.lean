def hhL_addNode : List (Nat × Nat × Nat × Nat) := [(0, 16, 19, 13), (0, 16, 23, 15), (0, 16, 27, 17)]
set_option maxRecDepth 20000 in
set_option maxHeartbeats 1000000 in
theorem c_L_addNode (l : Launch) (G : mG) (hG : mInj G) (M : Mem) (g : Glo) (hfl : l.stackTraces = false) (V : View) (Hs : List View) (len : Nat) (T : Nat → Int32) (hI : cINV M V Hs len T) (a l9 s9 d t : Int32) : mcW l G yL_addNode cL_addNode 8 hhL_addNode 8 6 36 [.ref (mA G 0), .int a, .int l9, .int s9, .int d, .int t, .ref (mA G 117)] M g (wrP M g (eAdd V a l9 s9 d t) (fun r M' => r = nI (vN V) ∧ cINV M' (vAdd V a l9 s9 d t) (hPush Hs V) len T ∧ offC M M')) := by
  refine mcW_of (L0 := [(0, .ref (mA G 0)), (1, .int a), (2, .int l9), (3, .int s9), (4, .int d), (5, .int t), (6, .ref (mA G 117))]) hG (by decide) (Nat.le_of_ble_eq_true rfl) rfl ?_
  intro p e s m args below meth c Q C htab hend
  refine r_aload C dL_addNode_0 6 rfl ?_
  refine r_iconst (v := 0) C dL_addNode_2 rfl ?_
  refine r_aload_n C dL_addNode_3 0 rfl ?_
  refine r_iload_n C dL_addNode_4 1 rfl ?_
  refine r_iload_n C dL_addNode_5 2 rfl ?_
  refine r_iload_n C dL_addNode_6 3 rfl ?_
  refine r_iload C dL_addNode_7 4 rfl ?_
  refine r_iload C dL_addNode_9 5 rfl ?_
  refine r_hVI (As := [.int a, .int l9, .int s9, .int d, .int t]) (rest := [.int 0, .ref (mA G 117)]) C dL_addNode_11 s_L_7 (c_X7_addNode l G hG M g hfl V Hs len T hI a l9 s9 d t) (by decide) rfl rfl rfl rfl (Nat.le_of_ble_eq_true rfl) (Nat.le_of_ble_eq_true rfl) (Nat.le_of_ble_eq_true rfl) (fun E9 hE9 => ?_) (fun r9 M9 g9 hp9 => ?_)
  ·
    rcases hE9 with hE9 | hE9 | hE9
    ·
      obtain ⟨rfl, he⟩ := hE9
      refine r_catch (E := IOO) (name := IOO) C [] ⟨0, 16, 19, 13⟩ [⟨0, 16, 23, 15⟩, ⟨0, 16, 27, 17⟩] htab (fun _ h => absurd h List.not_mem_nil) (by decide) (by decide) lk_13 ca_IOO (fun q9 => ?_)
      refine r_astore (L' := [(7, .ref q9), (0, .ref (mA G 0)), (1, .int a), (2, .int l9), (3, .int s9), (4, .int d), (5, .int t), (6, .ref (mA G 117))]) C dL_addNode_19 (by decide) rfl ?_
      refine r_iconst (v := 1) C dL_addNode_21 rfl ?_
      exact hend _ _ _ _ _ _ _ (Nat.le_of_ble_eq_true rfl) (Nat.le_of_ble_eq_true rfl) dL_addNode_22 (Or.inr ⟨1, by decide, he, rfl, rfl, rfl⟩)
    ·
      obtain ⟨rfl, he⟩ := hE9
      refine r_catch (E := IAE) (name := IAE) C [⟨0, 16, 19, 13⟩] ⟨0, 16, 23, 15⟩ [⟨0, 16, 27, 17⟩] htab (List.forall_mem_cons.mpr ⟨⟨by decide, IOO, lk_13, nc_IAE_IOO⟩, fun _ h => absurd h List.not_mem_nil⟩) (by decide) (by decide) lk_15 ca_IAE (fun q9 => ?_)
      refine r_astore (L' := [(7, .ref q9), (0, .ref (mA G 0)), (1, .int a), (2, .int l9), (3, .int s9), (4, .int d), (5, .int t), (6, .ref (mA G 117))]) C dL_addNode_23 (by decide) rfl ?_
      refine r_iconst (v := 2) C dL_addNode_25 rfl ?_
      exact hend _ _ _ _ _ _ _ (Nat.le_of_ble_eq_true rfl) (Nat.le_of_ble_eq_true rfl) dL_addNode_26 (Or.inr ⟨2, by decide, he, rfl, rfl, rfl⟩)
    ·
      obtain ⟨rfl, he⟩ := hE9
      refine r_catch (E := ISE) (name := ISE) C [⟨0, 16, 19, 13⟩, ⟨0, 16, 23, 15⟩] ⟨0, 16, 27, 17⟩ [] htab (List.forall_mem_cons.mpr ⟨⟨by decide, IOO, lk_13, nc_ISE_IOO⟩, List.forall_mem_cons.mpr ⟨⟨by decide, IAE, lk_15, nc_ISE_IAE⟩, fun _ h => absurd h List.not_mem_nil⟩⟩) (by decide) (by decide) lk_17 ca_ISE (fun q9 => ?_)
      refine r_astore (L' := [(7, .ref q9), (0, .ref (mA G 0)), (1, .int a), (2, .int l9), (3, .int s9), (4, .int d), (5, .int t), (6, .ref (mA G 117))]) C dL_addNode_27 (by decide) rfl ?_
      refine r_iconst (v := 3) C dL_addNode_29 rfl ?_
      exact hend _ _ _ _ _ _ _ (Nat.le_of_ble_eq_true rfl) (Nat.le_of_ble_eq_true rfl) dL_addNode_30 (Or.inr ⟨3, by decide, he, rfl, rfl, rfl⟩)
  refine r_i2l C dL_addNode_14 ?_
  refine r_last C dL_addNode_15 rfl (vp_in_nI (by decide : 0 < 1) (by decide)) ?_
  refine r_goto (tgt := 31) C dL_addNode_16 (by decide) ?_
  refine r_iconst (v := 0) C dL_addNode_31 rfl ?_
  exact hend _ _ _ _ _ _ _ (Nat.le_of_ble_eq_true rfl) (Nat.le_of_ble_eq_true rfl) dL_addNode_32 (Or.inl (by obtain ⟨⟨he, ha⟩, rfl⟩ := hp9; exact ⟨he, rfl, r9, ha, rfl⟩))

def hhL_setDraw : List (Nat × Nat × Nat × Nat) := [(0, 12, 15, 13), (0, 12, 19, 15)]
set_option maxRecDepth 20000 in
set_option maxHeartbeats 1000000 in
theorem c_L_setDraw (l : Launch) (G : mG) (hG : mInj G) (M : Mem) (g : Glo) (hfl : l.stackTraces = false) (V : View) (Hs : List View) (len : Nat) (T : Nat → Int32) (hI : cINV M V Hs len T) (n d t : Int32) : mcW l G yL_setDraw cL_setDraw 6 hhL_setDraw 8 3 18 [.ref (mA G 0), .int n, .int d, .int t, .ref (mA G 117)] M g (wrP M g (eDraw V n d t) (fun r M' => r = vD V 3 n.toNatClampNeg ∧ cINV M' (vSet (vSet V 3 n.toNatClampNeg d) 4 n.toNatClampNeg t) (hPush Hs V) len T ∧ offC M M')) := by
  refine mcW_of (L0 := [(0, .ref (mA G 0)), (1, .int n), (2, .int d), (3, .int t), (4, .ref (mA G 117))]) hG (by decide) (Nat.le_of_ble_eq_true rfl) rfl ?_
  intro p e s m args below meth c Q C htab hend
  refine r_aload C dL_setDraw_0 4 rfl ?_
  refine r_iconst (v := 0) C dL_setDraw_2 rfl ?_
  refine r_aload_n C dL_setDraw_3 0 rfl ?_
  refine r_iload_n C dL_setDraw_4 1 rfl ?_
  refine r_iload_n C dL_setDraw_5 2 rfl ?_
  refine r_iload_n C dL_setDraw_6 3 rfl ?_
  refine r_hVI (As := [.int n, .int d, .int t]) (rest := [.int 0, .ref (mA G 117)]) C dL_setDraw_7 s_L_19 (c_X7_setDraw l G hG M g hfl V Hs len T hI n d t) (by decide) rfl rfl rfl rfl (Nat.le_of_ble_eq_true rfl) (Nat.le_of_ble_eq_true rfl) (Nat.le_of_ble_eq_true rfl) (fun E9 hE9 => ?_) (fun r9 M9 g9 hp9 => ?_)
  ·
    rcases hE9 with hE9 | hE9
    ·
      obtain ⟨rfl, he⟩ := hE9
      refine r_catch (E := IOO) (name := IOO) C [] ⟨0, 12, 15, 13⟩ [⟨0, 12, 19, 15⟩] htab (fun _ h => absurd h List.not_mem_nil) (by decide) (by decide) lk_13 ca_IOO (fun q9 => ?_)
      refine r_astore (L' := [(5, .ref q9), (0, .ref (mA G 0)), (1, .int n), (2, .int d), (3, .int t), (4, .ref (mA G 117))]) C dL_setDraw_15 (by decide) rfl ?_
      refine r_iconst (v := 1) C dL_setDraw_17 rfl ?_
      exact hend _ _ _ _ _ _ _ (Nat.le_of_ble_eq_true rfl) (Nat.le_of_ble_eq_true rfl) dL_setDraw_18 (Or.inr ⟨1, by decide, he, rfl, rfl, rfl⟩)
    ·
      obtain ⟨rfl, he⟩ := hE9
      refine r_catch (E := IAE) (name := IAE) C [⟨0, 12, 15, 13⟩] ⟨0, 12, 19, 15⟩ [] htab (List.forall_mem_cons.mpr ⟨⟨by decide, IOO, lk_13, nc_IAE_IOO⟩, fun _ h => absurd h List.not_mem_nil⟩) (by decide) (by decide) lk_15 ca_IAE (fun q9 => ?_)
      refine r_astore (L' := [(5, .ref q9), (0, .ref (mA G 0)), (1, .int n), (2, .int d), (3, .int t), (4, .ref (mA G 117))]) C dL_setDraw_19 (by decide) rfl ?_
      refine r_iconst (v := 2) C dL_setDraw_21 rfl ?_
      exact hend _ _ _ _ _ _ _ (Nat.le_of_ble_eq_true rfl) (Nat.le_of_ble_eq_true rfl) dL_setDraw_22 (Or.inr ⟨2, by decide, he, rfl, rfl, rfl⟩)
  refine r_i2l C dL_setDraw_10 ?_
  refine r_last C dL_setDraw_11 rfl (vp_in_nI (by decide : 0 < 1) (by decide)) ?_
  refine r_goto (tgt := 23) C dL_setDraw_12 (by decide) ?_
  refine r_iconst (v := 0) C dL_setDraw_23 rfl ?_
  exact hend _ _ _ _ _ _ _ (Nat.le_of_ble_eq_true rfl) (Nat.le_of_ble_eq_true rfl) dL_setDraw_24 (Or.inl (by obtain ⟨⟨he, ha⟩, rfl⟩ := hp9; exact ⟨he, rfl, r9, ha, rfl⟩))

def hhL_setLeak : List (Nat × Nat × Nat × Nat) := [(0, 10, 13, 13), (0, 10, 17, 15)]
set_option maxRecDepth 20000 in
set_option maxHeartbeats 1000000 in
theorem c_L_setLeak (l : Launch) (G : mG) (hG : mInj G) (M : Mem) (g : Glo) (hfl : l.stackTraces = false) (V : View) (Hs : List View) (len : Nat) (T : Nat → Int32) (hI : cINV M V Hs len T) (n k : Int32) : mcW l G yL_setLeak cL_setLeak 5 hhL_setLeak 8 2 12 [.ref (mA G 0), .int n, .int k, .ref (mA G 117)] M g (wrP M g (eLeak V n k) (fun r M' => r = vD V 5 n.toNatClampNeg ∧ cINV M' (vSet V 5 n.toNatClampNeg k) (hPush Hs V) len T ∧ offC M M')) := by
  refine mcW_of (L0 := [(0, .ref (mA G 0)), (1, .int n), (2, .int k), (3, .ref (mA G 117))]) hG (by decide) (Nat.le_of_ble_eq_true rfl) rfl ?_
  intro p e s m args below meth c Q C htab hend
  refine r_aload_n C dL_setLeak_0 3 rfl ?_
  refine r_iconst (v := 0) C dL_setLeak_1 rfl ?_
  refine r_aload_n C dL_setLeak_2 0 rfl ?_
  refine r_iload_n C dL_setLeak_3 1 rfl ?_
  refine r_iload_n C dL_setLeak_4 2 rfl ?_
  refine r_hVI (As := [.int n, .int k]) (rest := [.int 0, .ref (mA G 117)]) C dL_setLeak_5 s_L_23 (c_X7_setLeak l G hG M g hfl V Hs len T hI n k) (by decide) rfl rfl rfl rfl (Nat.le_of_ble_eq_true rfl) (Nat.le_of_ble_eq_true rfl) (Nat.le_of_ble_eq_true rfl) (fun E9 hE9 => ?_) (fun r9 M9 g9 hp9 => ?_)
  ·
    rcases hE9 with hE9 | hE9
    ·
      obtain ⟨rfl, he⟩ := hE9
      refine r_catch (E := IOO) (name := IOO) C [] ⟨0, 10, 13, 13⟩ [⟨0, 10, 17, 15⟩] htab (fun _ h => absurd h List.not_mem_nil) (by decide) (by decide) lk_13 ca_IOO (fun q9 => ?_)
      refine r_astore (L' := [(4, .ref q9), (0, .ref (mA G 0)), (1, .int n), (2, .int k), (3, .ref (mA G 117))]) C dL_setLeak_13 (by decide) rfl ?_
      refine r_iconst (v := 1) C dL_setLeak_15 rfl ?_
      exact hend _ _ _ _ _ _ _ (Nat.le_of_ble_eq_true rfl) (Nat.le_of_ble_eq_true rfl) dL_setLeak_16 (Or.inr ⟨1, by decide, he, rfl, rfl, rfl⟩)
    ·
      obtain ⟨rfl, he⟩ := hE9
      refine r_catch (E := IAE) (name := IAE) C [⟨0, 10, 13, 13⟩] ⟨0, 10, 17, 15⟩ [] htab (List.forall_mem_cons.mpr ⟨⟨by decide, IOO, lk_13, nc_IAE_IOO⟩, fun _ h => absurd h List.not_mem_nil⟩) (by decide) (by decide) lk_15 ca_IAE (fun q9 => ?_)
      refine r_astore (L' := [(4, .ref q9), (0, .ref (mA G 0)), (1, .int n), (2, .int k), (3, .ref (mA G 117))]) C dL_setLeak_17 (by decide) rfl ?_
      refine r_iconst (v := 2) C dL_setLeak_19 rfl ?_
      exact hend _ _ _ _ _ _ _ (Nat.le_of_ble_eq_true rfl) (Nat.le_of_ble_eq_true rfl) dL_setLeak_20 (Or.inr ⟨2, by decide, he, rfl, rfl, rfl⟩)
  refine r_i2l C dL_setLeak_8 ?_
  refine r_last C dL_setLeak_9 rfl (vp_in_nI (by decide : 0 < 1) (by decide)) ?_
  refine r_goto (tgt := 21) C dL_setLeak_10 (by decide) ?_
  refine r_iconst (v := 0) C dL_setLeak_21 rfl ?_
  exact hend _ _ _ _ _ _ _ (Nat.le_of_ble_eq_true rfl) (Nat.le_of_ble_eq_true rfl) dL_setLeak_22 (Or.inl (by obtain ⟨⟨he, ha⟩, rfl⟩ := hp9; exact ⟨he, rfl, r9, ha, rfl⟩))

def hhL_setTemperatures : List (Nat × Nat × Nat × Nat) := [(0, 10, 13, 15)]
set_option maxRecDepth 20000 in
set_option maxHeartbeats 1000000 in
theorem c_L_setTemperatures (l : Launch) (G : mG) (hG : mInj G) (M : Mem) (g : Glo) (hfl : l.stackTraces = false) (V : View) (Hs : List View) (len : Nat) (T : Nat → Int32) (hI : cINV M V Hs len T) (s9 k : Int32) : mcW l G yL_setTemperatures cL_setTemperatures 5 hhL_setTemperatures 8 2 12 [.ref (mA G 0), .int s9, .int k, .ref (mA G 117)] M g (wrP M g (eTemp s9 k) (fun r M' => r = vS V 0 ∧ cINV M' (vSc (vSc V 0 s9) 1 k) (hPush Hs V) len T ∧ offC M M')) := by
  refine mcW_of (L0 := [(0, .ref (mA G 0)), (1, .int s9), (2, .int k), (3, .ref (mA G 117))]) hG (by decide) (Nat.le_of_ble_eq_true rfl) rfl ?_
  intro p e s m args below meth c Q C htab hend
  refine r_aload_n C dL_setTemperatures_0 3 rfl ?_
  refine r_iconst (v := 0) C dL_setTemperatures_1 rfl ?_
  refine r_aload_n C dL_setTemperatures_2 0 rfl ?_
  refine r_iload_n C dL_setTemperatures_3 1 rfl ?_
  refine r_iload_n C dL_setTemperatures_4 2 rfl ?_
  refine r_hVI (As := [.int s9, .int k]) (rest := [.int 0, .ref (mA G 117)]) C dL_setTemperatures_5 s_L_27 (c_X7_setTemperatures l G hG M g hfl V Hs len T hI s9 k) (by decide) rfl rfl rfl rfl (Nat.le_of_ble_eq_true rfl) (Nat.le_of_ble_eq_true rfl) (Nat.le_of_ble_eq_true rfl) (fun E9 hE9 => ?_) (fun r9 M9 g9 hp9 => ?_)
  ·
    ·
      obtain ⟨rfl, he⟩ := hE9
      refine r_catch (E := IAE) (name := IAE) C [] ⟨0, 10, 13, 15⟩ [] htab (fun _ h => absurd h List.not_mem_nil) (by decide) (by decide) lk_15 ca_IAE (fun q9 => ?_)
      refine r_astore (L' := [(4, .ref q9), (0, .ref (mA G 0)), (1, .int s9), (2, .int k), (3, .ref (mA G 117))]) C dL_setTemperatures_13 (by decide) rfl ?_
      refine r_iconst (v := 1) C dL_setTemperatures_15 rfl ?_
      exact hend _ _ _ _ _ _ _ (Nat.le_of_ble_eq_true rfl) (Nat.le_of_ble_eq_true rfl) dL_setTemperatures_16 (Or.inr ⟨1, by decide, he, rfl, rfl, rfl⟩)
  refine r_i2l C dL_setTemperatures_8 ?_
  refine r_last C dL_setTemperatures_9 rfl (vp_in_nI (by decide : 0 < 1) (by decide)) ?_
  refine r_goto (tgt := 17) C dL_setTemperatures_10 (by decide) ?_
  refine r_iconst (v := 0) C dL_setTemperatures_17 rfl ?_
  exact hend _ _ _ _ _ _ _ (Nat.le_of_ble_eq_true rfl) (Nat.le_of_ble_eq_true rfl) dL_setTemperatures_18 (Or.inl (by obtain ⟨⟨he, ha⟩, rfl⟩ := hp9; exact ⟨he, rfl, r9, ha, rfl⟩))

def hhL_node : List (Nat × Nat × Nat × Nat) := [(0, 10, 13, 13), (0, 10, 17, 15)]
set_option maxRecDepth 20000 in
set_option maxHeartbeats 1000000 in
theorem c_L_node (l : Launch) (G : mG) (hG : mInj G) (M : Mem) (g : Glo) (hfl : l.stackTraces = false) (V : View) (Hs : List View) (len : Nat) (T : Nat → Int32) (hI : cINV M V Hs len T) (n w : Int32) : mcW l G yL_node cL_node 5 hhL_node 8 2 12 [.ref (mA G 0), .int n, .int w, .ref (mA G 117)] M g (wrP M g (eNode V n w) (fun r M' => r = nodeF V n.toNatClampNeg w.toNatClampNeg ∧ M' = M)) := by
  refine mcW_of (L0 := [(0, .ref (mA G 0)), (1, .int n), (2, .int w), (3, .ref (mA G 117))]) hG (by decide) (Nat.le_of_ble_eq_true rfl) rfl ?_
  intro p e s m args below meth c Q C htab hend
  refine r_aload_n C dL_node_0 3 rfl ?_
  refine r_iconst (v := 0) C dL_node_1 rfl ?_
  refine r_aload_n C dL_node_2 0 rfl ?_
  refine r_iload_n C dL_node_3 1 rfl ?_
  refine r_iload_n C dL_node_4 2 rfl ?_
  refine r_hVI (As := [.int n, .int w]) (rest := [.int 0, .ref (mA G 117)]) C dL_node_5 s_L_30 (c_X7_node l G hG M g hfl V Hs len T hI n w) (by decide) rfl rfl rfl rfl (Nat.le_of_ble_eq_true rfl) (Nat.le_of_ble_eq_true rfl) (Nat.le_of_ble_eq_true rfl) (fun E9 hE9 => ?_) (fun r9 M9 g9 hp9 => ?_)
  ·
    rcases hE9 with hE9 | hE9
    ·
      obtain ⟨rfl, he⟩ := hE9
      refine r_catch (E := IOO) (name := IOO) C [] ⟨0, 10, 13, 13⟩ [⟨0, 10, 17, 15⟩] htab (fun _ h => absurd h List.not_mem_nil) (by decide) (by decide) lk_13 ca_IOO (fun q9 => ?_)
      refine r_astore (L' := [(4, .ref q9), (0, .ref (mA G 0)), (1, .int n), (2, .int w), (3, .ref (mA G 117))]) C dL_node_13 (by decide) rfl ?_
      refine r_iconst (v := 1) C dL_node_15 rfl ?_
      exact hend _ _ _ _ _ _ _ (Nat.le_of_ble_eq_true rfl) (Nat.le_of_ble_eq_true rfl) dL_node_16 (Or.inr ⟨1, by decide, he, rfl, rfl, rfl⟩)
    ·
      obtain ⟨rfl, he⟩ := hE9
      refine r_catch (E := IAE) (name := IAE) C [⟨0, 10, 13, 13⟩] ⟨0, 10, 17, 15⟩ [] htab (List.forall_mem_cons.mpr ⟨⟨by decide, IOO, lk_13, nc_IAE_IOO⟩, fun _ h => absurd h List.not_mem_nil⟩) (by decide) (by decide) lk_15 ca_IAE (fun q9 => ?_)
      refine r_astore (L' := [(4, .ref q9), (0, .ref (mA G 0)), (1, .int n), (2, .int w), (3, .ref (mA G 117))]) C dL_node_17 (by decide) rfl ?_
      refine r_iconst (v := 2) C dL_node_19 rfl ?_
      exact hend _ _ _ _ _ _ _ (Nat.le_of_ble_eq_true rfl) (Nat.le_of_ble_eq_true rfl) dL_node_20 (Or.inr ⟨2, by decide, he, rfl, rfl, rfl⟩)
  refine r_i2l C dL_node_8 ?_
  refine r_last C dL_node_9 rfl (vp_in_nI (by decide : 0 < 1) (by decide)) ?_
  refine r_goto (tgt := 21) C dL_node_10 (by decide) ?_
  refine r_iconst (v := 0) C dL_node_21 rfl ?_
  exact hend _ _ _ _ _ _ _ (Nat.le_of_ble_eq_true rfl) (Nat.le_of_ble_eq_true rfl) dL_node_22 (Or.inl (by obtain ⟨⟨he, ha⟩, hm, rfl⟩ := hp9; exact ⟨he, rfl, r9, ⟨ha, hm⟩, rfl⟩))

def hhL_heat : List (Nat × Nat × Nat × Nat) := [(0, 10, 13, 13), (0, 10, 17, 15)]
set_option maxRecDepth 20000 in
set_option maxHeartbeats 1000000 in
theorem c_L_heat (l : Launch) (G : mG) (hG : mInj G) (M : Mem) (g : Glo) (hfl : l.stackTraces = false) (V : View) (Hs : List View) (len : Nat) (T : Nat → Int32) (hI : cINV M V Hs len T) (n w : Int32) : mcW l G yL_heat cL_heat 5 hhL_heat 8 2 12 [.ref (mA G 0), .int n, .int w, .ref (mA G 117)] M g (wrP M g (eHeat V n w) (fun r M' => r = heatF V n.toNatClampNeg w.toNatClampNeg ∧ M' = M)) := by
  refine mcW_of (L0 := [(0, .ref (mA G 0)), (1, .int n), (2, .int w), (3, .ref (mA G 117))]) hG (by decide) (Nat.le_of_ble_eq_true rfl) rfl ?_
  intro p e s m args below meth c Q C htab hend
  refine r_aload_n C dL_heat_0 3 rfl ?_
  refine r_iconst (v := 0) C dL_heat_1 rfl ?_
  refine r_aload_n C dL_heat_2 0 rfl ?_
  refine r_iload_n C dL_heat_3 1 rfl ?_
  refine r_iload_n C dL_heat_4 2 rfl ?_
  refine r_hVI (As := [.int n, .int w]) (rest := [.int 0, .ref (mA G 117)]) C dL_heat_5 s_L_33 (c_X7_heat l G hG M g hfl V Hs len T hI n w) (by decide) rfl rfl rfl rfl (Nat.le_of_ble_eq_true rfl) (Nat.le_of_ble_eq_true rfl) (Nat.le_of_ble_eq_true rfl) (fun E9 hE9 => ?_) (fun r9 M9 g9 hp9 => ?_)
  ·
    rcases hE9 with hE9 | hE9
    ·
      obtain ⟨rfl, he⟩ := hE9
      refine r_catch (E := IOO) (name := IOO) C [] ⟨0, 10, 13, 13⟩ [⟨0, 10, 17, 15⟩] htab (fun _ h => absurd h List.not_mem_nil) (by decide) (by decide) lk_13 ca_IOO (fun q9 => ?_)
      refine r_astore (L' := [(4, .ref q9), (0, .ref (mA G 0)), (1, .int n), (2, .int w), (3, .ref (mA G 117))]) C dL_heat_13 (by decide) rfl ?_
      refine r_iconst (v := 1) C dL_heat_15 rfl ?_
      exact hend _ _ _ _ _ _ _ (Nat.le_of_ble_eq_true rfl) (Nat.le_of_ble_eq_true rfl) dL_heat_16 (Or.inr ⟨1, by decide, he, rfl, rfl, rfl⟩)
    ·
      obtain ⟨rfl, he⟩ := hE9
      refine r_catch (E := IAE) (name := IAE) C [⟨0, 10, 13, 13⟩] ⟨0, 10, 17, 15⟩ [] htab (List.forall_mem_cons.mpr ⟨⟨by decide, IOO, lk_13, nc_IAE_IOO⟩, fun _ h => absurd h List.not_mem_nil⟩) (by decide) (by decide) lk_15 ca_IAE (fun q9 => ?_)
      refine r_astore (L' := [(4, .ref q9), (0, .ref (mA G 0)), (1, .int n), (2, .int w), (3, .ref (mA G 117))]) C dL_heat_17 (by decide) rfl ?_
      refine r_iconst (v := 2) C dL_heat_19 rfl ?_
      exact hend _ _ _ _ _ _ _ (Nat.le_of_ble_eq_true rfl) (Nat.le_of_ble_eq_true rfl) dL_heat_20 (Or.inr ⟨2, by decide, he, rfl, rfl, rfl⟩)
  refine r_i2l C dL_heat_8 ?_
  refine r_last C dL_heat_9 rfl (vp_in_nI (by decide : 0 < 1) (by decide)) ?_
  refine r_goto (tgt := 21) C dL_heat_10 (by decide) ?_
  refine r_iconst (v := 0) C dL_heat_21 rfl ?_
  exact hend _ _ _ _ _ _ _ (Nat.le_of_ble_eq_true rfl) (Nat.le_of_ble_eq_true rfl) dL_heat_22 (Or.inl (by obtain ⟨⟨he, ha⟩, hm, rfl⟩ := hp9; exact ⟨he, rfl, r9, ⟨ha, hm⟩, rfl⟩))

def hhL_value : List (Nat × Nat × Nat × Nat) := [(0, 9, 12, 15)]
set_option maxRecDepth 20000 in
set_option maxHeartbeats 1000000 in
theorem c_L_value (l : Launch) (G : mG) (hG : mInj G) (M : Mem) (g : Glo) (hfl : l.stackTraces = false) (V : View) (Hs : List View) (len : Nat) (T : Nat → Int32) (hI : cINV M V Hs len T) (w : Int32) : mcW l G yL_value cL_value 4 hhL_value 8 1 6 [.ref (mA G 0), .int w, .ref (mA G 117)] M g (wrP M g (eIn w 0 14) (fun r M' => r = valF V w.toNatClampNeg ∧ M' = M)) := by
  refine mcW_of (L0 := [(0, .ref (mA G 0)), (1, .int w), (2, .ref (mA G 117))]) hG (by decide) (Nat.le_of_ble_eq_true rfl) rfl ?_
  intro p e s m args below meth c Q C htab hend
  refine r_aload_n C dL_value_0 2 rfl ?_
  refine r_iconst (v := 0) C dL_value_1 rfl ?_
  refine r_aload_n C dL_value_2 0 rfl ?_
  refine r_iload_n C dL_value_3 1 rfl ?_
  refine r_hVI (As := [.int w]) (rest := [.int 0, .ref (mA G 117)]) C dL_value_4 s_L_36 (c_X7_value l G hG M g hfl V Hs len T hI w) (by decide) rfl rfl rfl rfl (Nat.le_of_ble_eq_true rfl) (Nat.le_of_ble_eq_true rfl) (Nat.le_of_ble_eq_true rfl) (fun E9 hE9 => ?_) (fun r9 M9 g9 hp9 => ?_)
  ·
    ·
      obtain ⟨rfl, he⟩ := hE9
      refine r_catch (E := IAE) (name := IAE) C [] ⟨0, 9, 12, 15⟩ [] htab (fun _ h => absurd h List.not_mem_nil) (by decide) (by decide) lk_15 ca_IAE (fun q9 => ?_)
      refine r_astore_n (L' := [(3, .ref q9), (0, .ref (mA G 0)), (1, .int w), (2, .ref (mA G 117))]) C dL_value_12 (by decide) rfl ?_
      refine r_iconst (v := 1) C dL_value_13 rfl ?_
      exact hend _ _ _ _ _ _ _ (Nat.le_of_ble_eq_true rfl) (Nat.le_of_ble_eq_true rfl) dL_value_14 (Or.inr ⟨1, by decide, he, rfl, rfl, rfl⟩)
  refine r_i2l C dL_value_7 ?_
  refine r_last C dL_value_8 rfl (vp_in_nI (by decide : 0 < 1) (by decide)) ?_
  refine r_goto (tgt := 15) C dL_value_9 (by decide) ?_
  refine r_iconst (v := 0) C dL_value_15 rfl ?_
  exact hend _ _ _ _ _ _ _ (Nat.le_of_ble_eq_true rfl) (Nat.le_of_ble_eq_true rfl) dL_value_16 (Or.inl (by obtain ⟨⟨he, ha⟩, hm, rfl⟩ := hp9; exact ⟨he, rfl, r9, ⟨ha, hm⟩, rfl⟩))

def hhL_sum : List (Nat × Nat × Nat × Nat) := [(0, 9, 12, 15)]
set_option maxRecDepth 20000 in
set_option maxHeartbeats 1000000 in
theorem c_L_sum (l : Launch) (G : mG) (hG : mInj G) (M : Mem) (g : Glo) (hfl : l.stackTraces = false) (V : View) (Hs : List View) (len : Nat) (T : Nat → Int32) (hI : cINV M V Hs len T) (w : Int32) : mcW l G yL_sum cL_sum 4 hhL_sum 8 1 6 [.ref (mA G 0), .int w, .ref (mA G 117)] M g (wrP M g (eIn w 0 2) (fun r M' => r = sumF V w.toNatClampNeg ∧ M' = M)) := by
  refine mcW_of (L0 := [(0, .ref (mA G 0)), (1, .int w), (2, .ref (mA G 117))]) hG (by decide) (Nat.le_of_ble_eq_true rfl) rfl ?_
  intro p e s m args below meth c Q C htab hend
  refine r_aload_n C dL_sum_0 2 rfl ?_
  refine r_iconst (v := 0) C dL_sum_1 rfl ?_
  refine r_aload_n C dL_sum_2 0 rfl ?_
  refine r_iload_n C dL_sum_3 1 rfl ?_
  refine r_hVI (As := [.int w]) (rest := [.int 0, .ref (mA G 117)]) C dL_sum_4 s_L_40 (c_X7_sum l G hG M g hfl V Hs len T hI w) (by decide) rfl rfl rfl rfl (Nat.le_of_ble_eq_true rfl) (Nat.le_of_ble_eq_true rfl) (Nat.le_of_ble_eq_true rfl) (fun E9 hE9 => ?_) (fun r9 M9 g9 hp9 => ?_)
  ·
    ·
      obtain ⟨rfl, he⟩ := hE9
      refine r_catch (E := IAE) (name := IAE) C [] ⟨0, 9, 12, 15⟩ [] htab (fun _ h => absurd h List.not_mem_nil) (by decide) (by decide) lk_15 ca_IAE (fun q9 => ?_)
      refine r_astore_n (L' := [(3, .ref q9), (0, .ref (mA G 0)), (1, .int w), (2, .ref (mA G 117))]) C dL_sum_12 (by decide) rfl ?_
      refine r_iconst (v := 1) C dL_sum_13 rfl ?_
      exact hend _ _ _ _ _ _ _ (Nat.le_of_ble_eq_true rfl) (Nat.le_of_ble_eq_true rfl) dL_sum_14 (Or.inr ⟨1, by decide, he, rfl, rfl, rfl⟩)
  refine r_i2l C dL_sum_7 ?_
  refine r_last C dL_sum_8 rfl (vp_in_nI (by decide : 0 < 1) (by decide)) ?_
  refine r_goto (tgt := 15) C dL_sum_9 (by decide) ?_
  refine r_iconst (v := 0) C dL_sum_15 rfl ?_
  exact hend _ _ _ _ _ _ _ (Nat.le_of_ble_eq_true rfl) (Nat.le_of_ble_eq_true rfl) dL_sum_16 (Or.inl (by obtain ⟨⟨he, ha⟩, hm, rfl⟩ := hp9; exact ⟨he, rfl, r9, ⟨ha, hm⟩, rfl⟩))

def hhL_addBoiler : List (Nat × Nat × Nat × Nat) := [(0, 12, 15, 15), (0, 12, 19, 17)]
set_option maxRecDepth 20000 in
set_option maxHeartbeats 1000000 in
theorem c_L_addBoiler (l : Launch) (G : mG) (hG : mInj G) (M : Mem) (g : Glo) (hfl : l.stackTraces = false) (V : View) (Hs : List View) (len : Nat) (T : Nat → Int32) (hI : cINV M V Hs len T) (a l9 s9 : Int32) : mcW l G yL_addBoiler cL_addBoiler 6 hhL_addBoiler 8 4 24 [.ref (mA G 0), .int a, .int l9, .int s9, .ref (mA G 117)] M g (wrP M g (eBoi V a l9 s9) (fun r M' => r = nI (vB V) ∧ cINV M' (vBoi V a l9 s9) (hPush Hs V) len T ∧ offC M M')) := by
  refine mcW_of (L0 := [(0, .ref (mA G 0)), (1, .int a), (2, .int l9), (3, .int s9), (4, .ref (mA G 117))]) hG (by decide) (Nat.le_of_ble_eq_true rfl) rfl ?_
  intro p e s m args below meth c Q C htab hend
  refine r_aload C dL_addBoiler_0 4 rfl ?_
  refine r_iconst (v := 0) C dL_addBoiler_2 rfl ?_
  refine r_aload_n C dL_addBoiler_3 0 rfl ?_
  refine r_iload_n C dL_addBoiler_4 1 rfl ?_
  refine r_iload_n C dL_addBoiler_5 2 rfl ?_
  refine r_iload_n C dL_addBoiler_6 3 rfl ?_
  refine r_hVI (As := [.int a, .int l9, .int s9]) (rest := [.int 0, .ref (mA G 117)]) C dL_addBoiler_7 s_L_43 (c_X7_addBoiler l G hG M g hfl V Hs len T hI a l9 s9) (by decide) rfl rfl rfl rfl (Nat.le_of_ble_eq_true rfl) (Nat.le_of_ble_eq_true rfl) (Nat.le_of_ble_eq_true rfl) (fun E9 hE9 => ?_) (fun r9 M9 g9 hp9 => ?_)
  ·
    rcases hE9 with hE9 | hE9
    ·
      obtain ⟨rfl, he⟩ := hE9
      refine r_catch (E := IAE) (name := IAE) C [] ⟨0, 12, 15, 15⟩ [⟨0, 12, 19, 17⟩] htab (fun _ h => absurd h List.not_mem_nil) (by decide) (by decide) lk_15 ca_IAE (fun q9 => ?_)
      refine r_astore (L' := [(5, .ref q9), (0, .ref (mA G 0)), (1, .int a), (2, .int l9), (3, .int s9), (4, .ref (mA G 117))]) C dL_addBoiler_15 (by decide) rfl ?_
      refine r_iconst (v := 1) C dL_addBoiler_17 rfl ?_
      exact hend _ _ _ _ _ _ _ (Nat.le_of_ble_eq_true rfl) (Nat.le_of_ble_eq_true rfl) dL_addBoiler_18 (Or.inr ⟨1, by decide, he, rfl, rfl, rfl⟩)
    ·
      obtain ⟨rfl, he⟩ := hE9
      refine r_catch (E := ISE) (name := ISE) C [⟨0, 12, 15, 15⟩] ⟨0, 12, 19, 17⟩ [] htab (List.forall_mem_cons.mpr ⟨⟨by decide, IAE, lk_15, nc_ISE_IAE⟩, fun _ h => absurd h List.not_mem_nil⟩) (by decide) (by decide) lk_17 ca_ISE (fun q9 => ?_)
      refine r_astore (L' := [(5, .ref q9), (0, .ref (mA G 0)), (1, .int a), (2, .int l9), (3, .int s9), (4, .ref (mA G 117))]) C dL_addBoiler_19 (by decide) rfl ?_
      refine r_iconst (v := 2) C dL_addBoiler_21 rfl ?_
      exact hend _ _ _ _ _ _ _ (Nat.le_of_ble_eq_true rfl) (Nat.le_of_ble_eq_true rfl) dL_addBoiler_22 (Or.inr ⟨2, by decide, he, rfl, rfl, rfl⟩)
  refine r_i2l C dL_addBoiler_10 ?_
  refine r_last C dL_addBoiler_11 rfl (vp_in_nI (by decide : 0 < 1) (by decide)) ?_
  refine r_goto (tgt := 23) C dL_addBoiler_12 (by decide) ?_
  refine r_iconst (v := 0) C dL_addBoiler_23 rfl ?_
  exact hend _ _ _ _ _ _ _ (Nat.le_of_ble_eq_true rfl) (Nat.le_of_ble_eq_true rfl) dL_addBoiler_24 (Or.inl (by obtain ⟨⟨he, ha⟩, rfl⟩ := hp9; exact ⟨he, rfl, r9, ha, rfl⟩))

def hhL_setCost : List (Nat × Nat × Nat × Nat) := [(0, 10, 13, 13), (0, 10, 17, 15)]
set_option maxRecDepth 20000 in
set_option maxHeartbeats 1000000 in
theorem c_L_setCost (l : Launch) (G : mG) (hG : mInj G) (M : Mem) (g : Glo) (hfl : l.stackTraces = false) (V : View) (Hs : List View) (len : Nat) (T : Nat → Int32) (hI : cINV M V Hs len T) (n x : Int32) : mcW l G yL_setCost cL_setCost 5 hhL_setCost 8 2 12 [.ref (mA G 0), .int n, .int x, .ref (mA G 117)] M g (wrP M g (eCost V n x) (fun r M' => r = vO V 2 n.toNatClampNeg ∧ cINV M' (vBo V 2 n.toNatClampNeg x) (hPush Hs V) len T ∧ offC M M')) := by
  refine mcW_of (L0 := [(0, .ref (mA G 0)), (1, .int n), (2, .int x), (3, .ref (mA G 117))]) hG (by decide) (Nat.le_of_ble_eq_true rfl) rfl ?_
  intro p e s m args below meth c Q C htab hend
  refine r_aload_n C dL_setCost_0 3 rfl ?_
  refine r_iconst (v := 0) C dL_setCost_1 rfl ?_
  refine r_aload_n C dL_setCost_2 0 rfl ?_
  refine r_iload_n C dL_setCost_3 1 rfl ?_
  refine r_iload_n C dL_setCost_4 2 rfl ?_
  refine r_hVI (As := [.int n, .int x]) (rest := [.int 0, .ref (mA G 117)]) C dL_setCost_5 s_L_46 (c_X7_setCost l G hG M g hfl V Hs len T hI n x) (by decide) rfl rfl rfl rfl (Nat.le_of_ble_eq_true rfl) (Nat.le_of_ble_eq_true rfl) (Nat.le_of_ble_eq_true rfl) (fun E9 hE9 => ?_) (fun r9 M9 g9 hp9 => ?_)
  ·
    rcases hE9 with hE9 | hE9
    ·
      obtain ⟨rfl, he⟩ := hE9
      refine r_catch (E := IOO) (name := IOO) C [] ⟨0, 10, 13, 13⟩ [⟨0, 10, 17, 15⟩] htab (fun _ h => absurd h List.not_mem_nil) (by decide) (by decide) lk_13 ca_IOO (fun q9 => ?_)
      refine r_astore (L' := [(4, .ref q9), (0, .ref (mA G 0)), (1, .int n), (2, .int x), (3, .ref (mA G 117))]) C dL_setCost_13 (by decide) rfl ?_
      refine r_iconst (v := 1) C dL_setCost_15 rfl ?_
      exact hend _ _ _ _ _ _ _ (Nat.le_of_ble_eq_true rfl) (Nat.le_of_ble_eq_true rfl) dL_setCost_16 (Or.inr ⟨1, by decide, he, rfl, rfl, rfl⟩)
    ·
      obtain ⟨rfl, he⟩ := hE9
      refine r_catch (E := IAE) (name := IAE) C [⟨0, 10, 13, 13⟩] ⟨0, 10, 17, 15⟩ [] htab (List.forall_mem_cons.mpr ⟨⟨by decide, IOO, lk_13, nc_IAE_IOO⟩, fun _ h => absurd h List.not_mem_nil⟩) (by decide) (by decide) lk_15 ca_IAE (fun q9 => ?_)
      refine r_astore (L' := [(4, .ref q9), (0, .ref (mA G 0)), (1, .int n), (2, .int x), (3, .ref (mA G 117))]) C dL_setCost_17 (by decide) rfl ?_
      refine r_iconst (v := 2) C dL_setCost_19 rfl ?_
      exact hend _ _ _ _ _ _ _ (Nat.le_of_ble_eq_true rfl) (Nat.le_of_ble_eq_true rfl) dL_setCost_20 (Or.inr ⟨2, by decide, he, rfl, rfl, rfl⟩)
  refine r_i2l C dL_setCost_8 ?_
  refine r_last C dL_setCost_9 rfl (vp_in_nI (by decide : 0 < 1) (by decide)) ?_
  refine r_goto (tgt := 21) C dL_setCost_10 (by decide) ?_
  refine r_iconst (v := 0) C dL_setCost_21 rfl ?_
  exact hend _ _ _ _ _ _ _ (Nat.le_of_ble_eq_true rfl) (Nat.le_of_ble_eq_true rfl) dL_setCost_22 (Or.inl (by obtain ⟨⟨he, ha⟩, rfl⟩ := hp9; exact ⟨he, rfl, r9, ha, rfl⟩))

def hhL_boiler : List (Nat × Nat × Nat × Nat) := [(0, 10, 13, 13), (0, 10, 17, 15)]
set_option maxRecDepth 20000 in
set_option maxHeartbeats 1000000 in
theorem c_L_boiler (l : Launch) (G : mG) (hG : mInj G) (M : Mem) (g : Glo) (hfl : l.stackTraces = false) (V : View) (Hs : List View) (len : Nat) (T : Nat → Int32) (hI : cINV M V Hs len T) (n w : Int32) : mcW l G yL_boiler cL_boiler 5 hhL_boiler 8 2 12 [.ref (mA G 0), .int n, .int w, .ref (mA G 117)] M g (wrP M g (eBoiler V n w) (fun r M' => r = boiF V n.toNatClampNeg w.toNatClampNeg ∧ M' = M)) := by
  refine mcW_of (L0 := [(0, .ref (mA G 0)), (1, .int n), (2, .int w), (3, .ref (mA G 117))]) hG (by decide) (Nat.le_of_ble_eq_true rfl) rfl ?_
  intro p e s m args below meth c Q C htab hend
  refine r_aload_n C dL_boiler_0 3 rfl ?_
  refine r_iconst (v := 0) C dL_boiler_1 rfl ?_
  refine r_aload_n C dL_boiler_2 0 rfl ?_
  refine r_iload_n C dL_boiler_3 1 rfl ?_
  refine r_iload_n C dL_boiler_4 2 rfl ?_
  refine r_hVI (As := [.int n, .int w]) (rest := [.int 0, .ref (mA G 117)]) C dL_boiler_5 s_L_49 (c_X7_boiler l G hG M g hfl V Hs len T hI n w) (by decide) rfl rfl rfl rfl (Nat.le_of_ble_eq_true rfl) (Nat.le_of_ble_eq_true rfl) (Nat.le_of_ble_eq_true rfl) (fun E9 hE9 => ?_) (fun r9 M9 g9 hp9 => ?_)
  ·
    rcases hE9 with hE9 | hE9
    ·
      obtain ⟨rfl, he⟩ := hE9
      refine r_catch (E := IOO) (name := IOO) C [] ⟨0, 10, 13, 13⟩ [⟨0, 10, 17, 15⟩] htab (fun _ h => absurd h List.not_mem_nil) (by decide) (by decide) lk_13 ca_IOO (fun q9 => ?_)
      refine r_astore (L' := [(4, .ref q9), (0, .ref (mA G 0)), (1, .int n), (2, .int w), (3, .ref (mA G 117))]) C dL_boiler_13 (by decide) rfl ?_
      refine r_iconst (v := 1) C dL_boiler_15 rfl ?_
      exact hend _ _ _ _ _ _ _ (Nat.le_of_ble_eq_true rfl) (Nat.le_of_ble_eq_true rfl) dL_boiler_16 (Or.inr ⟨1, by decide, he, rfl, rfl, rfl⟩)
    ·
      obtain ⟨rfl, he⟩ := hE9
      refine r_catch (E := IAE) (name := IAE) C [⟨0, 10, 13, 13⟩] ⟨0, 10, 17, 15⟩ [] htab (List.forall_mem_cons.mpr ⟨⟨by decide, IOO, lk_13, nc_IAE_IOO⟩, fun _ h => absurd h List.not_mem_nil⟩) (by decide) (by decide) lk_15 ca_IAE (fun q9 => ?_)
      refine r_astore (L' := [(4, .ref q9), (0, .ref (mA G 0)), (1, .int n), (2, .int w), (3, .ref (mA G 117))]) C dL_boiler_17 (by decide) rfl ?_
      refine r_iconst (v := 2) C dL_boiler_19 rfl ?_
      exact hend _ _ _ _ _ _ _ (Nat.le_of_ble_eq_true rfl) (Nat.le_of_ble_eq_true rfl) dL_boiler_20 (Or.inr ⟨2, by decide, he, rfl, rfl, rfl⟩)
  refine r_i2l C dL_boiler_8 ?_
  refine r_last C dL_boiler_9 rfl (vp_in_nI (by decide : 0 < 1) (by decide)) ?_
  refine r_goto (tgt := 21) C dL_boiler_10 (by decide) ?_
  refine r_iconst (v := 0) C dL_boiler_21 rfl ?_
  exact hend _ _ _ _ _ _ _ (Nat.le_of_ble_eq_true rfl) (Nat.le_of_ble_eq_true rfl) dL_boiler_22 (Or.inl (by obtain ⟨⟨he, ha⟩, hm, rfl⟩ := hp9; exact ⟨he, rfl, r9, ⟨ha, hm⟩, rfl⟩))

def hhL_setTariff : List (Nat × Nat × Nat × Nat) := [(0, 12, 15, 15)]
set_option maxRecDepth 20000 in
set_option maxHeartbeats 1000000 in
theorem c_L_setTariff (l : Launch) (G : mG) (hG : mInj G) (M : Mem) (g : Glo) (hfl : l.stackTraces = false) (V : View) (Hs : List View) (len : Nat) (T : Nat → Int32) (hI : cINV M V Hs len T) (a b d : Int32) : mcW l G yL_setTariff cL_setTariff 6 hhL_setTariff 8 3 18 [.ref (mA G 0), .int a, .int b, .int d, .ref (mA G 117)] M g (wrP M g (eTar a b d) (fun r M' => r = vS V 2 ∧ cINV M' (vSc (vSc (vSc V 2 a) 3 b) 4 d) (hPush Hs V) len T ∧ offC M M')) := by
  refine mcW_of (L0 := [(0, .ref (mA G 0)), (1, .int a), (2, .int b), (3, .int d), (4, .ref (mA G 117))]) hG (by decide) (Nat.le_of_ble_eq_true rfl) rfl ?_
  intro p e s m args below meth c Q C htab hend
  refine r_aload C dL_setTariff_0 4 rfl ?_
  refine r_iconst (v := 0) C dL_setTariff_2 rfl ?_
  refine r_aload_n C dL_setTariff_3 0 rfl ?_
  refine r_iload_n C dL_setTariff_4 1 rfl ?_
  refine r_iload_n C dL_setTariff_5 2 rfl ?_
  refine r_iload_n C dL_setTariff_6 3 rfl ?_
  refine r_hVI (As := [.int a, .int b, .int d]) (rest := [.int 0, .ref (mA G 117)]) C dL_setTariff_7 s_L_52 (c_X7_setTariff l G hG M g hfl V Hs len T hI a b d) (by decide) rfl rfl rfl rfl (Nat.le_of_ble_eq_true rfl) (Nat.le_of_ble_eq_true rfl) (Nat.le_of_ble_eq_true rfl) (fun E9 hE9 => ?_) (fun r9 M9 g9 hp9 => ?_)
  ·
    ·
      obtain ⟨rfl, he⟩ := hE9
      refine r_catch (E := IAE) (name := IAE) C [] ⟨0, 12, 15, 15⟩ [] htab (fun _ h => absurd h List.not_mem_nil) (by decide) (by decide) lk_15 ca_IAE (fun q9 => ?_)
      refine r_astore (L' := [(5, .ref q9), (0, .ref (mA G 0)), (1, .int a), (2, .int b), (3, .int d), (4, .ref (mA G 117))]) C dL_setTariff_15 (by decide) rfl ?_
      refine r_iconst (v := 1) C dL_setTariff_17 rfl ?_
      exact hend _ _ _ _ _ _ _ (Nat.le_of_ble_eq_true rfl) (Nat.le_of_ble_eq_true rfl) dL_setTariff_18 (Or.inr ⟨1, by decide, he, rfl, rfl, rfl⟩)
  refine r_i2l C dL_setTariff_10 ?_
  refine r_last C dL_setTariff_11 rfl (vp_in_nI (by decide : 0 < 1) (by decide)) ?_
  refine r_goto (tgt := 19) C dL_setTariff_12 (by decide) ?_
  refine r_iconst (v := 0) C dL_setTariff_19 rfl ?_
  exact hend _ _ _ _ _ _ _ (Nat.le_of_ble_eq_true rfl) (Nat.le_of_ble_eq_true rfl) dL_setTariff_20 (Or.inl (by obtain ⟨⟨he, ha⟩, rfl⟩ := hp9; exact ⟨he, rfl, r9, ha, rfl⟩))

def hhL_pass : List (Nat × Nat × Nat × Nat) := [(0, 9, 12, 15), (0, 9, 15, 17)]
set_option maxRecDepth 20000 in
set_option maxHeartbeats 1000000 in
theorem c_L_pass (l : Launch) (G : mG) (hG : mInj G) (M : Mem) (g : Glo) (hfl : l.stackTraces = false) (V : View) (Hs : List View) (len : Nat) (T : Nat → Int32) (hI : cINV M V Hs len T) (h : Int32) : mcW l G yL_pass cL_pass 4 hhL_pass 8 2 12 [.ref (mA G 0), .int h, .ref (mA G 117)] M g (wrP M g (ePass V h) (fun r M' => r = vS V 8 + h ∧ cINV M' (vPass V h) (hPush Hs V) len T ∧ offC M M')) := by
  refine mcW_of (L0 := [(0, .ref (mA G 0)), (1, .int h), (2, .ref (mA G 117))]) hG (by decide) (Nat.le_of_ble_eq_true rfl) rfl ?_
  intro p e s m args below meth c Q C htab hend
  refine r_aload_n C dL_pass_0 2 rfl ?_
  refine r_iconst (v := 0) C dL_pass_1 rfl ?_
  refine r_aload_n C dL_pass_2 0 rfl ?_
  refine r_iload_n C dL_pass_3 1 rfl ?_
  refine r_hVI (As := [.int h]) (rest := [.int 0, .ref (mA G 117)]) C dL_pass_4 s_L_55 (c_X7_pass l G hG M g hfl V Hs len T hI h) (by decide) rfl rfl rfl rfl (Nat.le_of_ble_eq_true rfl) (Nat.le_of_ble_eq_true rfl) (Nat.le_of_ble_eq_true rfl) (fun E9 hE9 => ?_) (fun r9 M9 g9 hp9 => ?_)
  ·
    rcases hE9 with hE9 | hE9
    ·
      obtain ⟨rfl, he⟩ := hE9
      refine r_catch (E := IAE) (name := IAE) C [] ⟨0, 9, 12, 15⟩ [⟨0, 9, 15, 17⟩] htab (fun _ h => absurd h List.not_mem_nil) (by decide) (by decide) lk_15 ca_IAE (fun q9 => ?_)
      refine r_astore_n (L' := [(3, .ref q9), (0, .ref (mA G 0)), (1, .int h), (2, .ref (mA G 117))]) C dL_pass_12 (by decide) rfl ?_
      refine r_iconst (v := 1) C dL_pass_13 rfl ?_
      exact hend _ _ _ _ _ _ _ (Nat.le_of_ble_eq_true rfl) (Nat.le_of_ble_eq_true rfl) dL_pass_14 (Or.inr ⟨1, by decide, he, rfl, rfl, rfl⟩)
    ·
      obtain ⟨rfl, he⟩ := hE9
      refine r_catch (E := ISE) (name := ISE) C [⟨0, 9, 12, 15⟩] ⟨0, 9, 15, 17⟩ [] htab (List.forall_mem_cons.mpr ⟨⟨by decide, IAE, lk_15, nc_ISE_IAE⟩, fun _ h => absurd h List.not_mem_nil⟩) (by decide) (by decide) lk_17 ca_ISE (fun q9 => ?_)
      refine r_astore_n (L' := [(3, .ref q9), (0, .ref (mA G 0)), (1, .int h), (2, .ref (mA G 117))]) C dL_pass_15 (by decide) rfl ?_
      refine r_iconst (v := 2) C dL_pass_16 rfl ?_
      exact hend _ _ _ _ _ _ _ (Nat.le_of_ble_eq_true rfl) (Nat.le_of_ble_eq_true rfl) dL_pass_17 (Or.inr ⟨2, by decide, he, rfl, rfl, rfl⟩)
  refine r_i2l C dL_pass_7 ?_
  refine r_last C dL_pass_8 rfl (vp_in_nI (by decide : 0 < 1) (by decide)) ?_
  refine r_goto (tgt := 18) C dL_pass_9 (by decide) ?_
  refine r_iconst (v := 0) C dL_pass_18 rfl ?_
  exact hend _ _ _ _ _ _ _ (Nat.le_of_ble_eq_true rfl) (Nat.le_of_ble_eq_true rfl) dL_pass_19 (Or.inl (by obtain ⟨⟨he, ha⟩, rfl⟩ := hp9; exact ⟨he, rfl, r9, ha, rfl⟩))

def hhL_setMeter : List (Nat × Nat × Nat × Nat) := [(0, 10, 13, 13)]
set_option maxRecDepth 20000 in
set_option maxHeartbeats 1000000 in
theorem c_L_setMeter (l : Launch) (G : mG) (hG : mInj G) (M : Mem) (g : Glo) (hfl : l.stackTraces = false) (V : View) (Hs : List View) (len : Nat) (T : Nat → Int32) (hI : cINV M V Hs len T) (n x : Int32) : mcW l G yL_setMeter cL_setMeter 5 hhL_setMeter 8 1 6 [.ref (mA G 0), .int n, .int x, .ref (mA G 117)] M g (wrP M g (ePp V n) (fun r M' => r = sumP (vD (vSet V 6 n.toNatClampNeg (b2i (decide (¬ x = 0)))) 6) (vN V) ∧ cINV M' (vSet V 6 n.toNatClampNeg (b2i (decide (¬ x = 0)))) (hPush Hs V) len T ∧ offC M M')) := by
  refine mcW_of (L0 := [(0, .ref (mA G 0)), (1, .int n), (2, .int x), (3, .ref (mA G 117))]) hG (by decide) (Nat.le_of_ble_eq_true rfl) rfl ?_
  intro p e s m args below meth c Q C htab hend
  refine r_aload_n C dL_setMeter_0 3 rfl ?_
  refine r_iconst (v := 0) C dL_setMeter_1 rfl ?_
  refine r_aload_n C dL_setMeter_2 0 rfl ?_
  refine r_iload_n C dL_setMeter_3 1 rfl ?_
  refine r_iload_n C dL_setMeter_4 2 rfl ?_
  refine r_hVI (As := [.int n, .int x]) (rest := [.int 0, .ref (mA G 117)]) C dL_setMeter_5 s_L_58 (c_X7_setMeter l G hG M g hfl V Hs len T hI n x) (by decide) rfl rfl rfl rfl (Nat.le_of_ble_eq_true rfl) (Nat.le_of_ble_eq_true rfl) (Nat.le_of_ble_eq_true rfl) (fun E9 hE9 => ?_) (fun r9 M9 g9 hp9 => ?_)
  ·
    ·
      obtain ⟨rfl, he⟩ := hE9
      refine r_catch (E := IOO) (name := IOO) C [] ⟨0, 10, 13, 13⟩ [] htab (fun _ h => absurd h List.not_mem_nil) (by decide) (by decide) lk_13 ca_IOO (fun q9 => ?_)
      refine r_astore (L' := [(4, .ref q9), (0, .ref (mA G 0)), (1, .int n), (2, .int x), (3, .ref (mA G 117))]) C dL_setMeter_13 (by decide) rfl ?_
      refine r_iconst (v := 1) C dL_setMeter_15 rfl ?_
      exact hend _ _ _ _ _ _ _ (Nat.le_of_ble_eq_true rfl) (Nat.le_of_ble_eq_true rfl) dL_setMeter_16 (Or.inr ⟨1, by decide, he, rfl, rfl, rfl⟩)
  refine r_i2l C dL_setMeter_8 ?_
  refine r_last C dL_setMeter_9 rfl (vp_in_nI (by decide : 0 < 1) (by decide)) ?_
  refine r_goto (tgt := 17) C dL_setMeter_10 (by decide) ?_
  refine r_iconst (v := 0) C dL_setMeter_17 rfl ?_
  exact hend _ _ _ _ _ _ _ (Nat.le_of_ble_eq_true rfl) (Nat.le_of_ble_eq_true rfl) dL_setMeter_18 (Or.inl (by obtain ⟨⟨he, ha⟩, rfl⟩ := hp9; exact ⟨he, rfl, r9, ha, rfl⟩))

def hhL_balance : List (Nat × Nat × Nat × Nat) := [(0, 9, 12, 13)]
set_option maxRecDepth 20000 in
set_option maxHeartbeats 1000000 in
theorem c_L_balance (l : Launch) (G : mG) (hG : mInj G) (M : Mem) (g : Glo) (hfl : l.stackTraces = false) (V : View) (Hs : List View) (len : Nat) (T : Nat → Int32) (hI : cINV M V Hs len T) (n : Int32) : mcW l G yL_balance cL_balance 4 hhL_balance 8 1 6 [.ref (mA G 0), .int n, .ref (mA G 117)] M g (wrP M g (eNd V n) (fun r M' => r = balF (vD V 6) (lkF V (vD V 6)) n.toNatClampNeg ∧ M' = M)) := by
  refine mcW_of (L0 := [(0, .ref (mA G 0)), (1, .int n), (2, .ref (mA G 117))]) hG (by decide) (Nat.le_of_ble_eq_true rfl) rfl ?_
  intro p e s m args below meth c Q C htab hend
  refine r_aload_n C dL_balance_0 2 rfl ?_
  refine r_iconst (v := 0) C dL_balance_1 rfl ?_
  refine r_aload_n C dL_balance_2 0 rfl ?_
  refine r_iload_n C dL_balance_3 1 rfl ?_
  refine r_hVI (As := [.int n]) (rest := [.int 0, .ref (mA G 117)]) C dL_balance_4 s_L_62 (c_X7_balance l G hG M g hfl V Hs len T hI n) (by decide) rfl rfl rfl rfl (Nat.le_of_ble_eq_true rfl) (Nat.le_of_ble_eq_true rfl) (Nat.le_of_ble_eq_true rfl) (fun E9 hE9 => ?_) (fun r9 M9 g9 hp9 => ?_)
  ·
    ·
      obtain ⟨rfl, he⟩ := hE9
      refine r_catch (E := IOO) (name := IOO) C [] ⟨0, 9, 12, 13⟩ [] htab (fun _ h => absurd h List.not_mem_nil) (by decide) (by decide) lk_13 ca_IOO (fun q9 => ?_)
      refine r_astore_n (L' := [(3, .ref q9), (0, .ref (mA G 0)), (1, .int n), (2, .ref (mA G 117))]) C dL_balance_12 (by decide) rfl ?_
      refine r_iconst (v := 1) C dL_balance_13 rfl ?_
      exact hend _ _ _ _ _ _ _ (Nat.le_of_ble_eq_true rfl) (Nat.le_of_ble_eq_true rfl) dL_balance_14 (Or.inr ⟨1, by decide, he, rfl, rfl, rfl⟩)
  refine r_i2l C dL_balance_7 ?_
  refine r_last C dL_balance_8 rfl (vp_in_nI (by decide : 0 < 1) (by decide)) ?_
  refine r_goto (tgt := 15) C dL_balance_9 (by decide) ?_
  refine r_iconst (v := 0) C dL_balance_15 rfl ?_
  exact hend _ _ _ _ _ _ _ (Nat.le_of_ble_eq_true rfl) (Nat.le_of_ble_eq_true rfl) dL_balance_16 (Or.inl (by obtain ⟨⟨he, ha⟩, hm, rfl⟩ := hp9; exact ⟨he, rfl, r9, ⟨ha, hm⟩, rfl⟩))

def hhL_region : List (Nat × Nat × Nat × Nat) := [(0, 9, 12, 13)]
set_option maxRecDepth 20000 in
set_option maxHeartbeats 1000000 in
theorem c_L_region (l : Launch) (G : mG) (hG : mInj G) (M : Mem) (g : Glo) (hfl : l.stackTraces = false) (V : View) (Hs : List View) (len : Nat) (T : Nat → Int32) (hI : cINV M V Hs len T) (n : Int32) : mcW l G yL_region cL_region 4 hhL_region 8 1 6 [.ref (mA G 0), .int n, .ref (mA G 117)] M g (wrP M g (eNd V n) (fun r M' => r = balF (vD V 6) (szF V (vD V 6)) n.toNatClampNeg ∧ M' = M)) := by
  refine mcW_of (L0 := [(0, .ref (mA G 0)), (1, .int n), (2, .ref (mA G 117))]) hG (by decide) (Nat.le_of_ble_eq_true rfl) rfl ?_
  intro p e s m args below meth c Q C htab hend
  refine r_aload_n C dL_region_0 2 rfl ?_
  refine r_iconst (v := 0) C dL_region_1 rfl ?_
  refine r_aload_n C dL_region_2 0 rfl ?_
  refine r_iload_n C dL_region_3 1 rfl ?_
  refine r_hVI (As := [.int n]) (rest := [.int 0, .ref (mA G 117)]) C dL_region_4 s_L_65 (c_X7_region l G hG M g hfl V Hs len T hI n) (by decide) rfl rfl rfl rfl (Nat.le_of_ble_eq_true rfl) (Nat.le_of_ble_eq_true rfl) (Nat.le_of_ble_eq_true rfl) (fun E9 hE9 => ?_) (fun r9 M9 g9 hp9 => ?_)
  ·
    ·
      obtain ⟨rfl, he⟩ := hE9
      refine r_catch (E := IOO) (name := IOO) C [] ⟨0, 9, 12, 13⟩ [] htab (fun _ h => absurd h List.not_mem_nil) (by decide) (by decide) lk_13 ca_IOO (fun q9 => ?_)
      refine r_astore_n (L' := [(3, .ref q9), (0, .ref (mA G 0)), (1, .int n), (2, .ref (mA G 117))]) C dL_region_12 (by decide) rfl ?_
      refine r_iconst (v := 1) C dL_region_13 rfl ?_
      exact hend _ _ _ _ _ _ _ (Nat.le_of_ble_eq_true rfl) (Nat.le_of_ble_eq_true rfl) dL_region_14 (Or.inr ⟨1, by decide, he, rfl, rfl, rfl⟩)
  refine r_i2l C dL_region_7 ?_
  refine r_last C dL_region_8 rfl (vp_in_nI (by decide : 0 < 1) (by decide)) ?_
  refine r_goto (tgt := 15) C dL_region_9 (by decide) ?_
  refine r_iconst (v := 0) C dL_region_15 rfl ?_
  exact hend _ _ _ _ _ _ _ (Nat.le_of_ble_eq_true rfl) (Nat.le_of_ble_eq_true rfl) dL_region_16 (Or.inl (by obtain ⟨⟨he, ha⟩, hm, rfl⟩ := hp9; exact ⟨he, rfl, r9, ⟨ha, hm⟩, rfl⟩))

def hhL_meterOf : List (Nat × Nat × Nat × Nat) := [(0, 9, 12, 13)]
set_option maxRecDepth 20000 in
set_option maxHeartbeats 1000000 in
theorem c_L_meterOf (l : Launch) (G : mG) (hG : mInj G) (M : Mem) (g : Glo) (hfl : l.stackTraces = false) (V : View) (Hs : List View) (len : Nat) (T : Nat → Int32) (hI : cINV M V Hs len T) (n : Int32) : mcW l G yL_meterOf cL_meterOf 4 hhL_meterOf 8 1 6 [.ref (mA G 0), .int n, .ref (mA G 117)] M g (wrP M g (ePp V n) (fun r M' => r = nI (hdF V (vD V 6) n.toNatClampNeg) ∧ M' = M)) := by
  refine mcW_of (L0 := [(0, .ref (mA G 0)), (1, .int n), (2, .ref (mA G 117))]) hG (by decide) (Nat.le_of_ble_eq_true rfl) rfl ?_
  intro p e s m args below meth c Q C htab hend
  refine r_aload_n C dL_meterOf_0 2 rfl ?_
  refine r_iconst (v := 0) C dL_meterOf_1 rfl ?_
  refine r_aload_n C dL_meterOf_2 0 rfl ?_
  refine r_iload_n C dL_meterOf_3 1 rfl ?_
  refine r_hVI (As := [.int n]) (rest := [.int 0, .ref (mA G 117)]) C dL_meterOf_4 s_L_68 (c_X7_meterOf l G hG M g hfl V Hs len T hI n) (by decide) rfl rfl rfl rfl (Nat.le_of_ble_eq_true rfl) (Nat.le_of_ble_eq_true rfl) (Nat.le_of_ble_eq_true rfl) (fun E9 hE9 => ?_) (fun r9 M9 g9 hp9 => ?_)
  ·
    ·
      obtain ⟨rfl, he⟩ := hE9
      refine r_catch (E := IOO) (name := IOO) C [] ⟨0, 9, 12, 13⟩ [] htab (fun _ h => absurd h List.not_mem_nil) (by decide) (by decide) lk_13 ca_IOO (fun q9 => ?_)
      refine r_astore_n (L' := [(3, .ref q9), (0, .ref (mA G 0)), (1, .int n), (2, .ref (mA G 117))]) C dL_meterOf_12 (by decide) rfl ?_
      refine r_iconst (v := 1) C dL_meterOf_13 rfl ?_
      exact hend _ _ _ _ _ _ _ (Nat.le_of_ble_eq_true rfl) (Nat.le_of_ble_eq_true rfl) dL_meterOf_14 (Or.inr ⟨1, by decide, he, rfl, rfl, rfl⟩)
  refine r_i2l C dL_meterOf_7 ?_
  refine r_last C dL_meterOf_8 rfl (vp_in_nI (by decide : 0 < 1) (by decide)) ?_
  refine r_goto (tgt := 15) C dL_meterOf_9 (by decide) ?_
  refine r_iconst (v := 0) C dL_meterOf_15 rfl ?_
  exact hend _ _ _ _ _ _ _ (Nat.le_of_ble_eq_true rfl) (Nat.le_of_ble_eq_true rfl) dL_meterOf_16 (Or.inl (by obtain ⟨⟨he, ha⟩, hm, rfl⟩ := hp9; exact ⟨he, rfl, r9, ⟨ha, hm⟩, rfl⟩))

def hhL_nextMeter : List (Nat × Nat × Nat × Nat) := [(0, 9, 12, 13)]
set_option maxRecDepth 20000 in
set_option maxHeartbeats 1000000 in
theorem c_L_nextMeter (l : Launch) (G : mG) (hG : mInj G) (M : Mem) (g : Glo) (hfl : l.stackTraces = false) (V : View) (Hs : List View) (len : Nat) (T : Nat → Int32) (hI : cINV M V Hs len T) (n : Int32) : mcW l G yL_nextMeter cL_nextMeter 4 hhL_nextMeter 8 1 6 [.ref (mA G 0), .int n, .ref (mA G 117)] M g (wrP M g (eNd V n) (fun r M' => r = nextF V (vD V 6) n.toNatClampNeg ∧ M' = M)) := by
  refine mcW_of (L0 := [(0, .ref (mA G 0)), (1, .int n), (2, .ref (mA G 117))]) hG (by decide) (Nat.le_of_ble_eq_true rfl) rfl ?_
  intro p e s m args below meth c Q C htab hend
  refine r_aload_n C dL_nextMeter_0 2 rfl ?_
  refine r_iconst (v := 0) C dL_nextMeter_1 rfl ?_
  refine r_aload_n C dL_nextMeter_2 0 rfl ?_
  refine r_iload_n C dL_nextMeter_3 1 rfl ?_
  refine r_hVI (As := [.int n]) (rest := [.int 0, .ref (mA G 117)]) C dL_nextMeter_4 s_L_71 (c_X7_nextMeter l G hG M g hfl V Hs len T hI n) (by decide) rfl rfl rfl rfl (Nat.le_of_ble_eq_true rfl) (Nat.le_of_ble_eq_true rfl) (Nat.le_of_ble_eq_true rfl) (fun E9 hE9 => ?_) (fun r9 M9 g9 hp9 => ?_)
  ·
    ·
      obtain ⟨rfl, he⟩ := hE9
      refine r_catch (E := IOO) (name := IOO) C [] ⟨0, 9, 12, 13⟩ [] htab (fun _ h => absurd h List.not_mem_nil) (by decide) (by decide) lk_13 ca_IOO (fun q9 => ?_)
      refine r_astore_n (L' := [(3, .ref q9), (0, .ref (mA G 0)), (1, .int n), (2, .ref (mA G 117))]) C dL_nextMeter_12 (by decide) rfl ?_
      refine r_iconst (v := 1) C dL_nextMeter_13 rfl ?_
      exact hend _ _ _ _ _ _ _ (Nat.le_of_ble_eq_true rfl) (Nat.le_of_ble_eq_true rfl) dL_nextMeter_14 (Or.inr ⟨1, by decide, he, rfl, rfl, rfl⟩)
  refine r_i2l C dL_nextMeter_7 ?_
  refine r_last C dL_nextMeter_8 rfl (vp_in_nI (by decide : 0 < 1) (by decide)) ?_
  refine r_goto (tgt := 15) C dL_nextMeter_9 (by decide) ?_
  refine r_iconst (v := 0) C dL_nextMeter_15 rfl ?_
  exact hend _ _ _ _ _ _ _ (Nat.le_of_ble_eq_true rfl) (Nat.le_of_ble_eq_true rfl) dL_nextMeter_16 (Or.inl (by obtain ⟨⟨he, ha⟩, hm, rfl⟩ := hp9; exact ⟨he, rfl, r9, ⟨ha, hm⟩, rfl⟩))

def hhL_supplyFor : List (Nat × Nat × Nat × Nat) := [(0, 10, 13, 13), (0, 10, 17, 15)]
set_option maxRecDepth 20000 in
set_option maxHeartbeats 1000000 in
theorem c_L_supplyFor (l : Launch) (G : mG) (hG : mInj G) (M : Mem) (g : Glo) (hfl : l.stackTraces = false) (V : View) (Hs : List View) (len : Nat) (T : Nat → Int32) (hI : cINV M V Hs len T) (n w : Int32) : mcW l G yL_supplyFor cL_supplyFor 5 hhL_supplyFor 8 2 12 [.ref (mA G 0), .int n, .int w, .ref (mA G 117)] M g (wrP M g (eSup V n w) (fun r M' => lowP V (wisF n.toNatClampNeg w) r ∧ cINV M' V Hs len T ∧ offC M M')) := by
  refine mcW_of (L0 := [(0, .ref (mA G 0)), (1, .int n), (2, .int w), (3, .ref (mA G 117))]) hG (by decide) (Nat.le_of_ble_eq_true rfl) rfl ?_
  intro p e s m args below meth c Q C htab hend
  refine r_aload_n C dL_supplyFor_0 3 rfl ?_
  refine r_iconst (v := 0) C dL_supplyFor_1 rfl ?_
  refine r_aload_n C dL_supplyFor_2 0 rfl ?_
  refine r_iload_n C dL_supplyFor_3 1 rfl ?_
  refine r_iload_n C dL_supplyFor_4 2 rfl ?_
  refine r_hVI (As := [.int n, .int w]) (rest := [.int 0, .ref (mA G 117)]) C dL_supplyFor_5 s_L_74 (c_X7_supplyFor l G hG M g hfl V Hs len T hI n w) (by decide) rfl rfl rfl rfl (Nat.le_of_ble_eq_true rfl) (Nat.le_of_ble_eq_true rfl) (Nat.le_of_ble_eq_true rfl) (fun E9 hE9 => ?_) (fun r9 M9 g9 hp9 => ?_)
  ·
    rcases hE9 with hE9 | hE9
    ·
      obtain ⟨rfl, he⟩ := hE9
      refine r_catch (E := IOO) (name := IOO) C [] ⟨0, 10, 13, 13⟩ [⟨0, 10, 17, 15⟩] htab (fun _ h => absurd h List.not_mem_nil) (by decide) (by decide) lk_13 ca_IOO (fun q9 => ?_)
      refine r_astore (L' := [(4, .ref q9), (0, .ref (mA G 0)), (1, .int n), (2, .int w), (3, .ref (mA G 117))]) C dL_supplyFor_13 (by decide) rfl ?_
      refine r_iconst (v := 1) C dL_supplyFor_15 rfl ?_
      exact hend _ _ _ _ _ _ _ (Nat.le_of_ble_eq_true rfl) (Nat.le_of_ble_eq_true rfl) dL_supplyFor_16 (Or.inr ⟨1, by decide, he, rfl, rfl, rfl⟩)
    ·
      obtain ⟨rfl, he⟩ := hE9
      refine r_catch (E := IAE) (name := IAE) C [⟨0, 10, 13, 13⟩] ⟨0, 10, 17, 15⟩ [] htab (List.forall_mem_cons.mpr ⟨⟨by decide, IOO, lk_13, nc_IAE_IOO⟩, fun _ h => absurd h List.not_mem_nil⟩) (by decide) (by decide) lk_15 ca_IAE (fun q9 => ?_)
      refine r_astore (L' := [(4, .ref q9), (0, .ref (mA G 0)), (1, .int n), (2, .int w), (3, .ref (mA G 117))]) C dL_supplyFor_17 (by decide) rfl ?_
      refine r_iconst (v := 2) C dL_supplyFor_19 rfl ?_
      exact hend _ _ _ _ _ _ _ (Nat.le_of_ble_eq_true rfl) (Nat.le_of_ble_eq_true rfl) dL_supplyFor_20 (Or.inr ⟨2, by decide, he, rfl, rfl, rfl⟩)
  refine r_i2l C dL_supplyFor_8 ?_
  refine r_last C dL_supplyFor_9 rfl (vp_in_nI (by decide : 0 < 1) (by decide)) ?_
  refine r_goto (tgt := 21) C dL_supplyFor_10 (by decide) ?_
  refine r_iconst (v := 0) C dL_supplyFor_21 rfl ?_
  exact hend _ _ _ _ _ _ _ (Nat.le_of_ble_eq_true rfl) (Nat.le_of_ble_eq_true rfl) dL_supplyFor_22 (Or.inl (by obtain ⟨⟨he, ha⟩, rfl⟩ := hp9; exact ⟨he, rfl, r9, ha, rfl⟩))

def hhL_saves : List (Nat × Nat × Nat × Nat) := [(0, 9, 12, 13)]
set_option maxRecDepth 20000 in
set_option maxHeartbeats 1000000 in
theorem c_L_saves (l : Launch) (G : mG) (hG : mInj G) (M : Mem) (g : Glo) (hfl : l.stackTraces = false) (V : View) (Hs : List View) (len : Nat) (T : Nat → Int32) (hI : cINV M V Hs len T) (n : Int32) : mcW l G yL_saves cL_saves 4 hhL_saves 8 1 6 [.ref (mA G 0), .int n, .ref (mA G 117)] M g (wrP M g (ePp V n) (fun r M' => r = savF V n.toNatClampNeg ∧ cINV M' V Hs len T ∧ offC M M')) := by
  refine mcW_of (L0 := [(0, .ref (mA G 0)), (1, .int n), (2, .ref (mA G 117))]) hG (by decide) (Nat.le_of_ble_eq_true rfl) rfl ?_
  intro p e s m args below meth c Q C htab hend
  refine r_aload_n C dL_saves_0 2 rfl ?_
  refine r_iconst (v := 0) C dL_saves_1 rfl ?_
  refine r_aload_n C dL_saves_2 0 rfl ?_
  refine r_iload_n C dL_saves_3 1 rfl ?_
  refine r_hVI (As := [.int n]) (rest := [.int 0, .ref (mA G 117)]) C dL_saves_4 s_L_77 (c_X7_saves l G hG M g hfl V Hs len T hI n) (by decide) rfl rfl rfl rfl (Nat.le_of_ble_eq_true rfl) (Nat.le_of_ble_eq_true rfl) (Nat.le_of_ble_eq_true rfl) (fun E9 hE9 => ?_) (fun r9 M9 g9 hp9 => ?_)
  ·
    ·
      obtain ⟨rfl, he⟩ := hE9
      refine r_catch (E := IOO) (name := IOO) C [] ⟨0, 9, 12, 13⟩ [] htab (fun _ h => absurd h List.not_mem_nil) (by decide) (by decide) lk_13 ca_IOO (fun q9 => ?_)
      refine r_astore_n (L' := [(3, .ref q9), (0, .ref (mA G 0)), (1, .int n), (2, .ref (mA G 117))]) C dL_saves_12 (by decide) rfl ?_
      refine r_iconst (v := 1) C dL_saves_13 rfl ?_
      exact hend _ _ _ _ _ _ _ (Nat.le_of_ble_eq_true rfl) (Nat.le_of_ble_eq_true rfl) dL_saves_14 (Or.inr ⟨1, by decide, he, rfl, rfl, rfl⟩)
  refine r_i2l C dL_saves_7 ?_
  refine r_last C dL_saves_8 rfl (vp_in_nI (by decide : 0 < 1) (by decide)) ?_
  refine r_goto (tgt := 15) C dL_saves_9 (by decide) ?_
  refine r_iconst (v := 0) C dL_saves_15 rfl ?_
  exact hend _ _ _ _ _ _ _ (Nat.le_of_ble_eq_true rfl) (Nat.le_of_ble_eq_true rfl) dL_saves_16 (Or.inl (by obtain ⟨⟨he, ha⟩, rfl⟩ := hp9; exact ⟨he, rfl, r9, ha, rfl⟩))

def hhL_append : List (Nat × Nat × Nat × Nat) := [(0, 9, 12, 15), (0, 9, 15, 17)]
set_option maxRecDepth 20000 in
set_option maxHeartbeats 1000000 in
theorem c_L_append (l : Launch) (G : mG) (hG : mInj G) (M : Mem) (g : Glo) (hfl : l.stackTraces = false) (V : View) (Hs : List View) (len : Nat) (T : Nat → Int32) (hI : cINV M V Hs len T) (x : Int32) : mcW l G yL_append cL_append 4 hhL_append 8 2 12 [.ref (mA G 0), .int x, .ref (mA G 117)] M g (wrP M g (eApp len x) (fun r M' => r = nI (len + 1) ∧ cINV M' V Hs (len + 1) (upd T len x) ∧ offC M M')) := by
  refine mcW_of (L0 := [(0, .ref (mA G 0)), (1, .int x), (2, .ref (mA G 117))]) hG (by decide) (Nat.le_of_ble_eq_true rfl) rfl ?_
  intro p e s m args below meth c Q C htab hend
  refine r_aload_n C dL_append_0 2 rfl ?_
  refine r_iconst (v := 0) C dL_append_1 rfl ?_
  refine r_aload_n C dL_append_2 0 rfl ?_
  refine r_iload_n C dL_append_3 1 rfl ?_
  refine r_hVI (As := [.int x]) (rest := [.int 0, .ref (mA G 117)]) C dL_append_4 s_L_80 (c_X7_append l G hG M g hfl V Hs len T hI x) (by decide) rfl rfl rfl rfl (Nat.le_of_ble_eq_true rfl) (Nat.le_of_ble_eq_true rfl) (Nat.le_of_ble_eq_true rfl) (fun E9 hE9 => ?_) (fun r9 M9 g9 hp9 => ?_)
  ·
    rcases hE9 with hE9 | hE9
    ·
      obtain ⟨rfl, he⟩ := hE9
      refine r_catch (E := IAE) (name := IAE) C [] ⟨0, 9, 12, 15⟩ [⟨0, 9, 15, 17⟩] htab (fun _ h => absurd h List.not_mem_nil) (by decide) (by decide) lk_15 ca_IAE (fun q9 => ?_)
      refine r_astore_n (L' := [(3, .ref q9), (0, .ref (mA G 0)), (1, .int x), (2, .ref (mA G 117))]) C dL_append_12 (by decide) rfl ?_
      refine r_iconst (v := 1) C dL_append_13 rfl ?_
      exact hend _ _ _ _ _ _ _ (Nat.le_of_ble_eq_true rfl) (Nat.le_of_ble_eq_true rfl) dL_append_14 (Or.inr ⟨1, by decide, he, rfl, rfl, rfl⟩)
    ·
      obtain ⟨rfl, he⟩ := hE9
      refine r_catch (E := ISE) (name := ISE) C [⟨0, 9, 12, 15⟩] ⟨0, 9, 15, 17⟩ [] htab (List.forall_mem_cons.mpr ⟨⟨by decide, IAE, lk_15, nc_ISE_IAE⟩, fun _ h => absurd h List.not_mem_nil⟩) (by decide) (by decide) lk_17 ca_ISE (fun q9 => ?_)
      refine r_astore_n (L' := [(3, .ref q9), (0, .ref (mA G 0)), (1, .int x), (2, .ref (mA G 117))]) C dL_append_15 (by decide) rfl ?_
      refine r_iconst (v := 2) C dL_append_16 rfl ?_
      exact hend _ _ _ _ _ _ _ (Nat.le_of_ble_eq_true rfl) (Nat.le_of_ble_eq_true rfl) dL_append_17 (Or.inr ⟨2, by decide, he, rfl, rfl, rfl⟩)
  refine r_i2l C dL_append_7 ?_
  refine r_last C dL_append_8 rfl (vp_in_nI (by decide : 0 < 1) (by decide)) ?_
  refine r_goto (tgt := 18) C dL_append_9 (by decide) ?_
  refine r_iconst (v := 0) C dL_append_18 rfl ?_
  exact hend _ _ _ _ _ _ _ (Nat.le_of_ble_eq_true rfl) (Nat.le_of_ble_eq_true rfl) dL_append_19 (Or.inl (by obtain ⟨⟨he, ha⟩, rfl⟩ := hp9; exact ⟨he, rfl, r9, ha, rfl⟩))

def hhL_undo : List (Nat × Nat × Nat × Nat) := [(0, 8, 11, 17)]
set_option maxRecDepth 20000 in
set_option maxHeartbeats 1000000 in
theorem c_L_undo (l : Launch) (G : mG) (hG : mInj G) (M : Mem) (g : Glo) (hfl : l.stackTraces = false) (V : View) (Hs : List View) (len : Nat) (T : Nat → Int32) (hI : cINV M V Hs len T)  : mcW l G yL_undo cL_undo 3 hhL_undo 7 1 6 [.ref (mA G 0), .ref (mA G 117)] M g (wrP M g (eUndo Hs) (fun r M' => ∃ Hs0 V0, Hs = Hs0 ++ [V0] ∧ r = nI Hs0.length ∧ cINV M' V0 Hs0 len T ∧ offC M M')) := by
  refine mcW_of (L0 := [(0, .ref (mA G 0)), (1, .ref (mA G 117))]) hG (by decide) (Nat.le_of_ble_eq_true rfl) rfl ?_
  intro p e s m args below meth c Q C htab hend
  refine r_aload_n C dL_undo_0 1 rfl ?_
  refine r_iconst (v := 0) C dL_undo_1 rfl ?_
  refine r_aload_n C dL_undo_2 0 rfl ?_
  refine r_hVI (As := []) (rest := [.int 0, .ref (mA G 117)]) C dL_undo_3 s_L_83 (c_X7_undo l G hG M g hfl V Hs len T hI ) (by decide) rfl rfl rfl rfl (Nat.le_of_ble_eq_true rfl) (Nat.le_of_ble_eq_true rfl) (Nat.le_of_ble_eq_true rfl) (fun E9 hE9 => ?_) (fun r9 M9 g9 hp9 => ?_)
  ·
    ·
      obtain ⟨rfl, he⟩ := hE9
      refine r_catch (E := ISE) (name := ISE) C [] ⟨0, 8, 11, 17⟩ [] htab (fun _ h => absurd h List.not_mem_nil) (by decide) (by decide) lk_17 ca_ISE (fun q9 => ?_)
      refine r_astore_n (L' := [(2, .ref q9), (0, .ref (mA G 0)), (1, .ref (mA G 117))]) C dL_undo_11 (by decide) rfl ?_
      refine r_iconst (v := 1) C dL_undo_12 rfl ?_
      exact hend _ _ _ _ _ _ _ (Nat.le_of_ble_eq_true rfl) (Nat.le_of_ble_eq_true rfl) dL_undo_13 (Or.inr ⟨1, by decide, he, rfl, rfl, rfl⟩)
  refine r_i2l C dL_undo_6 ?_
  refine r_last C dL_undo_7 rfl (vp_in_nI (by decide : 0 < 1) (by decide)) ?_
  refine r_goto (tgt := 14) C dL_undo_8 (by decide) ?_
  refine r_iconst (v := 0) C dL_undo_14 rfl ?_
  exact hend _ _ _ _ _ _ _ (Nat.le_of_ble_eq_true rfl) (Nat.le_of_ble_eq_true rfl) dL_undo_15 (Or.inl (by obtain ⟨⟨he, ha⟩, rfl⟩ := hp9; exact ⟨he, rfl, r9, ha, rfl⟩))
