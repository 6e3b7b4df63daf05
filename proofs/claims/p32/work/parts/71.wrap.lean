def hhL_adds : List (Nat × Nat × Nat × Nat) := [(0, 11, 12, 71), (0, 11, 17, 73), (0, 11, 22, 75)]
set_option maxRecDepth 20000 in
set_option maxHeartbeats 1000000 in
theorem c_L_adds (l : Launch) (G : mG) (hG : mInj G) (M : Mem) (g : Glo) (hfl : l.stackTraces = false) (V : View) (Hs : List View) (len : Nat) (T : Nat → Int32) (hI : cINV M V Hs len T) (a l9 s9 d t : Int32) : mcW l G yL_adds cL_adds 7 hhL_adds 8 6 36 [.ref (mA G 0), .int a, .int l9, .int s9, .int d, .int t] M g (wrP M g (eAdd V a l9 s9 d t) [(-1000000001), (-1000000002), (-1000000003)] (fun r M' => r = nI (vN V) ∧ cINV M' (vAdd V a l9 s9 d t) (hPush Hs V) len T ∧ offC M M')) := by
  refine mcW_of (L0 := [(0, .ref (mA G 0)), (1, .int a), (2, .int l9), (3, .int s9), (4, .int d), (5, .int t)]) hG (by decide) (Nat.le_of_ble_eq_true rfl) rfl ?_
  intro p e s m args below meth c Q C htab hend
  refine r_aload_n C dL_adds_0 0 rfl ?_
  refine r_iload_n C dL_adds_1 1 rfl ?_
  refine r_iload_n C dL_adds_2 2 rfl ?_
  refine r_iload_n C dL_adds_3 3 rfl ?_
  refine r_iload C dL_adds_4 4 rfl ?_
  refine r_iload C dL_adds_6 5 rfl ?_
  refine r_hVI (As := [.int a, .int l9, .int s9, .int d, .int t]) (rest := []) C dL_adds_8 s_L_65 (c_X7_addNode l G hG M g hfl V Hs len T hI a l9 s9 d t) (by decide) rfl rfl rfl rfl (Nat.le_of_ble_eq_true rfl) (Nat.le_of_ble_eq_true rfl) (Nat.le_of_ble_eq_true rfl) (fun E9 hE9 => ?_) (fun r9 M9 g9 hp9 => ?_)
  ·
    rcases hE9 with hE9 | hE9 | hE9
    ·
      obtain ⟨rfl, he⟩ := hE9
      refine r_catch (E := IOO) (name := IOO) C [] ⟨0, 11, 12, 71⟩ [⟨0, 11, 17, 73⟩, ⟨0, 11, 22, 75⟩] htab (fun _ h => absurd h List.not_mem_nil) (by decide) (by decide) lk_71 ca_IOO (fun q9 => ?_)
      refine r_astore (L' := [(6, .ref q9), (0, .ref (mA G 0)), (1, .int a), (2, .int l9), (3, .int s9), (4, .int d), (5, .int t)]) C dL_adds_12 (by decide) rfl ?_
      refine r_ldc (v := -1000000001) C dL_adds_14 (gd_t 515 (by decide +kernel) rfl) ?_
      exact hend _ _ _ _ _ _ _ (Nat.le_of_ble_eq_true rfl) (Nat.le_of_ble_eq_true rfl) dL_adds_16 (⟨Or.inr ⟨0, (-1000000001), rfl, he, rfl, rfl⟩, rfl⟩)
    ·
      obtain ⟨rfl, he⟩ := hE9
      refine r_catch (E := IAE) (name := IAE) C [⟨0, 11, 12, 71⟩] ⟨0, 11, 17, 73⟩ [⟨0, 11, 22, 75⟩] htab (List.forall_mem_cons.mpr ⟨⟨by decide, IOO, lk_71, nc_IAE_IOO⟩, fun _ h => absurd h List.not_mem_nil⟩) (by decide) (by decide) lk_73 ca_IAE (fun q9 => ?_)
      refine r_astore (L' := [(6, .ref q9), (0, .ref (mA G 0)), (1, .int a), (2, .int l9), (3, .int s9), (4, .int d), (5, .int t)]) C dL_adds_17 (by decide) rfl ?_
      refine r_ldc (v := -1000000002) C dL_adds_19 (gd_t 486 (by decide +kernel) rfl) ?_
      exact hend _ _ _ _ _ _ _ (Nat.le_of_ble_eq_true rfl) (Nat.le_of_ble_eq_true rfl) dL_adds_21 (⟨Or.inr ⟨1, (-1000000002), rfl, he, rfl, rfl⟩, rfl⟩)
    ·
      obtain ⟨rfl, he⟩ := hE9
      refine r_catch (E := ISE) (name := ISE) C [⟨0, 11, 12, 71⟩, ⟨0, 11, 17, 73⟩] ⟨0, 11, 22, 75⟩ [] htab (List.forall_mem_cons.mpr ⟨⟨by decide, IOO, lk_71, nc_ISE_IOO⟩, List.forall_mem_cons.mpr ⟨⟨by decide, IAE, lk_73, nc_ISE_IAE⟩, fun _ h => absurd h List.not_mem_nil⟩⟩) (by decide) (by decide) lk_75 ca_ISE (fun q9 => ?_)
      refine r_astore (L' := [(6, .ref q9), (0, .ref (mA G 0)), (1, .int a), (2, .int l9), (3, .int s9), (4, .int d), (5, .int t)]) C dL_adds_22 (by decide) rfl ?_
      refine r_ldc (v := -1000000003) C dL_adds_24 (gd_t 552 (by decide +kernel) rfl) ?_
      exact hend _ _ _ _ _ _ _ (Nat.le_of_ble_eq_true rfl) (Nat.le_of_ble_eq_true rfl) dL_adds_26 (⟨Or.inr ⟨2, (-1000000003), rfl, he, rfl, rfl⟩, rfl⟩)
  exact hend _ _ _ _ _ _ _ (Nat.le_of_ble_eq_true rfl) (Nat.le_of_ble_eq_true rfl) dL_adds_11 (⟨Or.inl (by obtain ⟨⟨he, ha⟩, _⟩ := hp9; exact ⟨he, ha⟩), hp9.2⟩)

def hhL_draws : List (Nat × Nat × Nat × Nat) := [(0, 7, 8, 71), (0, 7, 13, 73)]
set_option maxRecDepth 20000 in
set_option maxHeartbeats 1000000 in
theorem c_L_draws (l : Launch) (G : mG) (hG : mInj G) (M : Mem) (g : Glo) (hfl : l.stackTraces = false) (V : View) (Hs : List View) (len : Nat) (T : Nat → Int32) (hI : cINV M V Hs len T) (n d t : Int32) : mcW l G yL_draws cL_draws 5 hhL_draws 8 3 18 [.ref (mA G 0), .int n, .int d, .int t] M g (wrP M g (eDraw V n d t) [(-1000000001), (-1000000002)] (fun r M' => r = vD V 3 n.toNatClampNeg ∧ cINV M' (vSet (vSet V 3 n.toNatClampNeg d) 4 n.toNatClampNeg t) (hPush Hs V) len T ∧ offC M M')) := by
  refine mcW_of (L0 := [(0, .ref (mA G 0)), (1, .int n), (2, .int d), (3, .int t)]) hG (by decide) (Nat.le_of_ble_eq_true rfl) rfl ?_
  intro p e s m args below meth c Q C htab hend
  refine r_aload_n C dL_draws_0 0 rfl ?_
  refine r_iload_n C dL_draws_1 1 rfl ?_
  refine r_iload_n C dL_draws_2 2 rfl ?_
  refine r_iload_n C dL_draws_3 3 rfl ?_
  refine r_hVI (As := [.int n, .int d, .int t]) (rest := []) C dL_draws_4 s_L_77 (c_X7_setDraw l G hG M g hfl V Hs len T hI n d t) (by decide) rfl rfl rfl rfl (Nat.le_of_ble_eq_true rfl) (Nat.le_of_ble_eq_true rfl) (Nat.le_of_ble_eq_true rfl) (fun E9 hE9 => ?_) (fun r9 M9 g9 hp9 => ?_)
  ·
    rcases hE9 with hE9 | hE9
    ·
      obtain ⟨rfl, he⟩ := hE9
      refine r_catch (E := IOO) (name := IOO) C [] ⟨0, 7, 8, 71⟩ [⟨0, 7, 13, 73⟩] htab (fun _ h => absurd h List.not_mem_nil) (by decide) (by decide) lk_71 ca_IOO (fun q9 => ?_)
      refine r_astore (L' := [(4, .ref q9), (0, .ref (mA G 0)), (1, .int n), (2, .int d), (3, .int t)]) C dL_draws_8 (by decide) rfl ?_
      refine r_ldc (v := -1000000001) C dL_draws_10 (gd_t 515 (by decide +kernel) rfl) ?_
      exact hend _ _ _ _ _ _ _ (Nat.le_of_ble_eq_true rfl) (Nat.le_of_ble_eq_true rfl) dL_draws_12 (⟨Or.inr ⟨0, (-1000000001), rfl, he, rfl, rfl⟩, rfl⟩)
    ·
      obtain ⟨rfl, he⟩ := hE9
      refine r_catch (E := IAE) (name := IAE) C [⟨0, 7, 8, 71⟩] ⟨0, 7, 13, 73⟩ [] htab (List.forall_mem_cons.mpr ⟨⟨by decide, IOO, lk_71, nc_IAE_IOO⟩, fun _ h => absurd h List.not_mem_nil⟩) (by decide) (by decide) lk_73 ca_IAE (fun q9 => ?_)
      refine r_astore (L' := [(4, .ref q9), (0, .ref (mA G 0)), (1, .int n), (2, .int d), (3, .int t)]) C dL_draws_13 (by decide) rfl ?_
      refine r_ldc (v := -1000000002) C dL_draws_15 (gd_t 486 (by decide +kernel) rfl) ?_
      exact hend _ _ _ _ _ _ _ (Nat.le_of_ble_eq_true rfl) (Nat.le_of_ble_eq_true rfl) dL_draws_17 (⟨Or.inr ⟨1, (-1000000002), rfl, he, rfl, rfl⟩, rfl⟩)
  exact hend _ _ _ _ _ _ _ (Nat.le_of_ble_eq_true rfl) (Nat.le_of_ble_eq_true rfl) dL_draws_7 (⟨Or.inl (by obtain ⟨⟨he, ha⟩, _⟩ := hp9; exact ⟨he, ha⟩), hp9.2⟩)

def hhL_leaks : List (Nat × Nat × Nat × Nat) := [(0, 6, 7, 71), (0, 6, 11, 73)]
set_option maxRecDepth 20000 in
set_option maxHeartbeats 1000000 in
theorem c_L_leaks (l : Launch) (G : mG) (hG : mInj G) (M : Mem) (g : Glo) (hfl : l.stackTraces = false) (V : View) (Hs : List View) (len : Nat) (T : Nat → Int32) (hI : cINV M V Hs len T) (n k : Int32) : mcW l G yL_leaks cL_leaks 4 hhL_leaks 8 2 12 [.ref (mA G 0), .int n, .int k] M g (wrP M g (eLeak V n k) [(-1000000001), (-1000000002)] (fun r M' => r = vD V 5 n.toNatClampNeg ∧ cINV M' (vSet V 5 n.toNatClampNeg k) (hPush Hs V) len T ∧ offC M M')) := by
  refine mcW_of (L0 := [(0, .ref (mA G 0)), (1, .int n), (2, .int k)]) hG (by decide) (Nat.le_of_ble_eq_true rfl) rfl ?_
  intro p e s m args below meth c Q C htab hend
  refine r_aload_n C dL_leaks_0 0 rfl ?_
  refine r_iload_n C dL_leaks_1 1 rfl ?_
  refine r_iload_n C dL_leaks_2 2 rfl ?_
  refine r_hVI (As := [.int n, .int k]) (rest := []) C dL_leaks_3 s_L_81 (c_X7_setLeak l G hG M g hfl V Hs len T hI n k) (by decide) rfl rfl rfl rfl (Nat.le_of_ble_eq_true rfl) (Nat.le_of_ble_eq_true rfl) (Nat.le_of_ble_eq_true rfl) (fun E9 hE9 => ?_) (fun r9 M9 g9 hp9 => ?_)
  ·
    rcases hE9 with hE9 | hE9
    ·
      obtain ⟨rfl, he⟩ := hE9
      refine r_catch (E := IOO) (name := IOO) C [] ⟨0, 6, 7, 71⟩ [⟨0, 6, 11, 73⟩] htab (fun _ h => absurd h List.not_mem_nil) (by decide) (by decide) lk_71 ca_IOO (fun q9 => ?_)
      refine r_astore_n (L' := [(3, .ref q9), (0, .ref (mA G 0)), (1, .int n), (2, .int k)]) C dL_leaks_7 (by decide) rfl ?_
      refine r_ldc (v := -1000000001) C dL_leaks_8 (gd_t 515 (by decide +kernel) rfl) ?_
      exact hend _ _ _ _ _ _ _ (Nat.le_of_ble_eq_true rfl) (Nat.le_of_ble_eq_true rfl) dL_leaks_10 (⟨Or.inr ⟨0, (-1000000001), rfl, he, rfl, rfl⟩, rfl⟩)
    ·
      obtain ⟨rfl, he⟩ := hE9
      refine r_catch (E := IAE) (name := IAE) C [⟨0, 6, 7, 71⟩] ⟨0, 6, 11, 73⟩ [] htab (List.forall_mem_cons.mpr ⟨⟨by decide, IOO, lk_71, nc_IAE_IOO⟩, fun _ h => absurd h List.not_mem_nil⟩) (by decide) (by decide) lk_73 ca_IAE (fun q9 => ?_)
      refine r_astore_n (L' := [(3, .ref q9), (0, .ref (mA G 0)), (1, .int n), (2, .int k)]) C dL_leaks_11 (by decide) rfl ?_
      refine r_ldc (v := -1000000002) C dL_leaks_12 (gd_t 486 (by decide +kernel) rfl) ?_
      exact hend _ _ _ _ _ _ _ (Nat.le_of_ble_eq_true rfl) (Nat.le_of_ble_eq_true rfl) dL_leaks_14 (⟨Or.inr ⟨1, (-1000000002), rfl, he, rfl, rfl⟩, rfl⟩)
  exact hend _ _ _ _ _ _ _ (Nat.le_of_ble_eq_true rfl) (Nat.le_of_ble_eq_true rfl) dL_leaks_6 (⟨Or.inl (by obtain ⟨⟨he, ha⟩, _⟩ := hp9; exact ⟨he, ha⟩), hp9.2⟩)

def hhL_warms : List (Nat × Nat × Nat × Nat) := [(0, 6, 7, 73)]
set_option maxRecDepth 20000 in
set_option maxHeartbeats 1000000 in
theorem c_L_warms (l : Launch) (G : mG) (hG : mInj G) (M : Mem) (g : Glo) (hfl : l.stackTraces = false) (V : View) (Hs : List View) (len : Nat) (T : Nat → Int32) (hI : cINV M V Hs len T) (s9 k : Int32) : mcW l G yL_warms cL_warms 4 hhL_warms 8 2 12 [.ref (mA G 0), .int s9, .int k] M g (wrP M g (eTemp s9 k) [(-1000000002)] (fun r M' => r = vS V 0 ∧ cINV M' (vSc (vSc V 0 s9) 1 k) (hPush Hs V) len T ∧ offC M M')) := by
  refine mcW_of (L0 := [(0, .ref (mA G 0)), (1, .int s9), (2, .int k)]) hG (by decide) (Nat.le_of_ble_eq_true rfl) rfl ?_
  intro p e s m args below meth c Q C htab hend
  refine r_aload_n C dL_warms_0 0 rfl ?_
  refine r_iload_n C dL_warms_1 1 rfl ?_
  refine r_iload_n C dL_warms_2 2 rfl ?_
  refine r_hVI (As := [.int s9, .int k]) (rest := []) C dL_warms_3 s_L_84 (c_X7_setTemperatures l G hG M g hfl V Hs len T hI s9 k) (by decide) rfl rfl rfl rfl (Nat.le_of_ble_eq_true rfl) (Nat.le_of_ble_eq_true rfl) (Nat.le_of_ble_eq_true rfl) (fun E9 hE9 => ?_) (fun r9 M9 g9 hp9 => ?_)
  ·
    ·
      obtain ⟨rfl, he⟩ := hE9
      refine r_catch (E := IAE) (name := IAE) C [] ⟨0, 6, 7, 73⟩ [] htab (fun _ h => absurd h List.not_mem_nil) (by decide) (by decide) lk_73 ca_IAE (fun q9 => ?_)
      refine r_astore_n (L' := [(3, .ref q9), (0, .ref (mA G 0)), (1, .int s9), (2, .int k)]) C dL_warms_7 (by decide) rfl ?_
      refine r_ldc (v := -1000000002) C dL_warms_8 (gd_t 486 (by decide +kernel) rfl) ?_
      exact hend _ _ _ _ _ _ _ (Nat.le_of_ble_eq_true rfl) (Nat.le_of_ble_eq_true rfl) dL_warms_10 (⟨Or.inr ⟨0, (-1000000002), rfl, he, rfl, rfl⟩, rfl⟩)
  exact hend _ _ _ _ _ _ _ (Nat.le_of_ble_eq_true rfl) (Nat.le_of_ble_eq_true rfl) dL_warms_6 (⟨Or.inl (by obtain ⟨⟨he, ha⟩, _⟩ := hp9; exact ⟨he, ha⟩), hp9.2⟩)

def hhL_nodeOf : List (Nat × Nat × Nat × Nat) := [(0, 6, 7, 71), (0, 6, 11, 73)]
set_option maxRecDepth 20000 in
set_option maxHeartbeats 1000000 in
theorem c_L_nodeOf (l : Launch) (G : mG) (hG : mInj G) (M : Mem) (g : Glo) (hfl : l.stackTraces = false) (V : View) (Hs : List View) (len : Nat) (T : Nat → Int32) (hI : cINV M V Hs len T) (n w : Int32) : mcW l G yL_nodeOf cL_nodeOf 4 hhL_nodeOf 8 2 12 [.ref (mA G 0), .int n, .int w] M g (wrP M g (eNode V n w) [(-1000000001), (-1000000002)] (fun r M' => r = nodeF V n.toNatClampNeg w.toNatClampNeg ∧ M' = M)) := by
  refine mcW_of (L0 := [(0, .ref (mA G 0)), (1, .int n), (2, .int w)]) hG (by decide) (Nat.le_of_ble_eq_true rfl) rfl ?_
  intro p e s m args below meth c Q C htab hend
  refine r_aload_n C dL_nodeOf_0 0 rfl ?_
  refine r_iload_n C dL_nodeOf_1 1 rfl ?_
  refine r_iload_n C dL_nodeOf_2 2 rfl ?_
  refine r_hVI (As := [.int n, .int w]) (rest := []) C dL_nodeOf_3 s_L_104 (c_X7_node l G hG M g hfl V Hs len T hI n w) (by decide) rfl rfl rfl rfl (Nat.le_of_ble_eq_true rfl) (Nat.le_of_ble_eq_true rfl) (Nat.le_of_ble_eq_true rfl) (fun E9 hE9 => ?_) (fun r9 M9 g9 hp9 => ?_)
  ·
    rcases hE9 with hE9 | hE9
    ·
      obtain ⟨rfl, he⟩ := hE9
      refine r_catch (E := IOO) (name := IOO) C [] ⟨0, 6, 7, 71⟩ [⟨0, 6, 11, 73⟩] htab (fun _ h => absurd h List.not_mem_nil) (by decide) (by decide) lk_71 ca_IOO (fun q9 => ?_)
      refine r_astore_n (L' := [(3, .ref q9), (0, .ref (mA G 0)), (1, .int n), (2, .int w)]) C dL_nodeOf_7 (by decide) rfl ?_
      refine r_ldc (v := -1000000001) C dL_nodeOf_8 (gd_t 515 (by decide +kernel) rfl) ?_
      exact hend _ _ _ _ _ _ _ (Nat.le_of_ble_eq_true rfl) (Nat.le_of_ble_eq_true rfl) dL_nodeOf_10 (⟨Or.inr ⟨0, (-1000000001), rfl, he, rfl, rfl⟩, rfl⟩)
    ·
      obtain ⟨rfl, he⟩ := hE9
      refine r_catch (E := IAE) (name := IAE) C [⟨0, 6, 7, 71⟩] ⟨0, 6, 11, 73⟩ [] htab (List.forall_mem_cons.mpr ⟨⟨by decide, IOO, lk_71, nc_IAE_IOO⟩, fun _ h => absurd h List.not_mem_nil⟩) (by decide) (by decide) lk_73 ca_IAE (fun q9 => ?_)
      refine r_astore_n (L' := [(3, .ref q9), (0, .ref (mA G 0)), (1, .int n), (2, .int w)]) C dL_nodeOf_11 (by decide) rfl ?_
      refine r_ldc (v := -1000000002) C dL_nodeOf_12 (gd_t 486 (by decide +kernel) rfl) ?_
      exact hend _ _ _ _ _ _ _ (Nat.le_of_ble_eq_true rfl) (Nat.le_of_ble_eq_true rfl) dL_nodeOf_14 (⟨Or.inr ⟨1, (-1000000002), rfl, he, rfl, rfl⟩, rfl⟩)
  exact hend _ _ _ _ _ _ _ (Nat.le_of_ble_eq_true rfl) (Nat.le_of_ble_eq_true rfl) dL_nodeOf_6 (⟨Or.inl (by obtain ⟨⟨he, ha⟩, hm, _⟩ := hp9; exact ⟨he, ha, hm⟩), hp9.2.2⟩)

def hhL_heatOf : List (Nat × Nat × Nat × Nat) := [(0, 6, 7, 71), (0, 6, 11, 73)]
set_option maxRecDepth 20000 in
set_option maxHeartbeats 1000000 in
theorem c_L_heatOf (l : Launch) (G : mG) (hG : mInj G) (M : Mem) (g : Glo) (hfl : l.stackTraces = false) (V : View) (Hs : List View) (len : Nat) (T : Nat → Int32) (hI : cINV M V Hs len T) (n w : Int32) : mcW l G yL_heatOf cL_heatOf 4 hhL_heatOf 8 2 12 [.ref (mA G 0), .int n, .int w] M g (wrP M g (eHeat V n w) [(-1000000001), (-1000000002)] (fun r M' => r = heatF V n.toNatClampNeg w.toNatClampNeg ∧ M' = M)) := by
  refine mcW_of (L0 := [(0, .ref (mA G 0)), (1, .int n), (2, .int w)]) hG (by decide) (Nat.le_of_ble_eq_true rfl) rfl ?_
  intro p e s m args below meth c Q C htab hend
  refine r_aload_n C dL_heatOf_0 0 rfl ?_
  refine r_iload_n C dL_heatOf_1 1 rfl ?_
  refine r_iload_n C dL_heatOf_2 2 rfl ?_
  refine r_hVI (As := [.int n, .int w]) (rest := []) C dL_heatOf_3 s_L_107 (c_X7_heat l G hG M g hfl V Hs len T hI n w) (by decide) rfl rfl rfl rfl (Nat.le_of_ble_eq_true rfl) (Nat.le_of_ble_eq_true rfl) (Nat.le_of_ble_eq_true rfl) (fun E9 hE9 => ?_) (fun r9 M9 g9 hp9 => ?_)
  ·
    rcases hE9 with hE9 | hE9
    ·
      obtain ⟨rfl, he⟩ := hE9
      refine r_catch (E := IOO) (name := IOO) C [] ⟨0, 6, 7, 71⟩ [⟨0, 6, 11, 73⟩] htab (fun _ h => absurd h List.not_mem_nil) (by decide) (by decide) lk_71 ca_IOO (fun q9 => ?_)
      refine r_astore_n (L' := [(3, .ref q9), (0, .ref (mA G 0)), (1, .int n), (2, .int w)]) C dL_heatOf_7 (by decide) rfl ?_
      refine r_ldc (v := -1000000001) C dL_heatOf_8 (gd_t 515 (by decide +kernel) rfl) ?_
      exact hend _ _ _ _ _ _ _ (Nat.le_of_ble_eq_true rfl) (Nat.le_of_ble_eq_true rfl) dL_heatOf_10 (⟨Or.inr ⟨0, (-1000000001), rfl, he, rfl, rfl⟩, rfl⟩)
    ·
      obtain ⟨rfl, he⟩ := hE9
      refine r_catch (E := IAE) (name := IAE) C [⟨0, 6, 7, 71⟩] ⟨0, 6, 11, 73⟩ [] htab (List.forall_mem_cons.mpr ⟨⟨by decide, IOO, lk_71, nc_IAE_IOO⟩, fun _ h => absurd h List.not_mem_nil⟩) (by decide) (by decide) lk_73 ca_IAE (fun q9 => ?_)
      refine r_astore_n (L' := [(3, .ref q9), (0, .ref (mA G 0)), (1, .int n), (2, .int w)]) C dL_heatOf_11 (by decide) rfl ?_
      refine r_ldc (v := -1000000002) C dL_heatOf_12 (gd_t 486 (by decide +kernel) rfl) ?_
      exact hend _ _ _ _ _ _ _ (Nat.le_of_ble_eq_true rfl) (Nat.le_of_ble_eq_true rfl) dL_heatOf_14 (⟨Or.inr ⟨1, (-1000000002), rfl, he, rfl, rfl⟩, rfl⟩)
  exact hend _ _ _ _ _ _ _ (Nat.le_of_ble_eq_true rfl) (Nat.le_of_ble_eq_true rfl) dL_heatOf_6 (⟨Or.inl (by obtain ⟨⟨he, ha⟩, hm, _⟩ := hp9; exact ⟨he, ha, hm⟩), hp9.2.2⟩)

def hhL_valueOf : List (Nat × Nat × Nat × Nat) := [(0, 5, 6, 73)]
set_option maxRecDepth 20000 in
set_option maxHeartbeats 1000000 in
theorem c_L_valueOf (l : Launch) (G : mG) (hG : mInj G) (M : Mem) (g : Glo) (hfl : l.stackTraces = false) (V : View) (Hs : List View) (len : Nat) (T : Nat → Int32) (hI : cINV M V Hs len T) (w : Int32) : mcW l G yL_valueOf cL_valueOf 3 hhL_valueOf 8 1 6 [.ref (mA G 0), .int w] M g (wrP M g (eIn w 0 14) [(-1000000002)] (fun r M' => r = valF V w.toNatClampNeg ∧ M' = M)) := by
  refine mcW_of (L0 := [(0, .ref (mA G 0)), (1, .int w)]) hG (by decide) (Nat.le_of_ble_eq_true rfl) rfl ?_
  intro p e s m args below meth c Q C htab hend
  refine r_aload_n C dL_valueOf_0 0 rfl ?_
  refine r_iload_n C dL_valueOf_1 1 rfl ?_
  refine r_hVI (As := [.int w]) (rest := []) C dL_valueOf_2 s_L_110 (c_X7_value l G hG M g hfl V Hs len T hI w) (by decide) rfl rfl rfl rfl (Nat.le_of_ble_eq_true rfl) (Nat.le_of_ble_eq_true rfl) (Nat.le_of_ble_eq_true rfl) (fun E9 hE9 => ?_) (fun r9 M9 g9 hp9 => ?_)
  ·
    ·
      obtain ⟨rfl, he⟩ := hE9
      refine r_catch (E := IAE) (name := IAE) C [] ⟨0, 5, 6, 73⟩ [] htab (fun _ h => absurd h List.not_mem_nil) (by decide) (by decide) lk_73 ca_IAE (fun q9 => ?_)
      refine r_astore_n (L' := [(2, .ref q9), (0, .ref (mA G 0)), (1, .int w)]) C dL_valueOf_6 (by decide) rfl ?_
      refine r_ldc (v := -1000000002) C dL_valueOf_7 (gd_t 486 (by decide +kernel) rfl) ?_
      exact hend _ _ _ _ _ _ _ (Nat.le_of_ble_eq_true rfl) (Nat.le_of_ble_eq_true rfl) dL_valueOf_9 (⟨Or.inr ⟨0, (-1000000002), rfl, he, rfl, rfl⟩, rfl⟩)
  exact hend _ _ _ _ _ _ _ (Nat.le_of_ble_eq_true rfl) (Nat.le_of_ble_eq_true rfl) dL_valueOf_5 (⟨Or.inl (by obtain ⟨⟨he, ha⟩, hm, _⟩ := hp9; exact ⟨he, ha, hm⟩), hp9.2.2⟩)

def hhL_sumOf : List (Nat × Nat × Nat × Nat) := [(0, 5, 6, 73)]
set_option maxRecDepth 20000 in
set_option maxHeartbeats 1000000 in
theorem c_L_sumOf (l : Launch) (G : mG) (hG : mInj G) (M : Mem) (g : Glo) (hfl : l.stackTraces = false) (V : View) (Hs : List View) (len : Nat) (T : Nat → Int32) (hI : cINV M V Hs len T) (w : Int32) : mcW l G yL_sumOf cL_sumOf 3 hhL_sumOf 8 1 6 [.ref (mA G 0), .int w] M g (wrP M g (eIn w 0 2) [(-1000000002)] (fun r M' => r = sumF V w.toNatClampNeg ∧ M' = M)) := by
  refine mcW_of (L0 := [(0, .ref (mA G 0)), (1, .int w)]) hG (by decide) (Nat.le_of_ble_eq_true rfl) rfl ?_
  intro p e s m args below meth c Q C htab hend
  refine r_aload_n C dL_sumOf_0 0 rfl ?_
  refine r_iload_n C dL_sumOf_1 1 rfl ?_
  refine r_hVI (As := [.int w]) (rest := []) C dL_sumOf_2 s_L_113 (c_X7_sum l G hG M g hfl V Hs len T hI w) (by decide) rfl rfl rfl rfl (Nat.le_of_ble_eq_true rfl) (Nat.le_of_ble_eq_true rfl) (Nat.le_of_ble_eq_true rfl) (fun E9 hE9 => ?_) (fun r9 M9 g9 hp9 => ?_)
  ·
    ·
      obtain ⟨rfl, he⟩ := hE9
      refine r_catch (E := IAE) (name := IAE) C [] ⟨0, 5, 6, 73⟩ [] htab (fun _ h => absurd h List.not_mem_nil) (by decide) (by decide) lk_73 ca_IAE (fun q9 => ?_)
      refine r_astore_n (L' := [(2, .ref q9), (0, .ref (mA G 0)), (1, .int w)]) C dL_sumOf_6 (by decide) rfl ?_
      refine r_ldc (v := -1000000002) C dL_sumOf_7 (gd_t 486 (by decide +kernel) rfl) ?_
      exact hend _ _ _ _ _ _ _ (Nat.le_of_ble_eq_true rfl) (Nat.le_of_ble_eq_true rfl) dL_sumOf_9 (⟨Or.inr ⟨0, (-1000000002), rfl, he, rfl, rfl⟩, rfl⟩)
  exact hend _ _ _ _ _ _ _ (Nat.le_of_ble_eq_true rfl) (Nat.le_of_ble_eq_true rfl) dL_sumOf_5 (⟨Or.inl (by obtain ⟨⟨he, ha⟩, hm, _⟩ := hp9; exact ⟨he, ha, hm⟩), hp9.2.2⟩)

def hhL_boilers : List (Nat × Nat × Nat × Nat) := [(0, 7, 8, 73), (0, 7, 13, 75)]
set_option maxRecDepth 20000 in
set_option maxHeartbeats 1000000 in
theorem c_L_boilers (l : Launch) (G : mG) (hG : mInj G) (M : Mem) (g : Glo) (hfl : l.stackTraces = false) (V : View) (Hs : List View) (len : Nat) (T : Nat → Int32) (hI : cINV M V Hs len T) (a l9 s9 : Int32) : mcW l G yL_boilers cL_boilers 5 hhL_boilers 8 4 24 [.ref (mA G 0), .int a, .int l9, .int s9] M g (wrP M g (eBoi V a l9 s9) [(-1000000002), (-1000000003)] (fun r M' => r = nI (vB V) ∧ cINV M' (vBoi V a l9 s9) (hPush Hs V) len T ∧ offC M M')) := by
  refine mcW_of (L0 := [(0, .ref (mA G 0)), (1, .int a), (2, .int l9), (3, .int s9)]) hG (by decide) (Nat.le_of_ble_eq_true rfl) rfl ?_
  intro p e s m args below meth c Q C htab hend
  refine r_aload_n C dL_boilers_0 0 rfl ?_
  refine r_iload_n C dL_boilers_1 1 rfl ?_
  refine r_iload_n C dL_boilers_2 2 rfl ?_
  refine r_iload_n C dL_boilers_3 3 rfl ?_
  refine r_hVI (As := [.int a, .int l9, .int s9]) (rest := []) C dL_boilers_4 s_L_87 (c_X7_addBoiler l G hG M g hfl V Hs len T hI a l9 s9) (by decide) rfl rfl rfl rfl (Nat.le_of_ble_eq_true rfl) (Nat.le_of_ble_eq_true rfl) (Nat.le_of_ble_eq_true rfl) (fun E9 hE9 => ?_) (fun r9 M9 g9 hp9 => ?_)
  ·
    rcases hE9 with hE9 | hE9
    ·
      obtain ⟨rfl, he⟩ := hE9
      refine r_catch (E := IAE) (name := IAE) C [] ⟨0, 7, 8, 73⟩ [⟨0, 7, 13, 75⟩] htab (fun _ h => absurd h List.not_mem_nil) (by decide) (by decide) lk_73 ca_IAE (fun q9 => ?_)
      refine r_astore (L' := [(4, .ref q9), (0, .ref (mA G 0)), (1, .int a), (2, .int l9), (3, .int s9)]) C dL_boilers_8 (by decide) rfl ?_
      refine r_ldc (v := -1000000002) C dL_boilers_10 (gd_t 486 (by decide +kernel) rfl) ?_
      exact hend _ _ _ _ _ _ _ (Nat.le_of_ble_eq_true rfl) (Nat.le_of_ble_eq_true rfl) dL_boilers_12 (⟨Or.inr ⟨0, (-1000000002), rfl, he, rfl, rfl⟩, rfl⟩)
    ·
      obtain ⟨rfl, he⟩ := hE9
      refine r_catch (E := ISE) (name := ISE) C [⟨0, 7, 8, 73⟩] ⟨0, 7, 13, 75⟩ [] htab (List.forall_mem_cons.mpr ⟨⟨by decide, IAE, lk_73, nc_ISE_IAE⟩, fun _ h => absurd h List.not_mem_nil⟩) (by decide) (by decide) lk_75 ca_ISE (fun q9 => ?_)
      refine r_astore (L' := [(4, .ref q9), (0, .ref (mA G 0)), (1, .int a), (2, .int l9), (3, .int s9)]) C dL_boilers_13 (by decide) rfl ?_
      refine r_ldc (v := -1000000003) C dL_boilers_15 (gd_t 552 (by decide +kernel) rfl) ?_
      exact hend _ _ _ _ _ _ _ (Nat.le_of_ble_eq_true rfl) (Nat.le_of_ble_eq_true rfl) dL_boilers_17 (⟨Or.inr ⟨1, (-1000000003), rfl, he, rfl, rfl⟩, rfl⟩)
  exact hend _ _ _ _ _ _ _ (Nat.le_of_ble_eq_true rfl) (Nat.le_of_ble_eq_true rfl) dL_boilers_7 (⟨Or.inl (by obtain ⟨⟨he, ha⟩, _⟩ := hp9; exact ⟨he, ha⟩), hp9.2⟩)

def hhL_costsOf : List (Nat × Nat × Nat × Nat) := [(0, 6, 7, 71), (0, 6, 11, 73)]
set_option maxRecDepth 20000 in
set_option maxHeartbeats 1000000 in
theorem c_L_costsOf (l : Launch) (G : mG) (hG : mInj G) (M : Mem) (g : Glo) (hfl : l.stackTraces = false) (V : View) (Hs : List View) (len : Nat) (T : Nat → Int32) (hI : cINV M V Hs len T) (n x : Int32) : mcW l G yL_costsOf cL_costsOf 4 hhL_costsOf 8 2 12 [.ref (mA G 0), .int n, .int x] M g (wrP M g (eCost V n x) [(-1000000001), (-1000000002)] (fun r M' => r = vO V 2 n.toNatClampNeg ∧ cINV M' (vBo V 2 n.toNatClampNeg x) (hPush Hs V) len T ∧ offC M M')) := by
  refine mcW_of (L0 := [(0, .ref (mA G 0)), (1, .int n), (2, .int x)]) hG (by decide) (Nat.le_of_ble_eq_true rfl) rfl ?_
  intro p e s m args below meth c Q C htab hend
  refine r_aload_n C dL_costsOf_0 0 rfl ?_
  refine r_iload_n C dL_costsOf_1 1 rfl ?_
  refine r_iload_n C dL_costsOf_2 2 rfl ?_
  refine r_hVI (As := [.int n, .int x]) (rest := []) C dL_costsOf_3 s_L_90 (c_X7_setCost l G hG M g hfl V Hs len T hI n x) (by decide) rfl rfl rfl rfl (Nat.le_of_ble_eq_true rfl) (Nat.le_of_ble_eq_true rfl) (Nat.le_of_ble_eq_true rfl) (fun E9 hE9 => ?_) (fun r9 M9 g9 hp9 => ?_)
  ·
    rcases hE9 with hE9 | hE9
    ·
      obtain ⟨rfl, he⟩ := hE9
      refine r_catch (E := IOO) (name := IOO) C [] ⟨0, 6, 7, 71⟩ [⟨0, 6, 11, 73⟩] htab (fun _ h => absurd h List.not_mem_nil) (by decide) (by decide) lk_71 ca_IOO (fun q9 => ?_)
      refine r_astore_n (L' := [(3, .ref q9), (0, .ref (mA G 0)), (1, .int n), (2, .int x)]) C dL_costsOf_7 (by decide) rfl ?_
      refine r_ldc (v := -1000000001) C dL_costsOf_8 (gd_t 515 (by decide +kernel) rfl) ?_
      exact hend _ _ _ _ _ _ _ (Nat.le_of_ble_eq_true rfl) (Nat.le_of_ble_eq_true rfl) dL_costsOf_10 (⟨Or.inr ⟨0, (-1000000001), rfl, he, rfl, rfl⟩, rfl⟩)
    ·
      obtain ⟨rfl, he⟩ := hE9
      refine r_catch (E := IAE) (name := IAE) C [⟨0, 6, 7, 71⟩] ⟨0, 6, 11, 73⟩ [] htab (List.forall_mem_cons.mpr ⟨⟨by decide, IOO, lk_71, nc_IAE_IOO⟩, fun _ h => absurd h List.not_mem_nil⟩) (by decide) (by decide) lk_73 ca_IAE (fun q9 => ?_)
      refine r_astore_n (L' := [(3, .ref q9), (0, .ref (mA G 0)), (1, .int n), (2, .int x)]) C dL_costsOf_11 (by decide) rfl ?_
      refine r_ldc (v := -1000000002) C dL_costsOf_12 (gd_t 486 (by decide +kernel) rfl) ?_
      exact hend _ _ _ _ _ _ _ (Nat.le_of_ble_eq_true rfl) (Nat.le_of_ble_eq_true rfl) dL_costsOf_14 (⟨Or.inr ⟨1, (-1000000002), rfl, he, rfl, rfl⟩, rfl⟩)
  exact hend _ _ _ _ _ _ _ (Nat.le_of_ble_eq_true rfl) (Nat.le_of_ble_eq_true rfl) dL_costsOf_6 (⟨Or.inl (by obtain ⟨⟨he, ha⟩, _⟩ := hp9; exact ⟨he, ha⟩), hp9.2⟩)

def hhL_boilerOf : List (Nat × Nat × Nat × Nat) := [(0, 6, 7, 71), (0, 6, 11, 73)]
set_option maxRecDepth 20000 in
set_option maxHeartbeats 1000000 in
theorem c_L_boilerOf (l : Launch) (G : mG) (hG : mInj G) (M : Mem) (g : Glo) (hfl : l.stackTraces = false) (V : View) (Hs : List View) (len : Nat) (T : Nat → Int32) (hI : cINV M V Hs len T) (n w : Int32) : mcW l G yL_boilerOf cL_boilerOf 4 hhL_boilerOf 8 2 12 [.ref (mA G 0), .int n, .int w] M g (wrP M g (eBoiler V n w) [(-1000000001), (-1000000002)] (fun r M' => r = boiF V n.toNatClampNeg w.toNatClampNeg ∧ M' = M)) := by
  refine mcW_of (L0 := [(0, .ref (mA G 0)), (1, .int n), (2, .int w)]) hG (by decide) (Nat.le_of_ble_eq_true rfl) rfl ?_
  intro p e s m args below meth c Q C htab hend
  refine r_aload_n C dL_boilerOf_0 0 rfl ?_
  refine r_iload_n C dL_boilerOf_1 1 rfl ?_
  refine r_iload_n C dL_boilerOf_2 2 rfl ?_
  refine r_hVI (As := [.int n, .int w]) (rest := []) C dL_boilerOf_3 s_L_116 (c_X7_boiler l G hG M g hfl V Hs len T hI n w) (by decide) rfl rfl rfl rfl (Nat.le_of_ble_eq_true rfl) (Nat.le_of_ble_eq_true rfl) (Nat.le_of_ble_eq_true rfl) (fun E9 hE9 => ?_) (fun r9 M9 g9 hp9 => ?_)
  ·
    rcases hE9 with hE9 | hE9
    ·
      obtain ⟨rfl, he⟩ := hE9
      refine r_catch (E := IOO) (name := IOO) C [] ⟨0, 6, 7, 71⟩ [⟨0, 6, 11, 73⟩] htab (fun _ h => absurd h List.not_mem_nil) (by decide) (by decide) lk_71 ca_IOO (fun q9 => ?_)
      refine r_astore_n (L' := [(3, .ref q9), (0, .ref (mA G 0)), (1, .int n), (2, .int w)]) C dL_boilerOf_7 (by decide) rfl ?_
      refine r_ldc (v := -1000000001) C dL_boilerOf_8 (gd_t 515 (by decide +kernel) rfl) ?_
      exact hend _ _ _ _ _ _ _ (Nat.le_of_ble_eq_true rfl) (Nat.le_of_ble_eq_true rfl) dL_boilerOf_10 (⟨Or.inr ⟨0, (-1000000001), rfl, he, rfl, rfl⟩, rfl⟩)
    ·
      obtain ⟨rfl, he⟩ := hE9
      refine r_catch (E := IAE) (name := IAE) C [⟨0, 6, 7, 71⟩] ⟨0, 6, 11, 73⟩ [] htab (List.forall_mem_cons.mpr ⟨⟨by decide, IOO, lk_71, nc_IAE_IOO⟩, fun _ h => absurd h List.not_mem_nil⟩) (by decide) (by decide) lk_73 ca_IAE (fun q9 => ?_)
      refine r_astore_n (L' := [(3, .ref q9), (0, .ref (mA G 0)), (1, .int n), (2, .int w)]) C dL_boilerOf_11 (by decide) rfl ?_
      refine r_ldc (v := -1000000002) C dL_boilerOf_12 (gd_t 486 (by decide +kernel) rfl) ?_
      exact hend _ _ _ _ _ _ _ (Nat.le_of_ble_eq_true rfl) (Nat.le_of_ble_eq_true rfl) dL_boilerOf_14 (⟨Or.inr ⟨1, (-1000000002), rfl, he, rfl, rfl⟩, rfl⟩)
  exact hend _ _ _ _ _ _ _ (Nat.le_of_ble_eq_true rfl) (Nat.le_of_ble_eq_true rfl) dL_boilerOf_6 (⟨Or.inl (by obtain ⟨⟨he, ha⟩, hm, _⟩ := hp9; exact ⟨he, ha, hm⟩), hp9.2.2⟩)

def hhL_tariffs : List (Nat × Nat × Nat × Nat) := [(0, 7, 8, 73)]
set_option maxRecDepth 20000 in
set_option maxHeartbeats 1000000 in
theorem c_L_tariffs (l : Launch) (G : mG) (hG : mInj G) (M : Mem) (g : Glo) (hfl : l.stackTraces = false) (V : View) (Hs : List View) (len : Nat) (T : Nat → Int32) (hI : cINV M V Hs len T) (a b d : Int32) : mcW l G yL_tariffs cL_tariffs 5 hhL_tariffs 8 3 18 [.ref (mA G 0), .int a, .int b, .int d] M g (wrP M g (eTar a b d) [(-1000000002)] (fun r M' => r = vS V 2 ∧ cINV M' (vSc (vSc (vSc V 2 a) 3 b) 4 d) (hPush Hs V) len T ∧ offC M M')) := by
  refine mcW_of (L0 := [(0, .ref (mA G 0)), (1, .int a), (2, .int b), (3, .int d)]) hG (by decide) (Nat.le_of_ble_eq_true rfl) rfl ?_
  intro p e s m args below meth c Q C htab hend
  refine r_aload_n C dL_tariffs_0 0 rfl ?_
  refine r_iload_n C dL_tariffs_1 1 rfl ?_
  refine r_iload_n C dL_tariffs_2 2 rfl ?_
  refine r_iload_n C dL_tariffs_3 3 rfl ?_
  refine r_hVI (As := [.int a, .int b, .int d]) (rest := []) C dL_tariffs_4 s_L_93 (c_X7_setTariff l G hG M g hfl V Hs len T hI a b d) (by decide) rfl rfl rfl rfl (Nat.le_of_ble_eq_true rfl) (Nat.le_of_ble_eq_true rfl) (Nat.le_of_ble_eq_true rfl) (fun E9 hE9 => ?_) (fun r9 M9 g9 hp9 => ?_)
  ·
    ·
      obtain ⟨rfl, he⟩ := hE9
      refine r_catch (E := IAE) (name := IAE) C [] ⟨0, 7, 8, 73⟩ [] htab (fun _ h => absurd h List.not_mem_nil) (by decide) (by decide) lk_73 ca_IAE (fun q9 => ?_)
      refine r_astore (L' := [(4, .ref q9), (0, .ref (mA G 0)), (1, .int a), (2, .int b), (3, .int d)]) C dL_tariffs_8 (by decide) rfl ?_
      refine r_ldc (v := -1000000002) C dL_tariffs_10 (gd_t 486 (by decide +kernel) rfl) ?_
      exact hend _ _ _ _ _ _ _ (Nat.le_of_ble_eq_true rfl) (Nat.le_of_ble_eq_true rfl) dL_tariffs_12 (⟨Or.inr ⟨0, (-1000000002), rfl, he, rfl, rfl⟩, rfl⟩)
  exact hend _ _ _ _ _ _ _ (Nat.le_of_ble_eq_true rfl) (Nat.le_of_ble_eq_true rfl) dL_tariffs_7 (⟨Or.inl (by obtain ⟨⟨he, ha⟩, _⟩ := hp9; exact ⟨he, ha⟩), hp9.2⟩)

def hhL_passes : List (Nat × Nat × Nat × Nat) := [(0, 5, 6, 73), (0, 5, 10, 75)]
set_option maxRecDepth 20000 in
set_option maxHeartbeats 1000000 in
theorem c_L_passes (l : Launch) (G : mG) (hG : mInj G) (M : Mem) (g : Glo) (hfl : l.stackTraces = false) (V : View) (Hs : List View) (len : Nat) (T : Nat → Int32) (hI : cINV M V Hs len T) (h : Int32) : mcW l G yL_passes cL_passes 3 hhL_passes 8 2 12 [.ref (mA G 0), .int h] M g (wrP M g (ePass V h) [(-1000000002), (-1000000003)] (fun r M' => r = vS V 8 + h ∧ cINV M' (vPass V h) (hPush Hs V) len T ∧ offC M M')) := by
  refine mcW_of (L0 := [(0, .ref (mA G 0)), (1, .int h)]) hG (by decide) (Nat.le_of_ble_eq_true rfl) rfl ?_
  intro p e s m args below meth c Q C htab hend
  refine r_aload_n C dL_passes_0 0 rfl ?_
  refine r_iload_n C dL_passes_1 1 rfl ?_
  refine r_hVI (As := [.int h]) (rest := []) C dL_passes_2 s_L_96 (c_X7_pass l G hG M g hfl V Hs len T hI h) (by decide) rfl rfl rfl rfl (Nat.le_of_ble_eq_true rfl) (Nat.le_of_ble_eq_true rfl) (Nat.le_of_ble_eq_true rfl) (fun E9 hE9 => ?_) (fun r9 M9 g9 hp9 => ?_)
  ·
    rcases hE9 with hE9 | hE9
    ·
      obtain ⟨rfl, he⟩ := hE9
      refine r_catch (E := IAE) (name := IAE) C [] ⟨0, 5, 6, 73⟩ [⟨0, 5, 10, 75⟩] htab (fun _ h => absurd h List.not_mem_nil) (by decide) (by decide) lk_73 ca_IAE (fun q9 => ?_)
      refine r_astore_n (L' := [(2, .ref q9), (0, .ref (mA G 0)), (1, .int h)]) C dL_passes_6 (by decide) rfl ?_
      refine r_ldc (v := -1000000002) C dL_passes_7 (gd_t 486 (by decide +kernel) rfl) ?_
      exact hend _ _ _ _ _ _ _ (Nat.le_of_ble_eq_true rfl) (Nat.le_of_ble_eq_true rfl) dL_passes_9 (⟨Or.inr ⟨0, (-1000000002), rfl, he, rfl, rfl⟩, rfl⟩)
    ·
      obtain ⟨rfl, he⟩ := hE9
      refine r_catch (E := ISE) (name := ISE) C [⟨0, 5, 6, 73⟩] ⟨0, 5, 10, 75⟩ [] htab (List.forall_mem_cons.mpr ⟨⟨by decide, IAE, lk_73, nc_ISE_IAE⟩, fun _ h => absurd h List.not_mem_nil⟩) (by decide) (by decide) lk_75 ca_ISE (fun q9 => ?_)
      refine r_astore_n (L' := [(2, .ref q9), (0, .ref (mA G 0)), (1, .int h)]) C dL_passes_10 (by decide) rfl ?_
      refine r_ldc (v := -1000000003) C dL_passes_11 (gd_t 552 (by decide +kernel) rfl) ?_
      exact hend _ _ _ _ _ _ _ (Nat.le_of_ble_eq_true rfl) (Nat.le_of_ble_eq_true rfl) dL_passes_13 (⟨Or.inr ⟨1, (-1000000003), rfl, he, rfl, rfl⟩, rfl⟩)
  exact hend _ _ _ _ _ _ _ (Nat.le_of_ble_eq_true rfl) (Nat.le_of_ble_eq_true rfl) dL_passes_5 (⟨Or.inl (by obtain ⟨⟨he, ha⟩, _⟩ := hp9; exact ⟨he, ha⟩), hp9.2⟩)

def hhL_meters : List (Nat × Nat × Nat × Nat) := [(0, 6, 7, 71)]
set_option maxRecDepth 20000 in
set_option maxHeartbeats 1000000 in
theorem c_L_meters (l : Launch) (G : mG) (hG : mInj G) (M : Mem) (g : Glo) (hfl : l.stackTraces = false) (V : View) (Hs : List View) (len : Nat) (T : Nat → Int32) (hI : cINV M V Hs len T) (n x : Int32) : mcW l G yL_meters cL_meters 4 hhL_meters 8 1 6 [.ref (mA G 0), .int n, .int x] M g (wrP M g (ePp V n) [(-1000000001)] (fun r M' => r = sumP (vD (vSet V 6 n.toNatClampNeg (b2i (decide (¬ x = 0)))) 6) (vN V) ∧ cINV M' (vSet V 6 n.toNatClampNeg (b2i (decide (¬ x = 0)))) (hPush Hs V) len T ∧ offC M M')) := by
  refine mcW_of (L0 := [(0, .ref (mA G 0)), (1, .int n), (2, .int x)]) hG (by decide) (Nat.le_of_ble_eq_true rfl) rfl ?_
  intro p e s m args below meth c Q C htab hend
  refine r_aload_n C dL_meters_0 0 rfl ?_
  refine r_iload_n C dL_meters_1 1 rfl ?_
  refine r_iload_n C dL_meters_2 2 rfl ?_
  refine r_hVI (As := [.int n, .int x]) (rest := []) C dL_meters_3 s_L_100 (c_X7_setMeter l G hG M g hfl V Hs len T hI n x) (by decide) rfl rfl rfl rfl (Nat.le_of_ble_eq_true rfl) (Nat.le_of_ble_eq_true rfl) (Nat.le_of_ble_eq_true rfl) (fun E9 hE9 => ?_) (fun r9 M9 g9 hp9 => ?_)
  ·
    ·
      obtain ⟨rfl, he⟩ := hE9
      refine r_catch (E := IOO) (name := IOO) C [] ⟨0, 6, 7, 71⟩ [] htab (fun _ h => absurd h List.not_mem_nil) (by decide) (by decide) lk_71 ca_IOO (fun q9 => ?_)
      refine r_astore_n (L' := [(3, .ref q9), (0, .ref (mA G 0)), (1, .int n), (2, .int x)]) C dL_meters_7 (by decide) rfl ?_
      refine r_ldc (v := -1000000001) C dL_meters_8 (gd_t 515 (by decide +kernel) rfl) ?_
      exact hend _ _ _ _ _ _ _ (Nat.le_of_ble_eq_true rfl) (Nat.le_of_ble_eq_true rfl) dL_meters_10 (⟨Or.inr ⟨0, (-1000000001), rfl, he, rfl, rfl⟩, rfl⟩)
  exact hend _ _ _ _ _ _ _ (Nat.le_of_ble_eq_true rfl) (Nat.le_of_ble_eq_true rfl) dL_meters_6 (⟨Or.inl (by obtain ⟨⟨he, ha⟩, _⟩ := hp9; exact ⟨he, ha⟩), hp9.2⟩)

set_option maxRecDepth 20000 in
set_option maxHeartbeats 1000000 in
theorem c_L_nodeOf_ok (l : Launch) (G : mG) (hG : mInj G) (M : Mem) (g : Glo) (V : View) (Hs : List View) (len : Nat) (T : Nat → Int32) (hI : cINV M V Hs len T) (j w : Nat) (hj : j < vN V) (hw : w < 12) : mcW l G yL_nodeOf cL_nodeOf 4 hhL_nodeOf 6 0 0 [.ref (mA G 0), .int (nI j), .int (nI w)] M g (fun r M' g' => r = nodeF V j w ∧ M' = M ∧ g' = g) := by
  refine mcW_of (L0 := [(0, .ref (mA G 0)), (1, .int (nI j)), (2, .int (nI w))]) hG (by decide) (Nat.le_of_ble_eq_true rfl) rfl ?_
  intro p e s m args below meth c Q C htab hend
  refine r_aload_n C dL_nodeOf_0 0 rfl ?_
  refine r_iload_n C dL_nodeOf_1 1 rfl ?_
  refine r_iload_n C dL_nodeOf_2 2 rfl ?_
  refine r_callVI (As := [.int (nI j), .int (nI w)]) (rest := []) C dL_nodeOf_3 s_L_104 (c_X7_node_ok l G hG M g V Hs len T hI j w hj hw) (by decide) rfl rfl rfl rfl (Nat.le_of_ble_eq_true rfl) (Nat.le_of_ble_eq_true rfl) (Nat.le_of_ble_eq_true rfl) (pk_I ?_)
  exact hend _ _ _ _ _ _ _ (Nat.le_of_ble_eq_true rfl) (Nat.le_of_ble_eq_true rfl) dL_nodeOf_6 (⟨rfl, rfl, rfl⟩)

set_option maxRecDepth 20000 in
set_option maxHeartbeats 1000000 in
theorem c_L_heatOf_ok (l : Launch) (G : mG) (hG : mInj G) (M : Mem) (g : Glo) (V : View) (Hs : List View) (len : Nat) (T : Nat → Int32) (hI : cINV M V Hs len T) (j w : Nat) (h0 : 0 < j) (hj : j < vN V) (hw : w < 6) : mcW l G yL_heatOf cL_heatOf 4 hhL_heatOf 6 0 0 [.ref (mA G 0), .int (nI j), .int (nI w)] M g (fun r M' g' => r = heatF V j w ∧ M' = M ∧ g' = g) := by
  refine mcW_of (L0 := [(0, .ref (mA G 0)), (1, .int (nI j)), (2, .int (nI w))]) hG (by decide) (Nat.le_of_ble_eq_true rfl) rfl ?_
  intro p e s m args below meth c Q C htab hend
  refine r_aload_n C dL_heatOf_0 0 rfl ?_
  refine r_iload_n C dL_heatOf_1 1 rfl ?_
  refine r_iload_n C dL_heatOf_2 2 rfl ?_
  refine r_callVI (As := [.int (nI j), .int (nI w)]) (rest := []) C dL_heatOf_3 s_L_107 (c_X7_heat_ok l G hG M g V Hs len T hI j w h0 hj hw) (by decide) rfl rfl rfl rfl (Nat.le_of_ble_eq_true rfl) (Nat.le_of_ble_eq_true rfl) (Nat.le_of_ble_eq_true rfl) (pk_I ?_)
  exact hend _ _ _ _ _ _ _ (Nat.le_of_ble_eq_true rfl) (Nat.le_of_ble_eq_true rfl) dL_heatOf_6 (⟨rfl, rfl, rfl⟩)

set_option maxRecDepth 20000 in
set_option maxHeartbeats 1000000 in
theorem c_L_valueOf_ok (l : Launch) (G : mG) (hG : mInj G) (M : Mem) (g : Glo) (V : View) (Hs : List View) (len : Nat) (T : Nat → Int32) (hI : cINV M V Hs len T) (w : Nat) (hw : w < 15) : mcW l G yL_valueOf cL_valueOf 3 hhL_valueOf 6 0 0 [.ref (mA G 0), .int (nI w)] M g (fun r M' g' => r = valF V w ∧ M' = M ∧ g' = g) := by
  refine mcW_of (L0 := [(0, .ref (mA G 0)), (1, .int (nI w))]) hG (by decide) (Nat.le_of_ble_eq_true rfl) rfl ?_
  intro p e s m args below meth c Q C htab hend
  refine r_aload_n C dL_valueOf_0 0 rfl ?_
  refine r_iload_n C dL_valueOf_1 1 rfl ?_
  refine r_callVI (As := [.int (nI w)]) (rest := []) C dL_valueOf_2 s_L_110 (c_X7_value_ok l G hG M g V Hs len T hI w hw) (by decide) rfl rfl rfl rfl (Nat.le_of_ble_eq_true rfl) (Nat.le_of_ble_eq_true rfl) (Nat.le_of_ble_eq_true rfl) (pk_I ?_)
  exact hend _ _ _ _ _ _ _ (Nat.le_of_ble_eq_true rfl) (Nat.le_of_ble_eq_true rfl) dL_valueOf_5 (⟨rfl, rfl, rfl⟩)

set_option maxRecDepth 20000 in
set_option maxHeartbeats 1000000 in
theorem c_L_sumOf_ok (l : Launch) (G : mG) (hG : mInj G) (M : Mem) (g : Glo) (V : View) (Hs : List View) (len : Nat) (T : Nat → Int32) (hI : cINV M V Hs len T) (w : Nat) (hw : w < 3) : mcW l G yL_sumOf cL_sumOf 3 hhL_sumOf 7 0 0 [.ref (mA G 0), .int (nI w)] M g (fun r M' g' => r = sumF V w ∧ M' = M ∧ g' = g) := by
  refine mcW_of (L0 := [(0, .ref (mA G 0)), (1, .int (nI w))]) hG (by decide) (Nat.le_of_ble_eq_true rfl) rfl ?_
  intro p e s m args below meth c Q C htab hend
  refine r_aload_n C dL_sumOf_0 0 rfl ?_
  refine r_iload_n C dL_sumOf_1 1 rfl ?_
  refine r_callVI (As := [.int (nI w)]) (rest := []) C dL_sumOf_2 s_L_113 (c_X7_sum_ok l G hG M g V Hs len T hI w hw) (by decide) rfl rfl rfl rfl (Nat.le_of_ble_eq_true rfl) (Nat.le_of_ble_eq_true rfl) (Nat.le_of_ble_eq_true rfl) (pk_I ?_)
  exact hend _ _ _ _ _ _ _ (Nat.le_of_ble_eq_true rfl) (Nat.le_of_ble_eq_true rfl) dL_sumOf_5 (⟨rfl, rfl, rfl⟩)

set_option maxRecDepth 20000 in
set_option maxHeartbeats 1000000 in
theorem c_L_boilerOf_ok (l : Launch) (G : mG) (hG : mInj G) (M : Mem) (g : Glo) (V : View) (Hs : List View) (len : Nat) (T : Nat → Int32) (hI : cINV M V Hs len T) (j w : Nat) (hj : j < vB V) (hw : w < 5) : mcW l G yL_boilerOf cL_boilerOf 4 hhL_boilerOf 6 0 0 [.ref (mA G 0), .int (nI j), .int (nI w)] M g (fun r M' g' => r = boiF V j w ∧ M' = M ∧ g' = g) := by
  refine mcW_of (L0 := [(0, .ref (mA G 0)), (1, .int (nI j)), (2, .int (nI w))]) hG (by decide) (Nat.le_of_ble_eq_true rfl) rfl ?_
  intro p e s m args below meth c Q C htab hend
  refine r_aload_n C dL_boilerOf_0 0 rfl ?_
  refine r_iload_n C dL_boilerOf_1 1 rfl ?_
  refine r_iload_n C dL_boilerOf_2 2 rfl ?_
  refine r_callVI (As := [.int (nI j), .int (nI w)]) (rest := []) C dL_boilerOf_3 s_L_116 (c_X7_boiler_ok l G hG M g V Hs len T hI j w hj hw) (by decide) rfl rfl rfl rfl (Nat.le_of_ble_eq_true rfl) (Nat.le_of_ble_eq_true rfl) (Nat.le_of_ble_eq_true rfl) (pk_I ?_)
  exact hend _ _ _ _ _ _ _ (Nat.le_of_ble_eq_true rfl) (Nat.le_of_ble_eq_true rfl) dL_boilerOf_6 (⟨rfl, rfl, rfl⟩)
