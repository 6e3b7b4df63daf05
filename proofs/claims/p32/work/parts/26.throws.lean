theorem pk_VC {P : Mem → Glo → Prop} {M : Mem} {g : Glo} {cd : Prop} (h : cd → P M g) : ∀ (M' : Mem) (g' : Glo), ((M' = M ∧ g' = g) ∧ cd) → P M' g' := by
  rintro _ _ ⟨⟨rfl, rfl⟩, hc⟩
  exact h hc
def IOO : String := "java/lang/IndexOutOfBoundsException"
def IAE : String := "java/lang/IllegalArgumentException"
def ISE : String := "java/lang/IllegalStateException"

theorem t_X7_81 : mThr RX7 79 81 83 "java/lang/IllegalStateException" "there are 16 nodes" ["java/lang/RuntimeException", "java/lang/Exception"] := by
  refine ⟨gd_t 532 (by decide +kernel) rfl, gd_t 17 (by decide +kernel) rfl, List.mem_of_getElem? (i := 6) (by decide +kernel), ?_, ?_, ?_, by decide +kernel, by decide +kernel, by decide⟩
  · exact List.all_eq_true.mp (show ((vx_atS RX7 83 "java/lang/IllegalStateException" ["java/lang/RuntimeException", "java/lang/Exception"]).filter goodWord).all (fun w => decide (w ∈ gd)) = true by decide +kernel) |> fun h w hw => of_decide_eq_true (h w hw)
  · exact List.all_eq_true.mp (show ((vx_atS RX7 83 "java/lang/IllegalStateException" ["java/lang/RuntimeException", "java/lang/Exception"]).filter (fun w => !goodWord w)).all (fun w => decide (w ∈ (caL.map (fun q => Cond.castable q.1 q.2) ++ deL.map Cond.declares))) = true by decide +kernel) |> fun h w hw => of_decide_eq_true (h w hw)
  · exact List.all_eq_true.mp (show (Cond.classLink RX7 79 "java/lang/IllegalStateException" :: Cond.initialized "java/lang/IllegalStateException" :: vx_atS RX7 83 "java/lang/IllegalStateException" ["java/lang/RuntimeException", "java/lang/Exception"]).all vx_ot = true by decide +kernel)

theorem t_X7_134 : mThr RX7 79 134 83 "java/lang/IllegalStateException" "there are 4 boilers" ["java/lang/RuntimeException", "java/lang/Exception"] := by
  refine ⟨gd_t 532 (by decide +kernel) rfl, gd_t 17 (by decide +kernel) rfl, List.mem_of_getElem? (i := 2) (by decide +kernel), ?_, ?_, ?_, by decide +kernel, by decide +kernel, by decide⟩
  · exact List.all_eq_true.mp (show ((vx_atS RX7 83 "java/lang/IllegalStateException" ["java/lang/RuntimeException", "java/lang/Exception"]).filter goodWord).all (fun w => decide (w ∈ gd)) = true by decide +kernel) |> fun h w hw => of_decide_eq_true (h w hw)
  · exact List.all_eq_true.mp (show ((vx_atS RX7 83 "java/lang/IllegalStateException" ["java/lang/RuntimeException", "java/lang/Exception"]).filter (fun w => !goodWord w)).all (fun w => decide (w ∈ (caL.map (fun q => Cond.castable q.1 q.2) ++ deL.map Cond.declares))) = true by decide +kernel) |> fun h w hw => of_decide_eq_true (h w hw)
  · exact List.all_eq_true.mp (show (Cond.classLink RX7 79 "java/lang/IllegalStateException" :: Cond.initialized "java/lang/IllegalStateException" :: vx_atS RX7 83 "java/lang/IllegalStateException" ["java/lang/RuntimeException", "java/lang/Exception"]).all vx_ot = true by decide +kernel)

theorem t_X7_161 : mThr RX7 79 161 83 "java/lang/IllegalStateException" "more than 200 hours" ["java/lang/RuntimeException", "java/lang/Exception"] := by
  refine ⟨gd_t 532 (by decide +kernel) rfl, gd_t 17 (by decide +kernel) rfl, List.mem_of_getElem? (i := 4) (by decide +kernel), ?_, ?_, ?_, by decide +kernel, by decide +kernel, by decide⟩
  · exact List.all_eq_true.mp (show ((vx_atS RX7 83 "java/lang/IllegalStateException" ["java/lang/RuntimeException", "java/lang/Exception"]).filter goodWord).all (fun w => decide (w ∈ gd)) = true by decide +kernel) |> fun h w hw => of_decide_eq_true (h w hw)
  · exact List.all_eq_true.mp (show ((vx_atS RX7 83 "java/lang/IllegalStateException" ["java/lang/RuntimeException", "java/lang/Exception"]).filter (fun w => !goodWord w)).all (fun w => decide (w ∈ (caL.map (fun q => Cond.castable q.1 q.2) ++ deL.map Cond.declares))) = true by decide +kernel) |> fun h w hw => of_decide_eq_true (h w hw)
  · exact List.all_eq_true.mp (show (Cond.classLink RX7 79 "java/lang/IllegalStateException" :: Cond.initialized "java/lang/IllegalStateException" :: vx_atS RX7 83 "java/lang/IllegalStateException" ["java/lang/RuntimeException", "java/lang/Exception"]).all vx_ot = true by decide +kernel)

theorem t_X7_258 : mThr RX7 256 258 260 "java/lang/IndexOutOfBoundsException" "there is no such node" ["java/lang/RuntimeException", "java/lang/Exception"] := by
  refine ⟨gd_t 499 (by decide +kernel) rfl, gd_t 15 (by decide +kernel) rfl, List.mem_of_getElem? (i := 5) (by decide +kernel), ?_, ?_, ?_, by decide +kernel, by decide +kernel, by decide⟩
  · exact List.all_eq_true.mp (show ((vx_atS RX7 260 "java/lang/IndexOutOfBoundsException" ["java/lang/RuntimeException", "java/lang/Exception"]).filter goodWord).all (fun w => decide (w ∈ gd)) = true by decide +kernel) |> fun h w hw => of_decide_eq_true (h w hw)
  · exact List.all_eq_true.mp (show ((vx_atS RX7 260 "java/lang/IndexOutOfBoundsException" ["java/lang/RuntimeException", "java/lang/Exception"]).filter (fun w => !goodWord w)).all (fun w => decide (w ∈ (caL.map (fun q => Cond.castable q.1 q.2) ++ deL.map Cond.declares))) = true by decide +kernel) |> fun h w hw => of_decide_eq_true (h w hw)
  · exact List.all_eq_true.mp (show (Cond.classLink RX7 256 "java/lang/IndexOutOfBoundsException" :: Cond.initialized "java/lang/IndexOutOfBoundsException" :: vx_atS RX7 260 "java/lang/IndexOutOfBoundsException" ["java/lang/RuntimeException", "java/lang/Exception"]).all vx_ot = true by decide +kernel)

theorem t_X7_261 : mThr RX7 256 261 260 "java/lang/IndexOutOfBoundsException" "there is no such node other than 0" ["java/lang/RuntimeException", "java/lang/Exception"] := by
  refine ⟨gd_t 499 (by decide +kernel) rfl, gd_t 15 (by decide +kernel) rfl, List.mem_of_getElem? (i := 1) (by decide +kernel), ?_, ?_, ?_, by decide +kernel, by decide +kernel, by decide⟩
  · exact List.all_eq_true.mp (show ((vx_atS RX7 260 "java/lang/IndexOutOfBoundsException" ["java/lang/RuntimeException", "java/lang/Exception"]).filter goodWord).all (fun w => decide (w ∈ gd)) = true by decide +kernel) |> fun h w hw => of_decide_eq_true (h w hw)
  · exact List.all_eq_true.mp (show ((vx_atS RX7 260 "java/lang/IndexOutOfBoundsException" ["java/lang/RuntimeException", "java/lang/Exception"]).filter (fun w => !goodWord w)).all (fun w => decide (w ∈ (caL.map (fun q => Cond.castable q.1 q.2) ++ deL.map Cond.declares))) = true by decide +kernel) |> fun h w hw => of_decide_eq_true (h w hw)
  · exact List.all_eq_true.mp (show (Cond.classLink RX7 256 "java/lang/IndexOutOfBoundsException" :: Cond.initialized "java/lang/IndexOutOfBoundsException" :: vx_atS RX7 260 "java/lang/IndexOutOfBoundsException" ["java/lang/RuntimeException", "java/lang/Exception"]).all vx_ot = true by decide +kernel)

theorem t_X7_263 : mThr RX7 256 263 260 "java/lang/IndexOutOfBoundsException" "there is no such boiler" ["java/lang/RuntimeException", "java/lang/Exception"] := by
  refine ⟨gd_t 499 (by decide +kernel) rfl, gd_t 15 (by decide +kernel) rfl, List.mem_of_getElem? (i := 3) (by decide +kernel), ?_, ?_, ?_, by decide +kernel, by decide +kernel, by decide⟩
  · exact List.all_eq_true.mp (show ((vx_atS RX7 260 "java/lang/IndexOutOfBoundsException" ["java/lang/RuntimeException", "java/lang/Exception"]).filter goodWord).all (fun w => decide (w ∈ gd)) = true by decide +kernel) |> fun h w hw => of_decide_eq_true (h w hw)
  · exact List.all_eq_true.mp (show ((vx_atS RX7 260 "java/lang/IndexOutOfBoundsException" ["java/lang/RuntimeException", "java/lang/Exception"]).filter (fun w => !goodWord w)).all (fun w => decide (w ∈ (caL.map (fun q => Cond.castable q.1 q.2) ++ deL.map Cond.declares))) = true by decide +kernel) |> fun h w hw => of_decide_eq_true (h w hw)
  · exact List.all_eq_true.mp (show (Cond.classLink RX7 256 "java/lang/IndexOutOfBoundsException" :: Cond.initialized "java/lang/IndexOutOfBoundsException" :: vx_atS RX7 260 "java/lang/IndexOutOfBoundsException" ["java/lang/RuntimeException", "java/lang/Exception"]).all vx_ot = true by decide +kernel)

theorem t_X7_267 : mThr RX7 265 267 269 "java/lang/IllegalArgumentException" "an argument is out of range" ["java/lang/RuntimeException", "java/lang/Exception"] := by
  refine ⟨gd_t 396 (by decide +kernel) rfl, gd_t 14 (by decide +kernel) rfl, List.mem_of_getElem? (i := 0) (by decide +kernel), ?_, ?_, ?_, by decide +kernel, by decide +kernel, by decide⟩
  · exact List.all_eq_true.mp (show ((vx_atS RX7 269 "java/lang/IllegalArgumentException" ["java/lang/RuntimeException", "java/lang/Exception"]).filter goodWord).all (fun w => decide (w ∈ gd)) = true by decide +kernel) |> fun h w hw => of_decide_eq_true (h w hw)
  · exact List.all_eq_true.mp (show ((vx_atS RX7 269 "java/lang/IllegalArgumentException" ["java/lang/RuntimeException", "java/lang/Exception"]).filter (fun w => !goodWord w)).all (fun w => decide (w ∈ (caL.map (fun q => Cond.castable q.1 q.2) ++ deL.map Cond.declares))) = true by decide +kernel) |> fun h w hw => of_decide_eq_true (h w hw)
  · exact List.all_eq_true.mp (show (Cond.classLink RX7 265 "java/lang/IllegalArgumentException" :: Cond.initialized "java/lang/IllegalArgumentException" :: vx_atS RX7 269 "java/lang/IllegalArgumentException" ["java/lang/RuntimeException", "java/lang/Exception"]).all vx_ot = true by decide +kernel)
