/-! the constructors -/
abbrev kI (G : mG) (n : Nat) (f : Nat → Int32) : va_E := .inl (G.2.1.1, n, .inl f)
theorem k_iastN {p : Program} {l : Launch} {e : Env} {R : Room} {s : State} {m : MethodId} {args : Array Value} {below : List Frame} {meth : Method} {c : Code} {G : mG} {nL kk nn : Nat} {Q : State → Prop} {A : Nat → Prop} {ws : va_W} {L : List (Nat × Value)} {pc : Nat} {st : List Value} {cc : ByteArray} {own : String} {q0 n a j : Nat} {f : Nat → Int32} {i x : Int32} {ws' : va_W} (C : kCx p s m args c cc nL own G A) (hd : decode cc pc = .ok (.iastore, 1)) (ha : ws[q0]? = some (a, .inl (G.2.1.1, n, .inl f))) (hi : i = nI j) (hj : j < n) (hn : n < 2 ^ 31) (hw : ws.set q0 (a, .inl (G.2.1.1, n, .inl (upd f j x))) = ws') (k : Kt p l e R s m args below meth c G nL kk nn Q A ws' L (pc + 1) st) : Kt p l e R s m args below meth c G nL kk nn Q A ws L pc (.int x :: .int i :: .ref a :: st) := by
  subst hi
  refine k_iast C hd ha (vp_in_nI hj hn) ?_ k
  rw [nI_clamp (by omega)]
  exact hw
theorem k_aastN {p : Program} {l : Launch} {e : Env} {R : Room} {s : State} {m : MethodId} {args : Array Value} {below : List Frame} {meth : Method} {c : Code} {G : mG} {nL kk nn : Nat} {Q : State → Prop} {A : Nat → Prop} {ws : va_W} {L : List (Nat × Value)} {pc : Nat} {st : List Value} {cc : ByteArray} {own : String} {q0 qk n a v j : Nat} {f : Nat → Option Nat} {vs : List Value} {i : Int32} {ws' : va_W} (C : kCx p s m args c cc nL own G A) (hd : decode cc pc = .ok (.aastore, 1)) (ha : ws[q0]? = some (a, .inl (G.2.1.2.1, n, .inr (.inr (.inr (.inr f)))))) (hv : ws[qk]? = some (v, .inr (6, vs))) (hi : i = nI j) (hj : j < n) (hn : n < 2 ^ 31) (hw : ws.set q0 (a, .inl (G.2.1.2.1, n, .inr (.inr (.inr (.inr (va_up f j (some v))))))) = ws') (k : Kt p l e R s m args below meth c G nL kk nn Q A ws' L (pc + 1) st) : Kt p l e R s m args below meth c G nL kk nn Q A ws L pc (.ref v :: .int i :: .ref a :: st) := by
  subst hi
  refine k_aast C hd ha hv (vp_in_nI hj hn) ?_ k
  rw [nI_clamp (by omega)]
  exact hw
theorem ff_X3_9 : mFf RX3 9 3 0 (.array .int) := ⟨RX3, TX3, 9, tyX3, cl3, by decide, gd_t 38 (by decide +kernel) rfl, rfl, rfl, by decide +kernel⟩
theorem ff_X3_15 : mFf RX3 15 3 1 (.array .int) := ⟨RX3, TX3, 9, tyX3, cl3, by decide, gd_t 42 (by decide +kernel) rfl, rfl, rfl, by decide +kernel⟩
theorem ff_X3_18 : mFf RX3 18 3 2 (.array .int) := ⟨RX3, TX3, 9, tyX3, cl3, by decide, gd_t 45 (by decide +kernel) rfl, rfl, rfl, by decide +kernel⟩
theorem ff_X3_21 : mFf RX3 21 3 3 (.array .int) := ⟨RX3, TX3, 9, tyX3, cl3, by decide, gd_t 48 (by decide +kernel) rfl, rfl, rfl, by decide +kernel⟩
theorem ff_X3_24 : mFf RX3 24 3 4 (.array .int) := ⟨RX3, TX3, 9, tyX3, cl3, by decide, gd_t 51 (by decide +kernel) rfl, rfl, rfl, by decide +kernel⟩
theorem ff_X3_27 : mFf RX3 27 3 5 (.array .int) := ⟨RX3, TX3, 9, tyX3, cl3, by decide, gd_t 54 (by decide +kernel) rfl, rfl, rfl, by decide +kernel⟩
theorem ff_X3_30 : mFf RX3 30 3 6 (.array .int) := ⟨RX3, TX3, 9, tyX3, cl3, by decide, gd_t 58 (by decide +kernel) rfl, rfl, rfl, by decide +kernel⟩
theorem ff_X3_33 : mFf RX3 33 3 7 (.array .int) := ⟨RX3, TX3, 9, tyX3, cl3, by decide, gd_t 61 (by decide +kernel) rfl, rfl, rfl, by decide +kernel⟩
theorem ff_X0_9 : mFf RX0 9 0 0 (.array .int) := ⟨RX0, TX0, 4, tyX0, cl0, by decide, gd_t 93 (by decide +kernel) rfl, rfl, rfl, by decide +kernel⟩
theorem ff_X0_15 : mFf RX0 15 0 1 (.array .int) := ⟨RX0, TX0, 4, tyX0, cl0, by decide, gd_t 96 (by decide +kernel) rfl, rfl, rfl, by decide +kernel⟩
theorem ff_X0_18 : mFf RX0 18 0 2 (.array .int) := ⟨RX0, TX0, 4, tyX0, cl0, by decide, gd_t 99 (by decide +kernel) rfl, rfl, rfl, by decide +kernel⟩
theorem ff_X6_10 : mFf RX6 10 6 0 (.object "HeatBranches$Network") := ⟨RX6, TX6, 9, tyX6, cl6, by decide, gd_t 114 (by decide +kernel) rfl, rfl, rfl, by decide +kernel⟩
theorem ff_X6_19 : mFf RX6 19 6 1 (.object "HeatBranches$Boilers") := ⟨RX6, TX6, 9, tyX6, cl6, by decide, gd_t 117 (by decide +kernel) rfl, rfl, rfl, by decide +kernel⟩
theorem ff_X1_11 : mFf RX1 11 1 0 (.array (.object "HeatBranches$State")) := ⟨RX1, TX1, 3, tyX1, cl1, by decide, gd_t 163 (by decide +kernel) rfl, rfl, rfl, by decide +kernel⟩
theorem ff_X4_9 : mFf RX4 9 4 0 (.array .int) := ⟨RX4, TX4, 4, tyX4, cl4, by decide, gd_t 179 (by decide +kernel) rfl, rfl, rfl, by decide +kernel⟩
theorem ff_X2_9 : mFf RX2 9 2 0 (.array .int) := ⟨RX2, TX2, 7, tyX2, cl2, by decide, gd_t 198 (by decide +kernel) rfl, rfl, rfl, by decide +kernel⟩
theorem ff_X2_15 : mFf RX2 15 2 1 (.array .int) := ⟨RX2, TX2, 7, tyX2, cl2, by decide, gd_t 200 (by decide +kernel) rfl, rfl, rfl, by decide +kernel⟩
theorem ff_X2_18 : mFf RX2 18 2 2 (.array .int) := ⟨RX2, TX2, 7, tyX2, cl2, by decide, gd_t 202 (by decide +kernel) rfl, rfl, rfl, by decide +kernel⟩
theorem ff_X2_21 : mFf RX2 21 2 3 (.array .int) := ⟨RX2, TX2, 7, tyX2, cl2, by decide, gd_t 204 (by decide +kernel) rfl, rfl, rfl, by decide +kernel⟩
theorem ff_X5_9 : mFf RX5 9 5 0 (.array .int) := ⟨RX5, TX5, 6, tyX5, cl5, by decide, gd_t 233 (by decide +kernel) rfl, rfl, rfl, by decide +kernel⟩
theorem ff_X5_15 : mFf RX5 15 5 1 (.array .int) := ⟨RX5, TX5, 6, tyX5, cl5, by decide, gd_t 234 (by decide +kernel) rfl, rfl, rfl, by decide +kernel⟩
theorem ff_X5_18 : mFf RX5 18 5 2 (.array .int) := ⟨RX5, TX5, 6, tyX5, cl5, by decide, gd_t 235 (by decide +kernel) rfl, rfl, rfl, by decide +kernel⟩
theorem ff_X5_21 : mFf RX5 21 5 3 (.array .int) := ⟨RX5, TX5, 6, tyX5, cl5, by decide, gd_t 236 (by decide +kernel) rfl, rfl, rfl, by decide +kernel⟩
theorem ff_X5_24 : mFf RX5 24 5 4 (.array .int) := ⟨RX5, TX5, 6, tyX5, cl5, by decide, gd_t 237 (by decide +kernel) rfl, rfl, rfl, by decide +kernel⟩
theorem ff_X7_10 : mFf RX7 10 7 0 (.object "HeatBranches$State") := ⟨RX7, TX7, 9, tyX7, cl7, by decide, gd_t 342 (by decide +kernel) rfl, rfl, rfl, by decide +kernel⟩
theorem ff_X7_19 : mFf RX7 19 7 1 (.object "HeatBranches$History") := ⟨RX7, TX7, 9, tyX7, cl7, by decide, gd_t 343 (by decide +kernel) rfl, rfl, rfl, by decide +kernel⟩
theorem ff_X7_26 : mFf RX7 26 7 2 (.object "HeatBranches$NetworkText") := ⟨RX7, TX7, 9, tyX7, cl7, by decide, gd_t 344 (by decide +kernel) rfl, rfl, rfl, by decide +kernel⟩
theorem ff_X7_33 : mFf RX7 33 7 3 (.object "HeatBranches$Hour") := ⟨RX7, TX7, 9, tyX7, cl7, by decide, gd_t 345 (by decide +kernel) rfl, rfl, rfl, by decide +kernel⟩
theorem ff_X7_40 : mFf RX7 40 7 4 (.object "HeatBranches$Regions") := ⟨RX7, TX7, 9, tyX7, cl7, by decide, gd_t 346 (by decide +kernel) rfl, rfl, rfl, by decide +kernel⟩
theorem ff_X7_44 : mFf RX7 44 7 5 (.object "HeatBranches$Hour") := ⟨RX7, TX7, 9, tyX7, cl7, by decide, gd_t 347 (by decide +kernel) rfl, rfl, rfl, by decide +kernel⟩
theorem ff_X7_47 : mFf RX7 47 7 6 (.object "HeatBranches$Regions") := ⟨RX7, TX7, 9, tyX7, cl7, by decide, gd_t 348 (by decide +kernel) rfl, rfl, rfl, by decide +kernel⟩
theorem ff_X7_53 : mFf RX7 53 7 7 (.object "HeatBranches$Network") := ⟨RX7, TX7, 9, tyX7, cl7, by decide, gd_t 349 (by decide +kernel) rfl, rfl, rfl, by decide +kernel⟩
theorem ff_X7_57 : mFf RX7 57 7 8 (.array .int) := ⟨RX7, TX7, 9, tyX7, cl7, by decide, gd_t 350 (by decide +kernel) rfl, rfl, rfl, by decide +kernel⟩
theorem nw_L_66 : mNw RL 66 7 [.null, .null, .null, .null, .null, .null, .null, .null, .null] := ⟨RX7, TX7, 9, tyX7, cl7, rfl, gd_t 18 (by decide +kernel) rfl, gd_t 19 (by decide +kernel) rfl, gd_t 1 (by decide +kernel) rfl, fun j hj => match j, hj with | 0, _ => rfl | 1, _ => rfl | 2, _ => rfl | 3, _ => rfl | 4, _ => rfl | 5, _ => rfl | 6, _ => rfl | 7, _ => rfl | 8, _ => rfl | j + 9, h => absurd h (by omega)⟩
theorem nw_X7_7 : mNw RX7 7 6 [.null, .null, .int 0, .int 0, .int 0, .int 0, .int 0, .int 0, .int 0] := ⟨RX6, TX6, 9, tyX6, cl6, rfl, gd_t 26 (by decide +kernel) rfl, gd_t 27 (by decide +kernel) rfl, gd_t 2 (by decide +kernel) rfl, fun j hj => match j, hj with | 0, _ => rfl | 1, _ => rfl | 2, _ => rfl | 3, _ => rfl | 4, _ => rfl | 5, _ => rfl | 6, _ => rfl | 7, _ => rfl | 8, _ => rfl | j + 9, h => absurd h (by omega)⟩
theorem nw_X6_7 : mNw RX6 7 3 [.null, .null, .null, .null, .null, .null, .null, .null, .int 0] := ⟨RX3, TX3, 9, tyX3, cl3, rfl, gd_t 32 (by decide +kernel) rfl, gd_t 33 (by decide +kernel) rfl, gd_t 3 (by decide +kernel) rfl, fun j hj => match j, hj with | 0, _ => rfl | 1, _ => rfl | 2, _ => rfl | 3, _ => rfl | 4, _ => rfl | 5, _ => rfl | 6, _ => rfl | 7, _ => rfl | 8, _ => rfl | j + 9, h => absurd h (by omega)⟩
theorem nw_X6_16 : mNw RX6 16 0 [.null, .null, .null, .int 0] := ⟨RX0, TX0, 4, tyX0, cl0, rfl, gd_t 87 (by decide +kernel) rfl, gd_t 88 (by decide +kernel) rfl, gd_t 4 (by decide +kernel) rfl, fun j hj => match j, hj with | 0, _ => rfl | 1, _ => rfl | 2, _ => rfl | 3, _ => rfl | j + 4, h => absurd h (by omega)⟩
theorem nw_X7_16 : mNw RX7 16 1 [.null, .int 0, .int 0] := ⟨RX1, TX1, 3, tyX1, cl1, rfl, gd_t 154 (by decide +kernel) rfl, gd_t 155 (by decide +kernel) rfl, gd_t 5 (by decide +kernel) rfl, fun j hj => match j, hj with | 0, _ => rfl | 1, _ => rfl | 2, _ => rfl | j + 3, h => absurd h (by omega)⟩
theorem nw_X1_9 : mNw RX1 9 6 [.null, .null, .int 0, .int 0, .int 0, .int 0, .int 0, .int 0, .int 0] := ⟨RX6, TX6, 9, tyX6, cl6, rfl, gd_t 160 (by decide +kernel) rfl, gd_t 27 (by decide +kernel) rfl, gd_t 2 (by decide +kernel) rfl, fun j hj => match j, hj with | 0, _ => rfl | 1, _ => rfl | 2, _ => rfl | 3, _ => rfl | 4, _ => rfl | 5, _ => rfl | 6, _ => rfl | 7, _ => rfl | 8, _ => rfl | j + 9, h => absurd h (by omega)⟩
theorem nw_X7_23 : mNw RX7 23 4 [.null, .int 0, .int 0, .int 0] := ⟨RX4, TX4, 4, tyX4, cl4, rfl, gd_t 173 (by decide +kernel) rfl, gd_t 174 (by decide +kernel) rfl, gd_t 6 (by decide +kernel) rfl, fun j hj => match j, hj with | 0, _ => rfl | 1, _ => rfl | 2, _ => rfl | 3, _ => rfl | j + 4, h => absurd h (by omega)⟩
theorem nw_X7_30 : mNw RX7 30 2 [.null, .null, .null, .null, .int 0, .int 0, .int 0] := ⟨RX2, TX2, 7, tyX2, cl2, rfl, gd_t 192 (by decide +kernel) rfl, gd_t 193 (by decide +kernel) rfl, gd_t 7 (by decide +kernel) rfl, fun j hj => match j, hj with | 0, _ => rfl | 1, _ => rfl | 2, _ => rfl | 3, _ => rfl | 4, _ => rfl | 5, _ => rfl | 6, _ => rfl | j + 7, h => absurd h (by omega)⟩
theorem nw_X7_37 : mNw RX7 37 5 [.null, .null, .null, .null, .null, .int 0] := ⟨RX5, TX5, 6, tyX5, cl5, rfl, gd_t 227 (by decide +kernel) rfl, gd_t 228 (by decide +kernel) rfl, gd_t 8 (by decide +kernel) rfl, fun j hj => match j, hj with | 0, _ => rfl | 1, _ => rfl | 2, _ => rfl | 3, _ => rfl | 4, _ => rfl | 5, _ => rfl | j + 6, h => absurd h (by omega)⟩
theorem nw_X7_50 : mNw RX7 50 3 [.null, .null, .null, .null, .null, .null, .null, .null, .int 0] := ⟨RX3, TX3, 9, tyX3, cl3, rfl, gd_t 252 (by decide +kernel) rfl, gd_t 33 (by decide +kernel) rfl, gd_t 3 (by decide +kernel) rfl, fun j hj => match j, hj with | 0, _ => rfl | 1, _ => rfl | 2, _ => rfl | 3, _ => rfl | 4, _ => rfl | 5, _ => rfl | 6, _ => rfl | 7, _ => rfl | 8, _ => rfl | j + 9, h => absurd h (by omega)⟩
theorem sc_L_138 : mSc RL 138 yX7_init cX7_init 1 := ⟨⟨gd_t 20 (by decide +kernel) rfl, gd_t 1 (by decide +kernel) rfl, gd_t 22 (by decide +kernel) rfl, by decide, by decide, by decide +kernel, by decide⟩, rfl, gd_t 21 (by decide +kernel) rfl⟩
theorem sc_X6_9 : mSc RX6 9 yX3_init cX3_init 1 := ⟨⟨gd_t 34 (by decide +kernel) rfl, gd_t 3 (by decide +kernel) rfl, gd_t 36 (by decide +kernel) rfl, by decide, by decide, by decide +kernel, by decide⟩, rfl, gd_t 35 (by decide +kernel) rfl⟩
theorem sc_X7_18 : mSc RX7 18 yX1_init cX1_init 2 := ⟨⟨gd_t 156 (by decide +kernel) rfl, gd_t 5 (by decide +kernel) rfl, gd_t 158 (by decide +kernel) rfl, by decide, by decide, by decide +kernel, by decide⟩, rfl, gd_t 157 (by decide +kernel) rfl⟩
theorem sc_X7_52 : mSc RX7 52 yX3_init cX3_init 1 := ⟨⟨gd_t 253 (by decide +kernel) rfl, gd_t 3 (by decide +kernel) rfl, gd_t 36 (by decide +kernel) rfl, by decide, by decide, by decide +kernel, by decide⟩, rfl, gd_t 35 (by decide +kernel) rfl⟩
theorem scn_X7_9 : mScn RX7 9 yX6_init RX7 cX6_init 1 := ⟨List.mem_of_getElem? (i := 0) (by decide +kernel), gd_t 2 (by decide +kernel) rfl, gd_t 30 (by decide +kernel) rfl, by decide, by decide, by decide +kernel, by decide, rfl, gd_t 29 (by decide +kernel) rfl⟩
theorem scn_X6_18 : mScn RX6 18 yX0_init RX7 cX0_init 1 := ⟨List.mem_of_getElem? (i := 1) (by decide +kernel), gd_t 4 (by decide +kernel) rfl, gd_t 91 (by decide +kernel) rfl, by decide, by decide, by decide +kernel, by decide, rfl, gd_t 90 (by decide +kernel) rfl⟩
theorem scn_X1_24 : mScn RX1 24 yX6_init RX7 cX6_init 1 := ⟨List.mem_of_getElem? (i := 2) (by decide +kernel), gd_t 2 (by decide +kernel) rfl, gd_t 30 (by decide +kernel) rfl, by decide, by decide, by decide +kernel, by decide, rfl, gd_t 29 (by decide +kernel) rfl⟩
theorem scn_X7_25 : mScn RX7 25 yX4_init RX7 cX4_init 1 := ⟨List.mem_of_getElem? (i := 3) (by decide +kernel), gd_t 6 (by decide +kernel) rfl, gd_t 177 (by decide +kernel) rfl, by decide, by decide, by decide +kernel, by decide, rfl, gd_t 176 (by decide +kernel) rfl⟩
theorem scn_X7_32 : mScn RX7 32 yX2_init RX7 cX2_init 1 := ⟨List.mem_of_getElem? (i := 4) (by decide +kernel), gd_t 7 (by decide +kernel) rfl, gd_t 196 (by decide +kernel) rfl, by decide, by decide, by decide +kernel, by decide, rfl, gd_t 195 (by decide +kernel) rfl⟩
theorem scn_X7_39 : mScn RX7 39 yX5_init RX7 cX5_init 1 := ⟨List.mem_of_getElem? (i := 5) (by decide +kernel), gd_t 8 (by decide +kernel) rfl, gd_t 231 (by decide +kernel) rfl, by decide, by decide, by decide +kernel, by decide, rfl, gd_t 230 (by decide +kernel) rfl⟩
def wX0 (G : mG) (a : Nat → Nat) (o : Nat) : va_W := (a o, .inr (0, [.ref (a (o + 1)), .ref (a (o + 2)), .ref (a (o + 3)), .int 0])) :: ((([] ++ [(a (o + 1), kI G 4 (fun _ => 0))]) ++ [(a (o + 2), kI G 4 (fun _ => 0))]) ++ [(a (o + 3), kI G 4 (fun _ => 0))])
set_option maxRecDepth 20000 in
set_option maxHeartbeats 1000000 in
theorem c_X0_init (l : Launch) (G : mG) : mcK l G yX0_init cX0_init 1 0 3 12 0 [.null, .null, .null, .int 0] (fun h0 (u : Nat → Nat) => u 0 = h0) (fun u => wX0 G u 0) := by
  refine mcK_of (by decide) rfl (by decide) ?_
  intro h0 p e s m args below meth c Q A hA hlt C hin hend
  refine k_as (ws' := (h0, .inr (0, [.null, .null, .null, .int 0])) :: []) rfl ?_
  refine k_aload_n C dX0_init_0 0 rfl ?_
  refine k_objInit C dX0_init_1 (gd_t 92 (by decide +kernel) rfl) (by decide) (by decide) ?_
  refine k_aload_n C dX0_init_4 0 rfl ?_
  refine k_iconst (v := 4) C dX0_init_5 (by decide) ?_
  refine k_newi (N := 4) C dX0_init_6 (by decide) (by decide) (by decide) (Nat.le_of_ble_eq_true rfl) (Nat.le_of_ble_eq_true rfl) (fun a1 => ?_)
  refine k_putF (i := 0) (fs' := [.ref a1, .null, .null, .int 0]) C hin dX0_init_8 ff_X0_9 rfl rfl (Nat.lt_of_lt_of_le (Nat.lt_succ_self _) (Nat.le_of_ble_eq_true rfl)) rfl ?_
  refine k_aload_n C dX0_init_11 0 rfl ?_
  refine k_iconst (v := 4) C dX0_init_12 (by decide) ?_
  refine k_newi (N := 4) C dX0_init_13 (by decide) (by decide) (by decide) (Nat.le_of_ble_eq_true rfl) (Nat.le_of_ble_eq_true rfl) (fun a2 => ?_)
  refine k_putF (i := 1) (fs' := [.ref a1, .ref a2, .null, .int 0]) C hin dX0_init_15 ff_X0_15 rfl rfl (Nat.lt_of_lt_of_le (Nat.lt_succ_self _) (Nat.le_of_ble_eq_true rfl)) rfl ?_
  refine k_aload_n C dX0_init_18 0 rfl ?_
  refine k_iconst (v := 4) C dX0_init_19 (by decide) ?_
  refine k_newi (N := 4) C dX0_init_20 (by decide) (by decide) (by decide) (Nat.le_of_ble_eq_true rfl) (Nat.le_of_ble_eq_true rfl) (fun a3 => ?_)
  refine k_putF (i := 2) (fs' := [.ref a1, .ref a2, .ref a3, .int 0]) C hin dX0_init_22 ff_X0_18 rfl rfl (Nat.lt_of_lt_of_le (Nat.lt_succ_self _) (Nat.le_of_ble_eq_true rfl)) rfl ?_
  refine k_aload_n C dX0_init_25 0 rfl ?_
  refine k_iconst (v := 0) C dX0_init_26 (by decide) ?_
  refine k_put (i := 3) (fs' := [.ref a1, .ref a2, .ref a3, .int 0]) C dX0_init_27 fi_X0_21 rfl rfl (Nat.lt_of_lt_of_le (Nat.lt_succ_self _) (Nat.le_of_ble_eq_true rfl)) rfl ?_
  refine k_as (ws' := wX0 G (fun i => ([h0, a1, a2, a3] : List Nat).getD i 0) 0) rfl ?_
  exact hend (fun i => ([h0, a1, a2, a3] : List Nat).getD i 0) _ _ dX0_init_30 rfl
def wX2 (G : mG) (a : Nat → Nat) (o : Nat) : va_W := (a o, .inr (2, [.ref (a (o + 1)), .ref (a (o + 2)), .ref (a (o + 3)), .ref (a (o + 4)), .int 0, .int 0, .int 0])) :: (((([] ++ [(a (o + 1), kI G 16 (fun _ => 0))]) ++ [(a (o + 2), kI G 16 (fun _ => 0))]) ++ [(a (o + 3), kI G 16 (fun _ => 0))]) ++ [(a (o + 4), kI G 4 (fun _ => 0))])
set_option maxRecDepth 20000 in
set_option maxHeartbeats 1000000 in
theorem c_X2_init (l : Launch) (G : mG) : mcK l G yX2_init cX2_init 1 0 4 52 2 [.null, .null, .null, .null, .int 0, .int 0, .int 0] (fun h0 (u : Nat → Nat) => u 0 = h0) (fun u => wX2 G u 0) := by
  refine mcK_of (by decide) rfl (by decide) ?_
  intro h0 p e s m args below meth c Q A hA hlt C hin hend
  refine k_as (ws' := (h0, .inr (2, [.null, .null, .null, .null, .int 0, .int 0, .int 0])) :: []) rfl ?_
  refine k_aload_n C dX2_init_0 0 rfl ?_
  refine k_objInit C dX2_init_1 (gd_t 197 (by decide +kernel) rfl) (by decide) (by decide) ?_
  refine k_aload_n C dX2_init_4 0 rfl ?_
  refine k_bipush (v := 16) C dX2_init_5 (by decide) ?_
  refine k_newi (N := 16) C dX2_init_7 (by decide) (by decide) (by decide) (Nat.le_of_ble_eq_true rfl) (Nat.le_of_ble_eq_true rfl) (fun a1 => ?_)
  refine k_putF (i := 0) (fs' := [.ref a1, .null, .null, .null, .int 0, .int 0, .int 0]) C hin dX2_init_9 ff_X2_9 rfl rfl (Nat.lt_of_lt_of_le (Nat.lt_succ_self _) (Nat.le_of_ble_eq_true rfl)) rfl ?_
  refine k_aload_n C dX2_init_12 0 rfl ?_
  refine k_bipush (v := 16) C dX2_init_13 (by decide) ?_
  refine k_newi (N := 16) C dX2_init_15 (by decide) (by decide) (by decide) (Nat.le_of_ble_eq_true rfl) (Nat.le_of_ble_eq_true rfl) (fun a2 => ?_)
  refine k_putF (i := 1) (fs' := [.ref a1, .ref a2, .null, .null, .int 0, .int 0, .int 0]) C hin dX2_init_17 ff_X2_15 rfl rfl (Nat.lt_of_lt_of_le (Nat.lt_succ_self _) (Nat.le_of_ble_eq_true rfl)) rfl ?_
  refine k_aload_n C dX2_init_20 0 rfl ?_
  refine k_bipush (v := 16) C dX2_init_21 (by decide) ?_
  refine k_newi (N := 16) C dX2_init_23 (by decide) (by decide) (by decide) (Nat.le_of_ble_eq_true rfl) (Nat.le_of_ble_eq_true rfl) (fun a3 => ?_)
  refine k_putF (i := 2) (fs' := [.ref a1, .ref a2, .ref a3, .null, .int 0, .int 0, .int 0]) C hin dX2_init_25 ff_X2_18 rfl rfl (Nat.lt_of_lt_of_le (Nat.lt_succ_self _) (Nat.le_of_ble_eq_true rfl)) rfl ?_
  refine k_aload_n C dX2_init_28 0 rfl ?_
  refine k_iconst (v := 4) C dX2_init_29 (by decide) ?_
  refine k_newi (N := 4) C dX2_init_30 (by decide) (by decide) (by decide) (Nat.le_of_ble_eq_true rfl) (Nat.le_of_ble_eq_true rfl) (fun a4 => ?_)
  refine k_putF (i := 3) (fs' := [.ref a1, .ref a2, .ref a3, .ref a4, .int 0, .int 0, .int 0]) C hin dX2_init_32 ff_X2_21 rfl rfl (Nat.lt_of_lt_of_le (Nat.lt_succ_self _) (Nat.le_of_ble_eq_true rfl)) rfl ?_
  refine k_aload_n C dX2_init_35 0 rfl ?_
  refine k_iconst (v := 0) C dX2_init_36 (by decide) ?_
  refine k_put (i := 4) (fs' := [.ref a1, .ref a2, .ref a3, .ref a4, .int 0, .int 0, .int 0]) C dX2_init_37 fi_X2_24 rfl rfl (Nat.lt_of_lt_of_le (Nat.lt_succ_self _) (Nat.le_of_ble_eq_true rfl)) rfl ?_
  refine k_aload_n C dX2_init_40 0 rfl ?_
  refine k_iconst (v := 0) C dX2_init_41 (by decide) ?_
  refine k_put (i := 5) (fs' := [.ref a1, .ref a2, .ref a3, .ref a4, .int 0, .int 0, .int 0]) C dX2_init_42 fi_X2_28 rfl rfl (Nat.lt_of_lt_of_le (Nat.lt_succ_self _) (Nat.le_of_ble_eq_true rfl)) rfl ?_
  refine k_aload_n C dX2_init_45 0 rfl ?_
  refine k_iconst (v := 0) C dX2_init_46 (by decide) ?_
  refine k_put (i := 6) (fs' := [.ref a1, .ref a2, .ref a3, .ref a4, .int 0, .int 0, .int 0]) C dX2_init_47 fi_X2_31 rfl rfl (Nat.lt_of_lt_of_le (Nat.lt_succ_self _) (Nat.le_of_ble_eq_true rfl)) rfl ?_
  refine k_as (ws' := wX2 G (fun i => ([h0, a1, a2, a3, a4] : List Nat).getD i 0) 0) rfl ?_
  exact hend (fun i => ([h0, a1, a2, a3, a4] : List Nat).getD i 0) _ _ dX2_init_50 rfl
def wX3 (G : mG) (a : Nat → Nat) (o : Nat) : va_W := (a o, .inr (3, [.ref (a (o + 1)), .ref (a (o + 2)), .ref (a (o + 3)), .ref (a (o + 4)), .ref (a (o + 5)), .ref (a (o + 6)), .ref (a (o + 7)), .ref (a (o + 8)), .int 1])) :: (((((((([] ++ [(a (o + 1), kI G 16 (upd (fun _ => 0) 0 (-1)))]) ++ [(a (o + 2), kI G 16 (fun _ => 0))]) ++ [(a (o + 3), kI G 16 (fun _ => 0))]) ++ [(a (o + 4), kI G 16 (fun _ => 0))]) ++ [(a (o + 5), kI G 16 (fun _ => 0))]) ++ [(a (o + 6), kI G 16 (fun _ => 0))]) ++ [(a (o + 7), kI G 16 (fun _ => 0))]) ++ [(a (o + 8), kI G 16 (fun _ => 0))])
set_option maxRecDepth 20000 in
set_option maxHeartbeats 1000000 in
theorem c_X3_init (l : Launch) (G : mG) : mcK l G yX3_init cX3_init 1 0 8 128 3 [.null, .null, .null, .null, .null, .null, .null, .null, .int 0] (fun h0 (u : Nat → Nat) => u 0 = h0) (fun u => wX3 G u 0) := by
  refine mcK_of (by decide) rfl (by decide) ?_
  intro h0 p e s m args below meth c Q A hA hlt C hin hend
  refine k_as (ws' := (h0, .inr (3, [.null, .null, .null, .null, .null, .null, .null, .null, .int 0])) :: []) rfl ?_
  refine k_aload_n C dX3_init_0 0 rfl ?_
  refine k_objInit C dX3_init_1 (gd_t 37 (by decide +kernel) rfl) (by decide) (by decide) ?_
  refine k_aload_n C dX3_init_4 0 rfl ?_
  refine k_bipush (v := 16) C dX3_init_5 (by decide) ?_
  refine k_newi (N := 16) C dX3_init_7 (by decide) (by decide) (by decide) (Nat.le_of_ble_eq_true rfl) (Nat.le_of_ble_eq_true rfl) (fun a1 => ?_)
  refine k_putF (i := 0) (fs' := [.ref a1, .null, .null, .null, .null, .null, .null, .null, .int 0]) C hin dX3_init_9 ff_X3_9 rfl rfl (Nat.lt_of_lt_of_le (Nat.lt_succ_self _) (Nat.le_of_ble_eq_true rfl)) rfl ?_
  refine k_aload_n C dX3_init_12 0 rfl ?_
  refine k_bipush (v := 16) C dX3_init_13 (by decide) ?_
  refine k_newi (N := 16) C dX3_init_15 (by decide) (by decide) (by decide) (Nat.le_of_ble_eq_true rfl) (Nat.le_of_ble_eq_true rfl) (fun a2 => ?_)
  refine k_putF (i := 1) (fs' := [.ref a1, .ref a2, .null, .null, .null, .null, .null, .null, .int 0]) C hin dX3_init_17 ff_X3_15 rfl rfl (Nat.lt_of_lt_of_le (Nat.lt_succ_self _) (Nat.le_of_ble_eq_true rfl)) rfl ?_
  refine k_aload_n C dX3_init_20 0 rfl ?_
  refine k_bipush (v := 16) C dX3_init_21 (by decide) ?_
  refine k_newi (N := 16) C dX3_init_23 (by decide) (by decide) (by decide) (Nat.le_of_ble_eq_true rfl) (Nat.le_of_ble_eq_true rfl) (fun a3 => ?_)
  refine k_putF (i := 2) (fs' := [.ref a1, .ref a2, .ref a3, .null, .null, .null, .null, .null, .int 0]) C hin dX3_init_25 ff_X3_18 rfl rfl (Nat.lt_of_lt_of_le (Nat.lt_succ_self _) (Nat.le_of_ble_eq_true rfl)) rfl ?_
  refine k_aload_n C dX3_init_28 0 rfl ?_
  refine k_bipush (v := 16) C dX3_init_29 (by decide) ?_
  refine k_newi (N := 16) C dX3_init_31 (by decide) (by decide) (by decide) (Nat.le_of_ble_eq_true rfl) (Nat.le_of_ble_eq_true rfl) (fun a4 => ?_)
  refine k_putF (i := 3) (fs' := [.ref a1, .ref a2, .ref a3, .ref a4, .null, .null, .null, .null, .int 0]) C hin dX3_init_33 ff_X3_21 rfl rfl (Nat.lt_of_lt_of_le (Nat.lt_succ_self _) (Nat.le_of_ble_eq_true rfl)) rfl ?_
  refine k_aload_n C dX3_init_36 0 rfl ?_
  refine k_bipush (v := 16) C dX3_init_37 (by decide) ?_
  refine k_newi (N := 16) C dX3_init_39 (by decide) (by decide) (by decide) (Nat.le_of_ble_eq_true rfl) (Nat.le_of_ble_eq_true rfl) (fun a5 => ?_)
  refine k_putF (i := 4) (fs' := [.ref a1, .ref a2, .ref a3, .ref a4, .ref a5, .null, .null, .null, .int 0]) C hin dX3_init_41 ff_X3_24 rfl rfl (Nat.lt_of_lt_of_le (Nat.lt_succ_self _) (Nat.le_of_ble_eq_true rfl)) rfl ?_
  refine k_aload_n C dX3_init_44 0 rfl ?_
  refine k_bipush (v := 16) C dX3_init_45 (by decide) ?_
  refine k_newi (N := 16) C dX3_init_47 (by decide) (by decide) (by decide) (Nat.le_of_ble_eq_true rfl) (Nat.le_of_ble_eq_true rfl) (fun a6 => ?_)
  refine k_putF (i := 5) (fs' := [.ref a1, .ref a2, .ref a3, .ref a4, .ref a5, .ref a6, .null, .null, .int 0]) C hin dX3_init_49 ff_X3_27 rfl rfl (Nat.lt_of_lt_of_le (Nat.lt_succ_self _) (Nat.le_of_ble_eq_true rfl)) rfl ?_
  refine k_aload_n C dX3_init_52 0 rfl ?_
  refine k_bipush (v := 16) C dX3_init_53 (by decide) ?_
  refine k_newi (N := 16) C dX3_init_55 (by decide) (by decide) (by decide) (Nat.le_of_ble_eq_true rfl) (Nat.le_of_ble_eq_true rfl) (fun a7 => ?_)
  refine k_putF (i := 6) (fs' := [.ref a1, .ref a2, .ref a3, .ref a4, .ref a5, .ref a6, .ref a7, .null, .int 0]) C hin dX3_init_57 ff_X3_30 rfl rfl (Nat.lt_of_lt_of_le (Nat.lt_succ_self _) (Nat.le_of_ble_eq_true rfl)) rfl ?_
  refine k_aload_n C dX3_init_60 0 rfl ?_
  refine k_bipush (v := 16) C dX3_init_61 (by decide) ?_
  refine k_newi (N := 16) C dX3_init_63 (by decide) (by decide) (by decide) (Nat.le_of_ble_eq_true rfl) (Nat.le_of_ble_eq_true rfl) (fun a8 => ?_)
  refine k_putF (i := 7) (fs' := [.ref a1, .ref a2, .ref a3, .ref a4, .ref a5, .ref a6, .ref a7, .ref a8, .int 0]) C hin dX3_init_65 ff_X3_33 rfl rfl (Nat.lt_of_lt_of_le (Nat.lt_succ_self _) (Nat.le_of_ble_eq_true rfl)) rfl ?_
  refine k_aload_n C dX3_init_68 0 rfl ?_
  refine k_iconst (v := 1) C dX3_init_69 (by decide) ?_
  refine k_put (i := 8) (fs' := [.ref a1, .ref a2, .ref a3, .ref a4, .ref a5, .ref a6, .ref a7, .ref a8, .int 1]) C dX3_init_70 fi_X3_36 rfl rfl (Nat.lt_of_lt_of_le (Nat.lt_succ_self _) (Nat.le_of_ble_eq_true rfl)) rfl ?_
  refine k_aload_n C dX3_init_73 0 rfl ?_
  refine k_get (i := 0) (v := .ref a1) C dX3_init_74 f_X3_9 rfl ?_
  refine k_iconst (v := 0) C dX3_init_77 (by decide) ?_
  refine k_iconst (v := (-1)) C dX3_init_78 (by decide) ?_
  refine k_iastN (q0 := 1) (j := 0) (n := 16) (f := (fun _ => 0)) (ws' := (h0, .inr (3, [.ref a1, .ref a2, .ref a3, .ref a4, .ref a5, .ref a6, .ref a7, .ref a8, .int 1])) :: (((((((([] ++ [(a1, kI G 16 (upd (fun _ => 0) 0 (-1)))]) ++ [(a2, kI G 16 (fun _ => 0))]) ++ [(a3, kI G 16 (fun _ => 0))]) ++ [(a4, kI G 16 (fun _ => 0))]) ++ [(a5, kI G 16 (fun _ => 0))]) ++ [(a6, kI G 16 (fun _ => 0))]) ++ [(a7, kI G 16 (fun _ => 0))]) ++ [(a8, kI G 16 (fun _ => 0))])) C dX3_init_79 rfl (by decide) (by decide) (by decide) rfl ?_
  refine k_as (ws' := wX3 G (fun i => ([h0, a1, a2, a3, a4, a5, a6, a7, a8] : List Nat).getD i 0) 0) rfl ?_
  exact hend (fun i => ([h0, a1, a2, a3, a4, a5, a6, a7, a8] : List Nat).getD i 0) _ _ dX3_init_80 rfl
def wX4 (G : mG) (a : Nat → Nat) (o : Nat) : va_W := (a o, .inr (4, [.ref (a (o + 1)), .int 0, .int 0, .int (-1)])) :: ([] ++ [(a (o + 1), kI G 180 (fun _ => 0))])
set_option maxRecDepth 20000 in
set_option maxHeartbeats 1000000 in
theorem c_X4_init (l : Launch) (G : mG) : mcK l G yX4_init cX4_init 1 0 1 180 4 [.null, .int 0, .int 0, .int 0] (fun h0 (u : Nat → Nat) => u 0 = h0) (fun u => wX4 G u 0) := by
  refine mcK_of (by decide) rfl (by decide) ?_
  intro h0 p e s m args below meth c Q A hA hlt C hin hend
  refine k_as (ws' := (h0, .inr (4, [.null, .int 0, .int 0, .int 0])) :: []) rfl ?_
  refine k_aload_n C dX4_init_0 0 rfl ?_
  refine k_objInit C dX4_init_1 (gd_t 178 (by decide +kernel) rfl) (by decide) (by decide) ?_
  refine k_aload_n C dX4_init_4 0 rfl ?_
  refine k_sipush (v := 180) C dX4_init_5 (by decide) ?_
  refine k_newi (N := 180) C dX4_init_8 (by decide) (by decide) (by decide) (Nat.le_of_ble_eq_true rfl) (Nat.le_of_ble_eq_true rfl) (fun a1 => ?_)
  refine k_putF (i := 0) (fs' := [.ref a1, .int 0, .int 0, .int 0]) C hin dX4_init_10 ff_X4_9 rfl rfl (Nat.lt_of_lt_of_le (Nat.lt_succ_self _) (Nat.le_of_ble_eq_true rfl)) rfl ?_
  refine k_aload_n C dX4_init_13 0 rfl ?_
  refine k_iconst (v := 0) C dX4_init_14 (by decide) ?_
  refine k_put (i := 1) (fs' := [.ref a1, .int 0, .int 0, .int 0]) C dX4_init_15 fi_X4_15 rfl rfl (Nat.lt_of_lt_of_le (Nat.lt_succ_self _) (Nat.le_of_ble_eq_true rfl)) rfl ?_
  refine k_aload_n C dX4_init_18 0 rfl ?_
  refine k_iconst (v := 0) C dX4_init_19 (by decide) ?_
  refine k_put (i := 2) (fs' := [.ref a1, .int 0, .int 0, .int 0]) C dX4_init_20 fi_X4_19 rfl rfl (Nat.lt_of_lt_of_le (Nat.lt_succ_self _) (Nat.le_of_ble_eq_true rfl)) rfl ?_
  refine k_aload_n C dX4_init_23 0 rfl ?_
  refine k_iconst (v := (-1)) C dX4_init_24 (by decide) ?_
  refine k_put (i := 3) (fs' := [.ref a1, .int 0, .int 0, .int (-1)]) C dX4_init_25 fi_X4_22 rfl rfl (Nat.lt_of_lt_of_le (Nat.lt_succ_self _) (Nat.le_of_ble_eq_true rfl)) rfl ?_
  refine k_as (ws' := wX4 G (fun i => ([h0, a1] : List Nat).getD i 0) 0) rfl ?_
  exact hend (fun i => ([h0, a1] : List Nat).getD i 0) _ _ dX4_init_28 rfl
def wX5 (G : mG) (a : Nat → Nat) (o : Nat) : va_W := (a o, .inr (5, [.ref (a (o + 1)), .ref (a (o + 2)), .ref (a (o + 3)), .ref (a (o + 4)), .ref (a (o + 5)), .int 1])) :: ((((([] ++ [(a (o + 1), kI G 16 (fun _ => 0))]) ++ [(a (o + 2), kI G 16 (fun _ => 0))]) ++ [(a (o + 3), kI G 16 (fun _ => 0))]) ++ [(a (o + 4), kI G 16 (fun _ => 0))]) ++ [(a (o + 5), kI G 16 (fun _ => 0))])
set_option maxRecDepth 20000 in
set_option maxHeartbeats 1000000 in
theorem c_X5_init (l : Launch) (G : mG) : mcK l G yX5_init cX5_init 1 0 5 80 5 [.null, .null, .null, .null, .null, .int 0] (fun h0 (u : Nat → Nat) => u 0 = h0) (fun u => wX5 G u 0) := by
  refine mcK_of (by decide) rfl (by decide) ?_
  intro h0 p e s m args below meth c Q A hA hlt C hin hend
  refine k_as (ws' := (h0, .inr (5, [.null, .null, .null, .null, .null, .int 0])) :: []) rfl ?_
  refine k_aload_n C dX5_init_0 0 rfl ?_
  refine k_objInit C dX5_init_1 (gd_t 232 (by decide +kernel) rfl) (by decide) (by decide) ?_
  refine k_aload_n C dX5_init_4 0 rfl ?_
  refine k_bipush (v := 16) C dX5_init_5 (by decide) ?_
  refine k_newi (N := 16) C dX5_init_7 (by decide) (by decide) (by decide) (Nat.le_of_ble_eq_true rfl) (Nat.le_of_ble_eq_true rfl) (fun a1 => ?_)
  refine k_putF (i := 0) (fs' := [.ref a1, .null, .null, .null, .null, .int 0]) C hin dX5_init_9 ff_X5_9 rfl rfl (Nat.lt_of_lt_of_le (Nat.lt_succ_self _) (Nat.le_of_ble_eq_true rfl)) rfl ?_
  refine k_aload_n C dX5_init_12 0 rfl ?_
  refine k_bipush (v := 16) C dX5_init_13 (by decide) ?_
  refine k_newi (N := 16) C dX5_init_15 (by decide) (by decide) (by decide) (Nat.le_of_ble_eq_true rfl) (Nat.le_of_ble_eq_true rfl) (fun a2 => ?_)
  refine k_putF (i := 1) (fs' := [.ref a1, .ref a2, .null, .null, .null, .int 0]) C hin dX5_init_17 ff_X5_15 rfl rfl (Nat.lt_of_lt_of_le (Nat.lt_succ_self _) (Nat.le_of_ble_eq_true rfl)) rfl ?_
  refine k_aload_n C dX5_init_20 0 rfl ?_
  refine k_bipush (v := 16) C dX5_init_21 (by decide) ?_
  refine k_newi (N := 16) C dX5_init_23 (by decide) (by decide) (by decide) (Nat.le_of_ble_eq_true rfl) (Nat.le_of_ble_eq_true rfl) (fun a3 => ?_)
  refine k_putF (i := 2) (fs' := [.ref a1, .ref a2, .ref a3, .null, .null, .int 0]) C hin dX5_init_25 ff_X5_18 rfl rfl (Nat.lt_of_lt_of_le (Nat.lt_succ_self _) (Nat.le_of_ble_eq_true rfl)) rfl ?_
  refine k_aload_n C dX5_init_28 0 rfl ?_
  refine k_bipush (v := 16) C dX5_init_29 (by decide) ?_
  refine k_newi (N := 16) C dX5_init_31 (by decide) (by decide) (by decide) (Nat.le_of_ble_eq_true rfl) (Nat.le_of_ble_eq_true rfl) (fun a4 => ?_)
  refine k_putF (i := 3) (fs' := [.ref a1, .ref a2, .ref a3, .ref a4, .null, .int 0]) C hin dX5_init_33 ff_X5_21 rfl rfl (Nat.lt_of_lt_of_le (Nat.lt_succ_self _) (Nat.le_of_ble_eq_true rfl)) rfl ?_
  refine k_aload_n C dX5_init_36 0 rfl ?_
  refine k_bipush (v := 16) C dX5_init_37 (by decide) ?_
  refine k_newi (N := 16) C dX5_init_39 (by decide) (by decide) (by decide) (Nat.le_of_ble_eq_true rfl) (Nat.le_of_ble_eq_true rfl) (fun a5 => ?_)
  refine k_putF (i := 4) (fs' := [.ref a1, .ref a2, .ref a3, .ref a4, .ref a5, .int 0]) C hin dX5_init_41 ff_X5_24 rfl rfl (Nat.lt_of_lt_of_le (Nat.lt_succ_self _) (Nat.le_of_ble_eq_true rfl)) rfl ?_
  refine k_aload_n C dX5_init_44 0 rfl ?_
  refine k_iconst (v := 1) C dX5_init_45 (by decide) ?_
  refine k_put (i := 5) (fs' := [.ref a1, .ref a2, .ref a3, .ref a4, .ref a5, .int 1]) C dX5_init_46 fi_X5_27 rfl rfl (Nat.lt_of_lt_of_le (Nat.lt_succ_self _) (Nat.le_of_ble_eq_true rfl)) rfl ?_
  refine k_as (ws' := wX5 G (fun i => ([h0, a1, a2, a3, a4, a5] : List Nat).getD i 0) 0) rfl ?_
  exact hend (fun i => ([h0, a1, a2, a3, a4, a5] : List Nat).getD i 0) _ _ dX5_init_49 rfl
def wX6 (G : mG) (a : Nat → Nat) (o : Nat) : va_W := (a o, .inr (6, [.ref (a (o + 1)), .ref (a (o + 10)), .int 800, .int 80, .int 50, .int 400, .int 10, .int 0, .int 0])) :: (([] ++ wX3 G a (o + 1)) ++ wX0 G a (o + 10))
set_option maxRecDepth 20000 in
set_option maxHeartbeats 1000000 in
theorem c_X6_init (l : Launch) (G : mG) : mcK l G yX6_init cX6_init 1 1 13 153 6 [.null, .null, .int 0, .int 0, .int 0, .int 0, .int 0, .int 0, .int 0] (fun h0 (u : Nat → Nat) => u 0 = h0) (fun u => wX6 G u 0) := by
  refine mcK_of (by decide) rfl (by decide) ?_
  intro h0 p e s m args below meth c Q A hA hlt C hin hend
  refine k_as (ws' := (h0, .inr (6, [.null, .null, .int 0, .int 0, .int 0, .int 0, .int 0, .int 0, .int 0])) :: []) rfl ?_
  refine k_aload_n C dX6_init_0 0 rfl ?_
  refine k_objInit C dX6_init_1 (gd_t 31 (by decide +kernel) rfl) (by decide) (by decide) ?_
  refine k_aload_n C dX6_init_4 0 rfl ?_
  refine k_new (N := 9) C dX6_init_5 nw_X6_7 rfl (Nat.le_of_ble_eq_true rfl) (Nat.le_of_ble_eq_true rfl) (fun q1 => ?_)
  refine k_dup C dX6_init_8 rfl ?_
  refine k_call (S := Nat → Nat) (mc := 8) (ms := 128) (d := 0) C dX6_init_9 sc_X6_9 (c_X3_init l G) (Nat.le_of_ble_eq_true rfl) (Nat.le_of_ble_eq_true rfl) (Nat.le_of_ble_eq_true rfl) (Nat.le_of_ble_eq_true rfl) (Nat.le_of_ble_eq_true rfl) (fun u1 hu1 => ?_)
  subst hu1
  refine k_putF (i := 0) (fs' := [.ref (u1 0), .null, .int 0, .int 0, .int 0, .int 0, .int 0, .int 0, .int 0]) C hin dX6_init_12 ff_X6_10 rfl rfl (Nat.lt_of_lt_of_le (Nat.lt_succ_self _) (Nat.le_of_ble_eq_true rfl)) rfl ?_
  refine k_aload_n C dX6_init_15 0 rfl ?_
  refine k_new (N := 4) C dX6_init_16 nw_X6_16 rfl (Nat.le_of_ble_eq_true rfl) (Nat.le_of_ble_eq_true rfl) (fun q2 => ?_)
  refine k_dup C dX6_init_19 rfl ?_
  refine k_callN (S := Nat → Nat) (mc := 3) (ms := 12) (d := 0) C dX6_init_20 scn_X6_18 (c_X0_init l G) (Nat.le_of_ble_eq_true rfl) (Nat.le_of_ble_eq_true rfl) (Nat.le_of_ble_eq_true rfl) (Nat.le_of_ble_eq_true rfl) (Nat.le_of_ble_eq_true rfl) (fun u2 hu2 => ?_)
  subst hu2
  refine k_putF (i := 1) (fs' := [.ref (u1 0), .ref (u2 0), .int 0, .int 0, .int 0, .int 0, .int 0, .int 0, .int 0]) C hin dX6_init_23 ff_X6_19 rfl rfl (Nat.lt_of_lt_of_le (Nat.lt_succ_self _) (Nat.le_of_ble_eq_true rfl)) rfl ?_
  refine k_aload_n C dX6_init_26 0 rfl ?_
  refine k_sipush (v := 800) C dX6_init_27 (by decide) ?_
  refine k_put (i := 2) (fs' := [.ref (u1 0), .ref (u2 0), .int 800, .int 0, .int 0, .int 0, .int 0, .int 0, .int 0]) C dX6_init_30 fi_X6_23 rfl rfl (Nat.lt_of_lt_of_le (Nat.lt_succ_self _) (Nat.le_of_ble_eq_true rfl)) rfl ?_
  refine k_aload_n C dX6_init_33 0 rfl ?_
  refine k_bipush (v := 80) C dX6_init_34 (by decide) ?_
  refine k_put (i := 3) (fs' := [.ref (u1 0), .ref (u2 0), .int 800, .int 80, .int 0, .int 0, .int 0, .int 0, .int 0]) C dX6_init_36 fi_X6_27 rfl rfl (Nat.lt_of_lt_of_le (Nat.lt_succ_self _) (Nat.le_of_ble_eq_true rfl)) rfl ?_
  refine k_aload_n C dX6_init_39 0 rfl ?_
  refine k_bipush (v := 50) C dX6_init_40 (by decide) ?_
  refine k_put (i := 4) (fs' := [.ref (u1 0), .ref (u2 0), .int 800, .int 80, .int 50, .int 0, .int 0, .int 0, .int 0]) C dX6_init_42 fi_X6_30 rfl rfl (Nat.lt_of_lt_of_le (Nat.lt_succ_self _) (Nat.le_of_ble_eq_true rfl)) rfl ?_
  refine k_aload_n C dX6_init_45 0 rfl ?_
  refine k_sipush (v := 400) C dX6_init_46 (by decide) ?_
  refine k_put (i := 5) (fs' := [.ref (u1 0), .ref (u2 0), .int 800, .int 80, .int 50, .int 400, .int 0, .int 0, .int 0]) C dX6_init_49 fi_X6_33 rfl rfl (Nat.lt_of_lt_of_le (Nat.lt_succ_self _) (Nat.le_of_ble_eq_true rfl)) rfl ?_
  refine k_aload_n C dX6_init_52 0 rfl ?_
  refine k_bipush (v := 10) C dX6_init_53 (by decide) ?_
  refine k_put (i := 6) (fs' := [.ref (u1 0), .ref (u2 0), .int 800, .int 80, .int 50, .int 400, .int 10, .int 0, .int 0]) C dX6_init_55 fi_X6_36 rfl rfl (Nat.lt_of_lt_of_le (Nat.lt_succ_self _) (Nat.le_of_ble_eq_true rfl)) rfl ?_
  refine k_aload_n C dX6_init_58 0 rfl ?_
  refine k_iconst (v := 0) C dX6_init_59 (by decide) ?_
  refine k_put (i := 7) (fs' := [.ref (u1 0), .ref (u2 0), .int 800, .int 80, .int 50, .int 400, .int 10, .int 0, .int 0]) C dX6_init_60 fi_X6_39 rfl rfl (Nat.lt_of_lt_of_le (Nat.lt_succ_self _) (Nat.le_of_ble_eq_true rfl)) rfl ?_
  refine k_aload_n C dX6_init_63 0 rfl ?_
  refine k_iconst (v := 0) C dX6_init_64 (by decide) ?_
  refine k_put (i := 8) (fs' := [.ref (u1 0), .ref (u2 0), .int 800, .int 80, .int 50, .int 400, .int 10, .int 0, .int 0]) C dX6_init_65 fi_X6_42 rfl rfl (Nat.lt_of_lt_of_le (Nat.lt_succ_self _) (Nat.le_of_ble_eq_true rfl)) rfl ?_
  refine k_as (ws' := wX6 G (fun i => ([h0, u1 0, u1 1, u1 2, u1 3, u1 4, u1 5, u1 6, u1 7, u1 8, u2 0, u2 1, u2 2, u2 3] : List Nat).getD i 0) 0) rfl ?_
  exact hend (fun i => ([h0, u1 0, u1 1, u1 2, u1 3, u1 4, u1 5, u1 6, u1 7, u1 8, u2 0, u2 1, u2 2, u2 3] : List Nat).getD i 0) _ _ dX6_init_68 rfl
def wX1 (G : mG) (a : Nat → Nat) (o : Nat) : va_W := (a o, .inr (1, [.ref (a (o + 1)), .int 0, .int 0])) :: ((((([] ++ [(a (o + 1), .inl (G.2.1.2.1, 4, .inr (.inr (.inr (.inr (fun i => (([o + 2, o + 16, o + 30, o + 44] : List Nat)[i]?).map a))))))]) ++ wX6 G a (o + 2)) ++ wX6 G a (o + 16)) ++ wX6 G a (o + 30)) ++ wX6 G a (o + 44))
set_option maxRecDepth 20000 in
set_option maxHeartbeats 1000000 in
theorem c_X1_init (l : Launch) (G : mG) : mcK l G yX1_init cX1_init 2 2 57 652 1 [.null, .int 0, .int 0] (fun h0 (u : Nat → Nat) => u 0 = h0) (fun u => wX1 G u 0) := by
  refine mcK_of (by decide) rfl (by decide) ?_
  intro h0 p e s m args below meth c Q A hA hlt C hin hend
  refine k_as (ws' := (h0, .inr (1, [.null, .int 0, .int 0])) :: []) rfl ?_
  refine k_aload_n C dX1_init_0 0 rfl ?_
  refine k_objInit C dX1_init_1 (gd_t 159 (by decide +kernel) rfl) (by decide) (by decide) ?_
  refine k_aload_n C dX1_init_4 0 rfl ?_
  refine k_iconst (v := 4) C dX1_init_5 (by decide) ?_
  refine k_newr (N := 4) C dX1_init_6 (gd_t 160 (by decide +kernel) rfl) (by decide) (by decide) (by decide) (Nat.le_of_ble_eq_true rfl) (Nat.le_of_ble_eq_true rfl) (fun a1 => ?_)
  refine k_putF (i := 0) (fs' := [.ref a1, .int 0, .int 0]) C hin dX1_init_9 ff_X1_11 rfl rfl (Nat.lt_of_lt_of_le (Nat.lt_succ_self _) (Nat.le_of_ble_eq_true rfl)) rfl ?_
  refine k_aload_n C dX1_init_12 0 rfl ?_
  refine k_iconst (v := 0) C dX1_init_13 (by decide) ?_
  refine k_put (i := 1) (fs' := [.ref a1, .int 0, .int 0]) C dX1_init_14 fi_X1_17 rfl rfl (Nat.lt_of_lt_of_le (Nat.lt_succ_self _) (Nat.le_of_ble_eq_true rfl)) rfl ?_
  refine k_aload_n C dX1_init_17 0 rfl ?_
  refine k_iconst (v := 0) C dX1_init_18 (by decide) ?_
  refine k_put (i := 2) (fs' := [.ref a1, .int 0, .int 0]) C dX1_init_19 fi_X1_21 rfl rfl (Nat.lt_of_lt_of_le (Nat.lt_succ_self _) (Nat.le_of_ble_eq_true rfl)) rfl ?_
  refine k_iconst (v := 0) C dX1_init_22 (by decide) ?_
  refine k_istore_n C dX1_init_23 (by decide) rfl ?_
  refine k_iload_n C dX1_init_24 0 rfl ?_
  refine k_iconst (v := 4) C dX1_init_25 (by decide) ?_
  refine k_icmp_ge (tgt := 48) C dX1_init_26 (by decide) (fun h => absurd h (by decide)) (fun _ => ?_)
  refine k_aload_n C dX1_init_29 1 rfl ?_
  refine k_get (i := 0) (v := .ref a1) C dX1_init_30 f_X1_11 rfl ?_
  refine k_iload_n C dX1_init_33 0 rfl ?_
  refine k_new (N := 9) C dX1_init_34 nw_X1_9 rfl (Nat.le_of_ble_eq_true rfl) (Nat.le_of_ble_eq_true rfl) (fun q2 => ?_)
  refine k_dup C dX1_init_37 rfl ?_
  refine k_callN (S := Nat → Nat) (mc := 13) (ms := 153) (d := 1) C dX1_init_38 scn_X1_24 (c_X6_init l G) (Nat.le_of_ble_eq_true rfl) (Nat.le_of_ble_eq_true rfl) (Nat.le_of_ble_eq_true rfl) (Nat.le_of_ble_eq_true rfl) (Nat.le_of_ble_eq_true rfl) (fun u1 hu1 => ?_)
  subst hu1
  refine k_aastN (q0 := 1) (qk := 2) (j := 0) (n := 4) (f := (fun _ => none)) (ws' := (h0, .inr (1, [.ref a1, .int 0, .int 0])) :: (([] ++ [(a1, .inl (G.2.1.2.1, 4, .inr (.inr (.inr (.inr (va_up (fun _ => none) 0 (some (u1 0))))))))]) ++ wX6 G u1 0)) C dX1_init_41 rfl rfl (by decide) (by decide) (by decide) rfl ?_
  refine k_iinc (v := 1) C dX1_init_42 0 rfl (by decide) (by decide) rfl ?_
  refine k_goto (tgt := 24) C dX1_init_45 (by decide) ?_
  refine k_iload_n C dX1_init_24 0 rfl ?_
  refine k_iconst (v := 4) C dX1_init_25 (by decide) ?_
  refine k_icmp_ge (tgt := 48) C dX1_init_26 (by decide) (fun h => absurd h (by decide)) (fun _ => ?_)
  refine k_aload_n C dX1_init_29 1 rfl ?_
  refine k_get (i := 0) (v := .ref a1) C dX1_init_30 f_X1_11 rfl ?_
  refine k_iload_n C dX1_init_33 0 rfl ?_
  refine k_new (N := 9) C dX1_init_34 nw_X1_9 rfl (Nat.le_of_ble_eq_true rfl) (Nat.le_of_ble_eq_true rfl) (fun q3 => ?_)
  refine k_dup C dX1_init_37 rfl ?_
  refine k_callN (S := Nat → Nat) (mc := 13) (ms := 153) (d := 1) C dX1_init_38 scn_X1_24 (c_X6_init l G) (Nat.le_of_ble_eq_true rfl) (Nat.le_of_ble_eq_true rfl) (Nat.le_of_ble_eq_true rfl) (Nat.le_of_ble_eq_true rfl) (Nat.le_of_ble_eq_true rfl) (fun u2 hu2 => ?_)
  subst hu2
  refine k_aastN (q0 := 1) (qk := 16) (j := 1) (n := 4) (f := (va_up (fun _ => none) 0 (some (u1 0)))) (ws' := (h0, .inr (1, [.ref a1, .int 0, .int 0])) :: ((([] ++ [(a1, .inl (G.2.1.2.1, 4, .inr (.inr (.inr (.inr (va_up (va_up (fun _ => none) 0 (some (u1 0))) 1 (some (u2 0))))))))]) ++ wX6 G u1 0) ++ wX6 G u2 0)) C dX1_init_41 rfl rfl (by decide) (by decide) (by decide) rfl ?_
  refine k_iinc (v := 2) C dX1_init_42 0 rfl (by decide) (by decide) rfl ?_
  refine k_goto (tgt := 24) C dX1_init_45 (by decide) ?_
  refine k_iload_n C dX1_init_24 0 rfl ?_
  refine k_iconst (v := 4) C dX1_init_25 (by decide) ?_
  refine k_icmp_ge (tgt := 48) C dX1_init_26 (by decide) (fun h => absurd h (by decide)) (fun _ => ?_)
  refine k_aload_n C dX1_init_29 1 rfl ?_
  refine k_get (i := 0) (v := .ref a1) C dX1_init_30 f_X1_11 rfl ?_
  refine k_iload_n C dX1_init_33 0 rfl ?_
  refine k_new (N := 9) C dX1_init_34 nw_X1_9 rfl (Nat.le_of_ble_eq_true rfl) (Nat.le_of_ble_eq_true rfl) (fun q4 => ?_)
  refine k_dup C dX1_init_37 rfl ?_
  refine k_callN (S := Nat → Nat) (mc := 13) (ms := 153) (d := 1) C dX1_init_38 scn_X1_24 (c_X6_init l G) (Nat.le_of_ble_eq_true rfl) (Nat.le_of_ble_eq_true rfl) (Nat.le_of_ble_eq_true rfl) (Nat.le_of_ble_eq_true rfl) (Nat.le_of_ble_eq_true rfl) (fun u3 hu3 => ?_)
  subst hu3
  refine k_aastN (q0 := 1) (qk := 30) (j := 2) (n := 4) (f := (va_up (va_up (fun _ => none) 0 (some (u1 0))) 1 (some (u2 0)))) (ws' := (h0, .inr (1, [.ref a1, .int 0, .int 0])) :: (((([] ++ [(a1, .inl (G.2.1.2.1, 4, .inr (.inr (.inr (.inr (va_up (va_up (va_up (fun _ => none) 0 (some (u1 0))) 1 (some (u2 0))) 2 (some (u3 0))))))))]) ++ wX6 G u1 0) ++ wX6 G u2 0) ++ wX6 G u3 0)) C dX1_init_41 rfl rfl (by decide) (by decide) (by decide) rfl ?_
  refine k_iinc (v := 3) C dX1_init_42 0 rfl (by decide) (by decide) rfl ?_
  refine k_goto (tgt := 24) C dX1_init_45 (by decide) ?_
  refine k_iload_n C dX1_init_24 0 rfl ?_
  refine k_iconst (v := 4) C dX1_init_25 (by decide) ?_
  refine k_icmp_ge (tgt := 48) C dX1_init_26 (by decide) (fun h => absurd h (by decide)) (fun _ => ?_)
  refine k_aload_n C dX1_init_29 1 rfl ?_
  refine k_get (i := 0) (v := .ref a1) C dX1_init_30 f_X1_11 rfl ?_
  refine k_iload_n C dX1_init_33 0 rfl ?_
  refine k_new (N := 9) C dX1_init_34 nw_X1_9 rfl (Nat.le_of_ble_eq_true rfl) (Nat.le_of_ble_eq_true rfl) (fun q5 => ?_)
  refine k_dup C dX1_init_37 rfl ?_
  refine k_callN (S := Nat → Nat) (mc := 13) (ms := 153) (d := 1) C dX1_init_38 scn_X1_24 (c_X6_init l G) (Nat.le_of_ble_eq_true rfl) (Nat.le_of_ble_eq_true rfl) (Nat.le_of_ble_eq_true rfl) (Nat.le_of_ble_eq_true rfl) (Nat.le_of_ble_eq_true rfl) (fun u4 hu4 => ?_)
  subst hu4
  refine k_aastN (q0 := 1) (qk := 44) (j := 3) (n := 4) (f := (va_up (va_up (va_up (fun _ => none) 0 (some (u1 0))) 1 (some (u2 0))) 2 (some (u3 0)))) (ws' := (h0, .inr (1, [.ref a1, .int 0, .int 0])) :: ((((([] ++ [(a1, .inl (G.2.1.2.1, 4, .inr (.inr (.inr (.inr (va_up (va_up (va_up (va_up (fun _ => none) 0 (some (u1 0))) 1 (some (u2 0))) 2 (some (u3 0))) 3 (some (u4 0))))))))]) ++ wX6 G u1 0) ++ wX6 G u2 0) ++ wX6 G u3 0) ++ wX6 G u4 0)) C dX1_init_41 rfl rfl (by decide) (by decide) (by decide) rfl ?_
  refine k_iinc (v := 4) C dX1_init_42 0 rfl (by decide) (by decide) rfl ?_
  refine k_goto (tgt := 24) C dX1_init_45 (by decide) ?_
  refine k_iload_n C dX1_init_24 0 rfl ?_
  refine k_iconst (v := 4) C dX1_init_25 (by decide) ?_
  refine k_icmp_ge (tgt := 48) C dX1_init_26 (by decide) (fun _ => ?_) (fun h => absurd (by decide) h)
  have hf : (va_up (va_up (va_up (va_up (fun _ => none) 0 (some (u1 0))) 1 (some (u2 0))) 2 (some (u3 0))) 3 (some (u4 0))) = (fun i => (([0 + 2, 0 + 16, 0 + 30, 0 + 44] : List Nat)[i]?).map (fun i => ([h0, a1, u1 0, u1 1, u1 2, u1 3, u1 4, u1 5, u1 6, u1 7, u1 8, u1 9, u1 10, u1 11, u1 12, u1 13, u2 0, u2 1, u2 2, u2 3, u2 4, u2 5, u2 6, u2 7, u2 8, u2 9, u2 10, u2 11, u2 12, u2 13, u3 0, u3 1, u3 2, u3 3, u3 4, u3 5, u3 6, u3 7, u3 8, u3 9, u3 10, u3 11, u3 12, u3 13, u4 0, u4 1, u4 2, u4 3, u4 4, u4 5, u4 6, u4 7, u4 8, u4 9, u4 10, u4 11, u4 12, u4 13] : List Nat).getD i 0)) := by
    funext i
    rcases i with _ | _ | _ | _ | i <;> first | rfl | simp [va_up]
  refine k_as (ws' := wX1 G (fun i => ([h0, a1, u1 0, u1 1, u1 2, u1 3, u1 4, u1 5, u1 6, u1 7, u1 8, u1 9, u1 10, u1 11, u1 12, u1 13, u2 0, u2 1, u2 2, u2 3, u2 4, u2 5, u2 6, u2 7, u2 8, u2 9, u2 10, u2 11, u2 12, u2 13, u3 0, u3 1, u3 2, u3 3, u3 4, u3 5, u3 6, u3 7, u3 8, u3 9, u3 10, u3 11, u3 12, u3 13, u4 0, u4 1, u4 2, u4 3, u4 4, u4 5, u4 6, u4 7, u4 8, u4 9, u4 10, u4 11, u4 12, u4 13] : List Nat).getD i 0) 0) (by rw [hf]; rfl) ?_
  exact hend (fun i => ([h0, a1, u1 0, u1 1, u1 2, u1 3, u1 4, u1 5, u1 6, u1 7, u1 8, u1 9, u1 10, u1 11, u1 12, u1 13, u2 0, u2 1, u2 2, u2 3, u2 4, u2 5, u2 6, u2 7, u2 8, u2 9, u2 10, u2 11, u2 12, u2 13, u3 0, u3 1, u3 2, u3 3, u3 4, u3 5, u3 6, u3 7, u3 8, u3 9, u3 10, u3 11, u3 12, u3 13, u4 0, u4 1, u4 2, u4 3, u4 4, u4 5, u4 6, u4 7, u4 8, u4 9, u4 10, u4 11, u4 12, u4 13] : List Nat).getD i 0) _ _ dX1_init_48 rfl
