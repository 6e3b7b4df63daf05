theorem st_w {s : State} {args : Array Value} {w : Cond} (hts : ∀ w ∈ lw_tbl, w.before args s = true) (i : Nat) (h : tables_1[i]? = some w) : w.before args s = true := hts w (List.mem_append_right _ (List.mem_of_getElem? h))
theorem st_str {s : State} {args : Array Value} {own tx : String} {k : Nat} (hcur : ∃ c, s.vm.findClass own = some c) (h : (Cond.stringRef own k tx).before args s = true) : ∃ sa, vk_R own k tx sa s := by
  obtain ⟨c, hc⟩ := hcur
  obtain ⟨-, -, -, sa, -, -, -, -, -, hev⟩ := Cond.stringRef_spec hc h
  exact ⟨sa, vk_R.of h hev⟩
theorem st_arr {s : State} {args : Array Value} {ty : FieldType} (h : (Cond.arrayClass ty).before args s = true) : ∃ c : ClassId, s.vm.findClass ("[" ++ ty.toString) = some c ∧ ArrOfT s c ty := by
  obtain ⟨c, k, comp, h1, h2, h3⟩ := Cond.arrayClass_spec h
  exact ⟨c, h1, fun n z => ⟨fun k h => (by cases h), k, h2, comp, h3⟩⟩
theorem st_K {s : State} {args : Array Value} (hts : ∀ w ∈ lw_tbl, w.before args s = true) : ∃ (D : va_G) (cI cS : ClassId), va_K D vwC [(cI, .int), (cS, .object "HeatBranches$State")] s := by
  have hg : ∀ w ∈ gd, w.before args s = true := fun w hw => hts w (List.mem_filter.mp hw).1
  obtain ⟨c0, i0, hK0⟩ := u_known (C := RX0) (T := TX0) (N := 4) (n := 4) hg cl0.2.1 (hg _ (gd_t 88 (by decide +kernel) rfl))
  obtain ⟨c1, i1, hK1⟩ := u_known (C := RX1) (T := TX1) (N := 3) (n := 3) hg cl1.2.1 (hg _ (gd_t 155 (by decide +kernel) rfl))
  obtain ⟨c2, i2, hK2⟩ := u_known (C := RX2) (T := TX2) (N := 7) (n := 7) hg cl2.2.1 (hg _ (gd_t 193 (by decide +kernel) rfl))
  obtain ⟨c3, i3, hK3⟩ := u_known (C := RX3) (T := TX3) (N := 9) (n := 9) hg cl3.2.1 (hg _ (gd_t 33 (by decide +kernel) rfl))
  obtain ⟨c4, i4, hK4⟩ := u_known (C := RX4) (T := TX4) (N := 4) (n := 4) hg cl4.2.1 (hg _ (gd_t 174 (by decide +kernel) rfl))
  obtain ⟨c5, i5, hK5⟩ := u_known (C := RX5) (T := TX5) (N := 6) (n := 6) hg cl5.2.1 (hg _ (gd_t 228 (by decide +kernel) rfl))
  obtain ⟨c6, i6, hK6⟩ := u_known (C := RX6) (T := TX6) (N := 9) (n := 9) hg cl6.2.1 (hg _ (gd_t 27 (by decide +kernel) rfl))
  obtain ⟨c7, i7, hK7⟩ := u_known (C := RX7) (T := TX7) (N := 9) (n := 9) hg cl7.2.1 (hg _ (gd_t 19 (by decide +kernel) rfl))
  obtain ⟨cI, a1, a2⟩ := st_arr (ty := .int) (st_w hts 86 (by decide +kernel))
  have hao : (Cond.arrayOver (.object "HeatBranches$State")).before args s = true := st_w hts 161 (by decide +kernel)
  obtain ⟨comp, cS, kC, d1, d2, d3, d4, d5⟩ := Cond.arrayOver_spec hao
  refine ⟨(fun k => [c0, c1, c2, c3, c4, c5, c6, c7].getD k 0, fun k => [i0, i1, i2, i3, i4, i5, i6, i7].getD k (fun _ => 0)), cI, cS, fun k q hq => ?_, fun k q hq => ?_⟩
  · match k, hq with
    | 0, hq => cases hq; exact hK0
    | 1, hq => cases hq; exact hK1
    | 2, hq => cases hq; exact hK2
    | 3, hq => cases hq; exact hK3
    | 4, hq => cases hq; exact hK4
    | 5, hq => cases hq; exact hK5
    | 6, hq => cases hq; exact hK6
    | 7, hq => cases hq; exact hK7
    | k + 8, hq => exact absurd hq (by simp [vwC])
  · match k, hq with
    | 0, hq => cases hq; exact ⟨a2, a1⟩
    | 1, hq => cases hq; exact ⟨fun N z => ⟨fun k h => (by cases h), kC, d3, comp, d4⟩, kC, comp, d3, d4, d1, d5⟩
    | k + 2, hq => exact absurd hq (by simp)
set_option maxRecDepth 20000 in
set_option maxHeartbeats 4000000 in
theorem st_S {s : State} {args : Array Value} (hts : ∀ w ∈ lw_tbl, w.before args s = true) (hgv : (Jvm.Cond.and given_1 narrow_1).before args s = true) : ∃ (D : va_G) (cs : ClassId × ClassId × ClassId), ∀ ad : Nat → Nat, xS (D, cs, ad) (fun q => s.heap.size ≤ q) s s.heap := by
  obtain ⟨D, cI, cS, hK⟩ := st_K hts
  have hq := flat_of_before _ hgv
  have hA : ∀ a : Nat, a < s.heap.size → ¬ (fun q => s.heap.size ≤ q) a := fun a h => Nat.not_le.mpr h
  have hcur : ∃ c, s.vm.findClass "HeatBranches" = some c := ⟨_, (hK.1 7 _ rfl).2.1⟩
  refine ⟨D, (cI, cS, cI), fun ad => ⟨⟨hK, ?_, ?_, ?_, ?_, ?_, ?_, ?_⟩, va_AO.of (st_w hts 161 (by decide +kernel))⟩⟩
  · exact List.forall_mem_cons.mpr ⟨va_Nw.of rfl (st_w hts 28 (by decide +kernel)), List.forall_mem_cons.mpr ⟨va_Nw.of rfl (st_w hts 89 (by decide +kernel)), List.forall_mem_cons.mpr ⟨va_Nw.of rfl (st_w hts 162 (by decide +kernel)), List.forall_mem_cons.mpr ⟨va_Nw.of rfl (st_w hts 175 (by decide +kernel)), List.forall_mem_cons.mpr ⟨va_Nw.of rfl (st_w hts 194 (by decide +kernel)), List.forall_mem_cons.mpr ⟨va_Nw.of rfl (st_w hts 229 (by decide +kernel)), List.forall_mem_cons.mpr ⟨va_Nw.of rfl (st_w hts 314 (by decide +kernel)), List.forall_mem_cons.mpr ⟨va_Nw.of rfl (st_w hts 480 (by decide +kernel)), List.forall_mem_cons.mpr ⟨va_Nw.of rfl (st_w hts 485 (by decide +kernel)), fun _ h => absurd h List.not_mem_nil⟩⟩⟩⟩⟩⟩⟩⟩⟩
  · exact vx_Zqof (st_w hts 423 (by decide +kernel)) (st_w hts 11 (by decide +kernel)) (hq _ (by decide +kernel)) hA
  · exact vx_Zqof (st_w hts 425 (by decide +kernel)) (st_w hts 11 (by decide +kernel)) (hq _ (by decide +kernel)) hA
  · exact List.forall_mem_cons.mpr ⟨st_str hcur (st_w hts 437 (by decide +kernel)), List.forall_mem_cons.mpr ⟨st_str hcur (st_w hts 508 (by decide +kernel)), List.forall_mem_cons.mpr ⟨st_str hcur (st_w hts 541 (by decide +kernel)), List.forall_mem_cons.mpr ⟨st_str hcur (st_w hts 566 (by decide +kernel)), List.forall_mem_cons.mpr ⟨st_str hcur (st_w hts 581 (by decide +kernel)), List.forall_mem_cons.mpr ⟨st_str hcur (st_w hts 622 (by decide +kernel)), List.forall_mem_cons.mpr ⟨st_str hcur (st_w hts 623 (by decide +kernel)), fun _ h => absurd h List.not_mem_nil⟩⟩⟩⟩⟩⟩⟩
  · exact List.forall_mem_cons.mpr ⟨va_Nw.of rfl (st_w hts 501 (by decide +kernel)), List.forall_mem_cons.mpr ⟨va_Nw.of rfl (st_w hts 398 (by decide +kernel)), List.forall_mem_cons.mpr ⟨va_Nw.of rfl (st_w hts 534 (by decide +kernel)), fun _ h => absurd h List.not_mem_nil⟩⟩⟩
  · exact List.forall_mem_cons.mpr ⟨va_Nw.of rfl (st_w hts 400 (by decide +kernel)), List.forall_mem_cons.mpr ⟨va_Nw.of rfl (st_w hts 402 (by decide +kernel)), List.forall_mem_cons.mpr ⟨va_Nw.of rfl (st_w hts 404 (by decide +kernel)), fun _ h => absurd h List.not_mem_nil⟩⟩⟩
  · exact List.forall_mem_cons.mpr ⟨va_Nc.of (hq _ (by decide +kernel)), List.forall_mem_cons.mpr ⟨va_Nc.of (hq _ (by decide +kernel)), List.forall_mem_cons.mpr ⟨va_Nc.of (hq _ (by decide +kernel)), List.forall_mem_cons.mpr ⟨va_Nc.of (hq _ (by decide +kernel)), fun _ h => absurd h List.not_mem_nil⟩⟩⟩⟩
def kAd2 (a : Nat → Nat) (q1 q2 q3 q4 : Nat) : Nat → Nat := fun i => if i < 107 then a i else if i = 107 then q1 else if i = 108 then q2 else if i = 109 then q3 else if i = 110 then q4 else 0
def kM2 (M : Mem) : Mem := fun k => if k < 107 then M k else if k < 111 then (fun _ => 0) else M k
set_option maxRecDepth 40000 in
set_option maxHeartbeats 8000000 in
theorem kw_all (G : mG) (a : Nat → Nat) (q1 q2 q3 q4 : Nat) (M : Mem) : (((([] ++ Km_ws (G.1, G.2.1, a) M g0) ++ [(q1, .inl (G.2.1.1, 9, .inl (fun _ => 0)))]) ++ [(q2, .inl (G.2.1.1, 64, .inl (fun _ => 0)))]) ++ [(q3, .inl (G.2.1.1, 12, .inl (fun _ => 0)))]) ++ [(q4, .inl (G.2.1.1, 39, .inl (fun _ => 0)))] = m_ws (G.1, G.2.1, kAd2 a q1 q2 q3 q4) (kM2 M) g0 := by
  have hm : (fun i : Nat => (([17, 31, 45, 59] : List Nat)[i]?).map (kAd2 a q1 q2 q3 q4)) = (fun i : Nat => (([17, 31, 45, 59] : List Nat)[i]?).map a) := by
    funext i
    rcases i with _ | _ | _ | _ | i <;> first | rfl | simp
  have e1 : Km_ws (G.1, G.2.1, a) M g0 = (Km_ws (G.1, G.2.1, a) M g0).set 16 (a 16, .inl (G.2.1.2.1, 4, .inr (.inr (.inr (.inr (fun i : Nat => (([17, 31, 45, 59] : List Nat)[i]?).map a)))))) := rfl
  rw [e1, ← hm]
  rfl
theorem kM2_off {M : Mem} : offR M (kM2 M) 107 110 := by
  intro k hk
  unfold kM2
  by_cases h : k < 107
  · rw [if_pos h]
  · rw [if_neg h, if_neg (by omega)]
theorem kM2_z {M : Mem} {k : Nat} (h1 : 107 ≤ k) (h2 : k < 111) : kM2 M k = fun _ => 0 := by
  unfold kM2
  rw [if_neg (by omega), if_pos h2]
theorem eOK_0 {M : Mem} (h7 : M 107 = fun _ => 0) (h8 : M 108 = fun _ => 0) : eOK (mset (mset (mset (mset (mset (mset M 107 0 800) 107 1 80) 107 2 50) 107 3 400) 107 4 10) 107 5 1) V0 := by
  have e7 : (mset (mset (mset (mset (mset (mset M 107 0 800) 107 1 80) 107 2 50) 107 3 400) 107 4 10) 107 5 1) 107 = upd (upd (upd (upd (upd (upd (fun _ => 0) 0 800) 1 80) 2 50) 3 400) 4 10) 5 1 := by
    rw [mset_at, mset_at, mset_at, mset_at, mset_at, mset_at, h7]
  have e8 : (mset (mset (mset (mset (mset (mset M 107 0 800) 107 1 80) 107 2 50) 107 3 400) 107 4 10) 107 5 1) 108 = fun _ => 0 := by
    rw [mset_ne (by decide), mset_ne (by decide), mset_ne (by decide), mset_ne (by decide), mset_ne (by decide), mset_ne (by decide), h8]
  unfold eOK
  rw [e7, e8]
  refine ⟨by decide, fun w hw => ?_, ⟨by decide, by decide, by decide, by decide⟩, fun n w hn hw hz => ?_, fun j hj => rfl, fun k w hk hw => absurd hk (Nat.not_lt_zero k)⟩
  · have hc : w = 0 ∨ w = 1 ∨ w = 2 ∨ w = 3 ∨ w = 4 := by omega
    rcases hc with rfl | rfl | rfl | rfl | rfl <;> decide
  · have hn2 : n < 1 := hn
    show (0 : Int32) = if w = 0 then -1 else 0
    rw [if_neg (by omega)]
theorem lw_start {p : Program} {e : Env} {s : State} {m : MethodId} {args : Array Value} {below : List Frame} {meth : Method} {c : Code} {l : Launch} {G : mG} {Q : State → Prop} {A : Nat → Prop} {b : Nat} (C : kCx p s m args c code 9 RL G A)
    (k : ∀ (ad : Nat → Nat) (M : Mem) (kk nn : Nat), ad 112 = 0 → cINV M V0 [] 0 (fun _ => 0) → M 107 = (fun _ => 0) → M 108 = (fun _ => 0) → kk ≤ 900 → nn ≤ 9000 → Kt p l e room_1 s m args below meth c G 9 kk nn Q A (m_ws (G.1, G.2.1, ad) M g0) [(5, .ref (ad 110)), (4, .ref (ad 109)), (3, .ref (ad 108)), (2, .ref (ad 107)), (1, .ref (ad 0)), (0, .ref b)] 30 []) : Kt p l e room_1 s m args below meth c G 9 0 0 Q A [] [(0, .ref b)] 0 [] := by
  refine k_new (N := 9) C dL_law_0 nw_L_66 rfl (Nat.le_of_ble_eq_true rfl) (Nat.le_of_ble_eq_true rfl) (fun q0 => ?_)
  refine k_dup C dL_law_3 rfl ?_
  refine k_call (S := (Nat → Nat) × Mem × Glo) (mc := 106) (ms := 1444) (d := 6) C dL_law_4 sc_L_138 (c_X7_init l G) (Nat.le_of_ble_eq_true rfl) (Nat.le_of_ble_eq_true rfl) (Nat.le_of_ble_eq_true rfl) (Nat.le_of_ble_eq_true rfl) (Nat.le_of_ble_eq_true rfl) (fun u hu => ?_)
  obtain ⟨a, M, g⟩ := u
  obtain ⟨h1, h2, h3, h4⟩ := hu
  simp only at h1 h2 h3 h4
  subst h1
  subst h4
  refine k_astore_n (L' := [(1, .ref (a 0)), (0, .ref b)]) C dL_law_7 (by decide) rfl ?_
  refine k_bipush (v := 9) C dL_law_8 (by decide) ?_
  refine k_newj (N := 9) C dL_law_10 (by decide) (by decide) (by decide) (Nat.le_of_ble_eq_true rfl) (Nat.le_of_ble_eq_true rfl) (fun q1 => ?_)
  refine k_astore_n (L' := [(2, .ref q1), (1, .ref (a 0)), (0, .ref b)]) C dL_law_12 (by decide) rfl ?_
  refine k_bipush (v := 64) C dL_law_13 (by decide) ?_
  refine k_newj (N := 64) C dL_law_15 (by decide) (by decide) (by decide) (Nat.le_of_ble_eq_true rfl) (Nat.le_of_ble_eq_true rfl) (fun q2 => ?_)
  refine k_astore_n (L' := [(3, .ref q2), (2, .ref q1), (1, .ref (a 0)), (0, .ref b)]) C dL_law_17 (by decide) rfl ?_
  refine k_bipush (v := 12) C dL_law_18 (by decide) ?_
  refine k_newj (N := 12) C dL_law_20 (by decide) (by decide) (by decide) (Nat.le_of_ble_eq_true rfl) (Nat.le_of_ble_eq_true rfl) (fun q3 => ?_)
  refine k_astore (L' := [(4, .ref q3), (3, .ref q2), (2, .ref q1), (1, .ref (a 0)), (0, .ref b)]) C dL_law_22 (by decide) rfl ?_
  refine k_bipush (v := 39) C dL_law_24 (by decide) ?_
  refine k_newj (N := 39) C dL_law_26 (by decide) (by decide) (by decide) (Nat.le_of_ble_eq_true rfl) (Nat.le_of_ble_eq_true rfl) (fun q4 => ?_)
  refine k_astore (L' := [(5, .ref q4), (4, .ref q3), (3, .ref q2), (2, .ref q1), (1, .ref (a 0)), (0, .ref b)]) C dL_law_28 (by decide) rfl ?_
  refine k_as (kw_all G a q1 q2 q3 q4 M) ?_
  exact k (kAd2 a q1 q2 q3 q4) (kM2 M) _ _ rfl ((cINV_0 h2 h3 _).lw (fun q hq => kM2_off q (by omega))) (kM2_z (by decide) (by decide)) (kM2_z (by decide) (by decide)) (Nat.le_of_ble_eq_true rfl) (Nat.le_of_ble_eq_true rfl)
set_option maxRecDepth 20000 in
set_option maxHeartbeats 4000000 in
theorem lw_from30 {p : Program} {l : Launch} {e : Env} {s : State} {m : MethodId} {args : Array Value} {below : List Frame} {meth : Method} {c : Code} {G : mG} {Q : State → Prop} {b LL : Nat} {xs : Nat → Int32} {g : Glo} (X : lwCtx l p s m args c G b LL xs) (fin : lwEnd p l e s m args below meth c G Q g) {kk nn : Nat} {M : Mem} (hI : cINV M V0 [] 0 (fun _ => 0)) (h7 : M 107 = fun _ => 0) (h8 : M 108 = fun _ => 0) (hk : kk ≤ 900) (hn : nn ≤ 9000) : At p l e room_1 s m args below meth c G 9 kk nn Q M g [(5, .ref (mA G 110)), (4, .ref (mA G 109)), (3, .ref (mA G 108)), (2, .ref (mA G 107)), (1, .ref (mA G 0)), (0, .ref b)] 30 [] := by
  obtain ⟨hfl, hG, h0, C, hX, hbl, hbA, hLL⟩ := id X
  refine r_aload_n C dL_law_30 3 rfl ?_
  refine r_lV0 (As := [.ref (mA G 107)]) (rest := []) C dL_law_31 s_L_139 (c_L_begins l G hG M g) (Nat.le_of_ble_eq_true rfl) (Nat.le_of_ble_eq_true rfl) rfl rfl (Nat.le_of_ble_eq_true rfl) (show kk ≤ 754697 by omega) (show nn ≤ 6837606 by omega) (fun M1 g1 h1 => ?_)
  obtain ⟨eM1, eg1⟩ := h1
  rw [eM1, eg1]
  have hE := eOK_0 h7 h8
  have hI1 := hI.lw (M' := (mset (mset (mset (mset (mset (mset M 107 0 800) 107 1 80) 107 2 50) 107 3 400) 107 4 10) 107 5 1)) (fun q hq => by rw [mset_ne (by omega), mset_ne (by omega), mset_ne (by omega), mset_ne (by omega), mset_ne (by omega), mset_ne (by omega)])
  refine r_aload_n C dL_law_34 4 rfl ?_
  refine r_aload_n C dL_law_35 3 rfl ?_
  refine r_aload_n C dL_law_36 2 rfl ?_
  refine r_aload C dL_law_37 1 rfl ?_
  refine r_aload C dL_law_39 0 rfl ?_
  refine r_lA (As := [.ref (mA G 0), .ref (mA G 107), .ref (mA G 108), .ref (mA G 109), .ref (mA G 110)]) (rest := []) C dL_law_41 s_L_143 (c_L_isSo l G hG h0 _ g hfl V0 [] 0 (fun _ => 0) hI1 hE) (Nat.le_of_ble_eq_true rfl) (Nat.le_of_ble_eq_true rfl) rfl rfl (Nat.le_of_ble_eq_true rfl) (show kk + 5 ≤ 754697 by omega) (show nn + 27 ≤ 6837606 by omega) (fun r2 M2 g2 h2 => ?_)
  obtain ⟨⟨er2, hI2, hE2⟩, eg2⟩ := h2
  rw [er2, eg2]
  refine r_istore (L' := [(6, .int 1), (5, .ref (mA G 110)), (4, .ref (mA G 109)), (3, .ref (mA G 108)), (2, .ref (mA G 107)), (1, .ref (mA G 0)), (0, .ref b)]) C dL_law_44 (by decide) rfl ?_
  refine r_bipush (v := 10) C dL_law_46 rfl ?_
  refine r_aload_n C dL_law_48 6 rfl ?_
  refine r_iconst (v := 0) C dL_law_49 rfl ?_
  refine r_lCe (k := 0) (rest := [.int 10]) C hG hX hbl hbA hLL (by decide) dL_law_50 s_L_147 (Nat.le_of_ble_eq_true rfl) (Nat.le_of_ble_eq_true rfl) rfl (Nat.le_of_ble_eq_true rfl) (show kk + 5 ≤ 754697 by omega) (show nn + 27 ≤ 6837606 by omega) (fun x => ?_)
  refine r_bipush (v := nI 60) C dL_law_53 rfl ?_
  refine r_lI0 (As := [.int x, .int (nI 60)]) (rest := [.int 10]) C dL_law_55 s_L_16 (c_L_low l G hG M2 g x 60 (by decide) (by decide)) (Nat.le_of_ble_eq_true rfl) (Nat.le_of_ble_eq_true rfl) rfl rfl (Nat.le_of_ble_eq_true rfl) (show kk + 5 ≤ 754697 by omega) (show nn + 27 ≤ 6837606 by omega) (fun r3 M3 g3 h3 => ?_)
  obtain ⟨⟨j, hj, er3⟩, eM3, eg3⟩ := h3
  rw [er3, eM3, eg3]
  refine r_iadd C dL_law_58 ?_
  refine r_valI (y := nI (10 + j)) (nI_add 10 j) ?_
  refine r_istore (L' := [(7, .int (nI (10 + j))), (6, .int 1), (5, .ref (mA G 110)), (4, .ref (mA G 109)), (3, .ref (mA G 108)), (2, .ref (mA G 107)), (1, .ref (mA G 0)), (0, .ref b)]) C dL_law_59 (by decide) rfl ?_
  refine r_iconst (v := nI 0) C dL_law_61 rfl ?_
  refine r_istore (L' := [(8, .int (nI 0)), (7, .int (nI (10 + j))), (6, .int 1), (5, .ref (mA G 110)), (4, .ref (mA G 109)), (3, .ref (mA G 108)), (2, .ref (mA G 107)), (1, .ref (mA G 0)), (0, .ref b)]) C dL_law_62 (by decide) rfl ?_
  refine r_sub (L' := [(8, .int (nI 0)), (7, .int (nI (10 + j))), (6, .int 1), (0, .ref b), (1, .ref (mA G 0)), (2, .ref (mA G 107)), (3, .ref (mA G 108)), (4, .ref (mA G 109)), (5, .ref (mA G 110))]) [0, 1, 2, 8, 7, 6, 5, 4, 3] rfl ?_
  exact lw_loop X fin (t := 10 + j) (by omega) (10 + j) 0 _ _ M2 V0 [] (by omega) hI2 hE2 (by omega) (by omega)
