theorem st_w {s : State} {args : Array Value} {w : Cond} (hts : ∀ w ∈ lw_tbl, w.before args s = true) (i : Nat) (h : tables_1[i]? = some w) : w.before args s = true := hts w (List.mem_append_right _ (List.mem_of_getElem? h))
theorem st_str {s : State} {args : Array Value} {own tx : String} {k : Nat} (hcur : ∃ c, s.vm.findClass own = some c) (h : (Cond.stringRef own k tx).before args s = true) : ∃ sa, vk_R own k tx sa s := by
  obtain ⟨c, hc⟩ := hcur
  obtain ⟨-, -, -, sa, -, -, -, -, -, hev⟩ := Cond.stringRef_spec hc h
  exact ⟨sa, vk_R.of h hev⟩
theorem st_arr {s : State} {args : Array Value} {ty : FieldType} (h : (Cond.arrayClass ty).before args s = true) : ∃ c : ClassId, s.vm.findClass ("[" ++ ty.toString) = some c ∧ ArrOfT s c ty := by
  obtain ⟨c, k, comp, h1, h2, h3⟩ := Cond.arrayClass_spec h
  exact ⟨c, h1, fun n z => ⟨fun k h => (by cases h), k, h2, comp, h3⟩⟩
theorem st_K {s : State} {args : Array Value} (hts : ∀ w ∈ lw_tbl, w.before args s = true) : ∃ (D : va_G) (cI cS cL : ClassId), va_K D vwC [(cI, .int), (cS, .object "HeatBranches$State"), (cL, .long)] s := by
  have hg : ∀ w ∈ gd, w.before args s = true := fun w hw => hts w (List.mem_filter.mp hw).1
  obtain ⟨c0, i0, hK0⟩ := u_known (C := RX0) (T := TX0) (N := 4) (n := 4) hg cl0.2.1 (hg _ (gd_t 90 (by decide +kernel) rfl))
  obtain ⟨c1, i1, hK1⟩ := u_known (C := RX1) (T := TX1) (N := 3) (n := 3) hg cl1.2.1 (hg _ (gd_t 157 (by decide +kernel) rfl))
  obtain ⟨c2, i2, hK2⟩ := u_known (C := RX2) (T := TX2) (N := 7) (n := 7) hg cl2.2.1 (hg _ (gd_t 197 (by decide +kernel) rfl))
  obtain ⟨c3, i3, hK3⟩ := u_known (C := RX3) (T := TX3) (N := 9) (n := 9) hg cl3.2.1 (hg _ (gd_t 34 (by decide +kernel) rfl))
  obtain ⟨c4, i4, hK4⟩ := u_known (C := RX4) (T := TX4) (N := 4) (n := 4) hg cl4.2.1 (hg _ (gd_t 177 (by decide +kernel) rfl))
  obtain ⟨c5, i5, hK5⟩ := u_known (C := RX5) (T := TX5) (N := 6) (n := 6) hg cl5.2.1 (hg _ (gd_t 232 (by decide +kernel) rfl))
  obtain ⟨c6, i6, hK6⟩ := u_known (C := RX6) (T := TX6) (N := 9) (n := 9) hg cl6.2.1 (hg _ (gd_t 28 (by decide +kernel) rfl))
  obtain ⟨c7, i7, hK7⟩ := u_known (C := RX7) (T := TX7) (N := 9) (n := 9) hg cl7.2.1 (hg _ (gd_t 20 (by decide +kernel) rfl))
  obtain ⟨c8, i8, hK8⟩ := u_known (C := RX8) (T := TX8) (N := 16) (n := 16) hg cl8.2.1 (hg _ (gd_t 848 (by decide +kernel) rfl))
  obtain ⟨cI, a1, a2⟩ := st_arr (ty := .int) (st_w hts 88 (by decide +kernel))
  obtain ⟨cL, b1, b2⟩ := st_arr (ty := .long) (st_w hts 1205 (by decide +kernel))
  have hao : (Cond.arrayOver (.object "HeatBranches$State")).before args s = true := st_w hts 163 (by decide +kernel)
  obtain ⟨comp, cS, kC, d1, d2, d3, d4, d5⟩ := Cond.arrayOver_spec hao
  refine ⟨(fun k => [c0, c1, c2, c3, c4, c5, c6, c7, c8].getD k 0, fun k => [i0, i1, i2, i3, i4, i5, i6, i7, i8].getD k (fun _ => 0)), cI, cS, cL, fun k q hq => ?_, fun k q hq => ?_⟩
  · match k, hq with
    | 0, hq => cases hq; exact hK0
    | 1, hq => cases hq; exact hK1
    | 2, hq => cases hq; exact hK2
    | 3, hq => cases hq; exact hK3
    | 4, hq => cases hq; exact hK4
    | 5, hq => cases hq; exact hK5
    | 6, hq => cases hq; exact hK6
    | 7, hq => cases hq; exact hK7
    | 8, hq => cases hq; exact hK8
    | k + 9, hq => exact absurd hq (by simp [vwC])
  · match k, hq with
    | 0, hq => cases hq; exact ⟨a2, a1⟩
    | 1, hq => cases hq; exact ⟨fun N z => ⟨fun k h => (by cases h), kC, d3, comp, d4⟩, kC, comp, d3, d4, d1, d5⟩
    | 2, hq => cases hq; exact ⟨b2, b1⟩
    | k + 3, hq => exact absurd hq (by simp)
set_option maxRecDepth 20000 in
set_option maxHeartbeats 4000000 in
theorem st_S {s : State} {args : Array Value} (hts : ∀ w ∈ lw_tbl, w.before args s = true) (hgv : (Jvm.Cond.and given_1 narrow_1).before args s = true) : ∃ (D : va_G) (cs : ClassId × ClassId × ClassId), ∀ ad : Nat → Nat, xS (D, cs, ad) (fun q => s.heap.size ≤ q) s s.heap := by
  obtain ⟨D, cI, cS, cL, hK⟩ := st_K hts
  have hq := flat_of_before _ hgv
  have hA : ∀ a : Nat, a < s.heap.size → ¬ (fun q => s.heap.size ≤ q) a := fun a h => Nat.not_le.mpr h
  have hcur : ∃ c, s.vm.findClass "HeatBranches" = some c := ⟨_, (hK.1 7 _ rfl).2.1⟩
  refine ⟨D, (cI, cS, cL), fun ad => ⟨⟨hK, ?_, ?_, ?_, ?_, ?_, ?_, ?_⟩, va_AO.of (st_w hts 163 (by decide +kernel))⟩⟩
  · exact List.forall_mem_cons.mpr ⟨va_Nw.of rfl (st_w hts 29 (by decide +kernel)), List.forall_mem_cons.mpr ⟨va_Nw.of rfl (st_w hts 91 (by decide +kernel)), List.forall_mem_cons.mpr ⟨va_Nw.of rfl (st_w hts 164 (by decide +kernel)), List.forall_mem_cons.mpr ⟨va_Nw.of rfl (st_w hts 178 (by decide +kernel)), List.forall_mem_cons.mpr ⟨va_Nw.of rfl (st_w hts 198 (by decide +kernel)), List.forall_mem_cons.mpr ⟨va_Nw.of rfl (st_w hts 233 (by decide +kernel)), List.forall_mem_cons.mpr ⟨va_Nw.of rfl (st_w hts 319 (by decide +kernel)), List.forall_mem_cons.mpr ⟨va_Nw.of rfl (st_w hts 485 (by decide +kernel)), List.forall_mem_cons.mpr ⟨va_Nw.of rfl (st_w hts 490 (by decide +kernel)), fun _ h => absurd h List.not_mem_nil⟩⟩⟩⟩⟩⟩⟩⟩⟩
  · exact vx_Zqof (st_w hts 596 (by decide +kernel)) (st_w hts 12 (by decide +kernel)) (hq _ (by decide +kernel)) hA
  · exact vx_Zqof (st_w hts 598 (by decide +kernel)) (st_w hts 12 (by decide +kernel)) (hq _ (by decide +kernel)) hA
  · exact List.forall_mem_cons.mpr ⟨st_str hcur (st_w hts 610 (by decide +kernel)), List.forall_mem_cons.mpr ⟨st_str hcur (st_w hts 649 (by decide +kernel)), List.forall_mem_cons.mpr ⟨st_str hcur (st_w hts 665 (by decide +kernel)), List.forall_mem_cons.mpr ⟨st_str hcur (st_w hts 684 (by decide +kernel)), List.forall_mem_cons.mpr ⟨st_str hcur (st_w hts 735 (by decide +kernel)), List.forall_mem_cons.mpr ⟨st_str hcur (st_w hts 751 (by decide +kernel)), List.forall_mem_cons.mpr ⟨st_str hcur (st_w hts 773 (by decide +kernel)), List.forall_mem_cons.mpr ⟨st_str hcur (st_w hts 830 (by decide +kernel)), List.forall_mem_cons.mpr ⟨st_str hcur (st_w hts 842 (by decide +kernel)), fun _ h => absurd h List.not_mem_nil⟩⟩⟩⟩⟩⟩⟩⟩⟩
  · exact List.forall_mem_cons.mpr ⟨va_Nw.of rfl (st_w hts 571 (by decide +kernel)), List.forall_mem_cons.mpr ⟨va_Nw.of rfl (st_w hts 642 (by decide +kernel)), List.forall_mem_cons.mpr ⟨va_Nw.of rfl (st_w hts 658 (by decide +kernel)), fun _ h => absurd h List.not_mem_nil⟩⟩⟩
  · exact List.forall_mem_cons.mpr ⟨va_Nw.of rfl (st_w hts 573 (by decide +kernel)), List.forall_mem_cons.mpr ⟨va_Nw.of rfl (st_w hts 575 (by decide +kernel)), List.forall_mem_cons.mpr ⟨va_Nw.of rfl (st_w hts 577 (by decide +kernel)), fun _ h => absurd h List.not_mem_nil⟩⟩⟩
  · exact List.forall_mem_cons.mpr ⟨va_Nc.of (hq _ (by decide +kernel)), List.forall_mem_cons.mpr ⟨va_Nc.of (hq _ (by decide +kernel)), List.forall_mem_cons.mpr ⟨va_Nc.of (hq _ (by decide +kernel)), List.forall_mem_cons.mpr ⟨va_Nc.of (hq _ (by decide +kernel)), fun _ h => absurd h List.not_mem_nil⟩⟩⟩⟩
def kAd2 (a u : Nat → Nat) (q : Nat) : Nat → Nat := fun i => if i < 107 then a i else if i < 117 then u (i - 107) else q
def kM2 (M : Mem) : Mem := fun k => if k < 107 then M k else if k < 117 then M8 (k - 107) else M k
set_option maxRecDepth 40000 in
set_option maxHeartbeats 8000000 in
theorem kw_all (G : mG) (a u : Nat → Nat) (q : Nat) (M : Mem) : (([] ++ Km_ws (G.1, G.2.1, a) M g0) ++ wX8 G u 0) ++ [(q, .inl (G.2.1.2.2, 1, .inr (.inl (fun _ => 0))))] = m_ws (G.1, G.2.1, kAd2 a u q) (kM2 M) g0 := by
  have hm : (fun i : Nat => (([17, 31, 45, 59] : List Nat)[i]?).map (kAd2 a u q)) = (fun i : Nat => (([17, 31, 45, 59] : List Nat)[i]?).map a) := by
    funext i
    rcases i with _ | _ | _ | _ | i <;> first | rfl | simp
  have e1 : Km_ws (G.1, G.2.1, a) M g0 = (Km_ws (G.1, G.2.1, a) M g0).set 16 (a 16, .inl (G.2.1.2.1, 4, .inr (.inr (.inr (.inr (fun i : Nat => (([17, 31, 45, 59] : List Nat)[i]?).map a)))))) := rfl
  rw [e1, ← hm]
  rfl
theorem kM2_off {M : Mem} : offR M (kM2 M) 107 116 := by
  intro k hk
  unfold kM2
  by_cases h : k < 107
  · rw [if_pos h]
  · rw [if_neg h, if_neg (by omega)]
theorem rINV_0 {M : Mem} : rINV (kM2 M) V0 [] 0 (fun _ => 0) := by
  refine ⟨?_, ⟨?_, by decide, fun i W h => by simp at h⟩, ?_, by decide, fun j hj => absurd hj (by omega)⟩
  · show rV (M8 1) V0
    unfold rV
    decide +kernel
  · show M8 0 3 = nI 0
    decide +kernel
  · show M8 0 5 = nI 0
    decide +kernel
theorem lw_start {p : Program} {e : Env} {s : State} {m : MethodId} {args : Array Value} {below : List Frame} {meth : Method} {c : Code} {l : Launch} {G : mG} {Q : State → Prop} {A : Nat → Prop} {b : Nat} (C : kCx p s m args c code 9 RL G A)
    (k : ∀ (ad : Nat → Nat) (M : Mem) (kk nn : Nat), cINV M V0 [] 0 (fun _ => 0) → rINV M V0 [] 0 (fun _ => 0) → kk ≤ 590000 → nn ≤ 7000000 → Kt p l e room_1 s m args below meth c G 9 kk nn Q A (m_ws (G.1, G.2.1, ad) M g0) [(4, .int 0), (3, .ref (ad 117)), (2, .ref (ad 107)), (1, .ref (ad 0)), (0, .ref b)] 23 []) : Kt p l e room_1 s m args below meth c G 9 0 0 Q A [] [(0, .ref b)] 0 [] := by
  refine k_new (N := 9) C dL_law_0 nw_L_8 rfl (Nat.le_of_ble_eq_true rfl) (Nat.le_of_ble_eq_true rfl) (fun q1 => ?_)
  refine k_dup C dL_law_3 rfl ?_
  refine k_call (S := (Nat → Nat) × Mem × Glo) (mc := 106) (ms := 1444) (d := 6) C dL_law_4 sc_L_87 (c_X7_init l G) (Nat.le_of_ble_eq_true rfl) (Nat.le_of_ble_eq_true rfl) (Nat.le_of_ble_eq_true rfl) (Nat.le_of_ble_eq_true rfl) (Nat.le_of_ble_eq_true rfl) (fun u hu => ?_)
  obtain ⟨a, M, g⟩ := u
  obtain ⟨h1, h2, h3, h4⟩ := hu
  simp only at h1 h2 h3 h4
  subst h1
  subst h4
  refine k_astore_n (L' := [(1, .ref (a 0)), (0, .ref b)]) C dL_law_7 (by decide) rfl ?_
  refine k_new (N := 16) C dL_law_8 nw_L_88 rfl (Nat.le_of_ble_eq_true rfl) (Nat.le_of_ble_eq_true rfl) (fun q2 => ?_)
  refine k_dup C dL_law_11 rfl ?_
  refine k_call (S := Nat → Nat) (mc := 9) (ms := 1142) (d := 0) C dL_law_12 sc_L_90 (c_X8_init l G) (Nat.le_of_ble_eq_true rfl) (Nat.le_of_ble_eq_true rfl) (Nat.le_of_ble_eq_true rfl) (Nat.le_of_ble_eq_true rfl) (Nat.le_of_ble_eq_true rfl) (fun u hu => ?_)
  subst hu
  refine k_astore_n (L' := [(2, .ref (u 0)), (1, .ref (a 0)), (0, .ref b)]) C dL_law_15 (by decide) rfl ?_
  refine k_iconst (v := 1) C dL_law_16 (by decide) ?_
  refine k_newl (N := 1) C dL_law_17 (by decide) (by decide) (by decide) (Nat.le_of_ble_eq_true rfl) (Nat.le_of_ble_eq_true rfl) (fun q3 => ?_)
  refine k_astore_n (L' := [(3, .ref q3), (2, .ref (u 0)), (1, .ref (a 0)), (0, .ref b)]) C dL_law_19 (by decide) rfl ?_
  refine k_iconst (v := 0) C dL_law_20 (by decide) ?_
  refine k_istore (L' := [(4, .int 0), (3, .ref q3), (2, .ref (u 0)), (1, .ref (a 0)), (0, .ref b)]) C dL_law_21 (by decide) rfl ?_
  refine k_as (kw_all G a u q3 M) ?_
  exact k (kAd2 a u q3) (kM2 M) _ _ ((cINV_0 h2 h3 _).offM kM2_off) rINV_0 (Nat.le_of_ble_eq_true rfl) (Nat.le_of_ble_eq_true rfl)
