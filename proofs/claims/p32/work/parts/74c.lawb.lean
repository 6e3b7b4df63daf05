/-! the law: its script is read, its turns are gone through -/
def cePc (G : mG) (sz b LL : Nat) (xs : Nat → Int32) (k : Int32) (M : Mem) (g : Glo) : Array Value → State → Prop := va_Pc [.ref b, .int k] (fun U => U.heap.size = sz ∧ b < sz ∧ ¬ mAq G sz b ∧ va_X b LL xs U U.heap ∧ va_P (mD G) vwC (m_ws G M g) U.heap ∧ mS G sz U U.heap)
theorem cePc_blind {G : mG} {sz b LL : Nat} {xs : Nat → Int32} {k : Int32} {M : Mem} {g : Glo} : FrameBlind (cePc G sz b LL xs k M g) := fun a U g9 mk q => ⟨q.1, q.2.1, q.2.2.1, q.2.2.2.1, va_X.moved (u := U) (U := U.calling g9 mk a) (Vm.Alike.refl _) q.2.2.2.2.1, q.2.2.2.2.2.1, mS.same (u := U) (U := U.calling g9 mk a) rfl q.2.2.2.2.2.2⟩
def mcCe (l : Launch) (G : mG) (b LL : Nat) (xs : Nat → Int32) (k : Int32) (M : Mem) (g : Glo) : Prop :=
  ∀ sz, Met l yL_cell (.code yL_cell cL_cell 2 (some .int) :: gd) (rmD 1 0 0) (cePc G sz b LL xs k M g) (va_Qi (fun (_ : Int32) (u : Mem × Glo) => u = (M, g)) (mB G) (mAq G sz)) 0 0 (mAq G sz)
theorem mcCe_of {l : Launch} {G : mG} {b LL : Nat} {xs : Nat → Int32} {k : Int32} {M : Mem} {g : Glo} (hG : mInj G)
    (body : ∀ (p : Program) (e : Env) (s : State) (m : MethodId) (args : Array Value) (below : List Frame) (meth : Method) (c : Code) (Q : State → Prop), mCx p s m args c cL_cell 2 RL G → b < s.heap.size → ¬ mAq G s.heap.size b → va_X b LL xs s s.heap →
      (∀ (r : Int32) (L' : List (Nat × Value)) (pc : Nat), decode cL_cell pc = .ok (.ireturn, 1) → At p l e (rmD 1 0 0) s m args below meth c G 2 0 0 Q M g L' pc [.int r]) →
      At p l e (rmD 1 0 0) s m args below meth c G 2 0 0 Q M g [(0, .ref b), (1, .int k)] 0 []) : mcCe l G b LL xs k M g := by
  intro sz
  refine Met.ofW (cc := cL_cell) (maxL := 2) (ret := some .int) (by decide) rfl ?_
  intro p e s m args below meth c s₁ B hml hv
  obtain ⟨rfl, hsz, hbl, hbA, hX, hP, hS⟩ := hv
  subst hsz
  rw [lg_entry_eq]
  exact body p e s m _ below meth c _ ⟨B.exec, B.bytes, hml, findClass_of_methodNamed B.named, fun w hw => atoms_spec B.pre w (List.mem_cons_of_mem _ hw), hS, hG⟩ hbl hbA hX
    (fun r L' pc hd H locs ls hP hS hl => W.zret B.exec B.bytes B.returns rfl (fun t ht hW => ⟨⟨r, (M, g), rfl, rfl, by unfold mB; rw [ht]; exact hP⟩, hS.F ht⟩) hS.2.2 hd B.notSynchronized)
    s.heap [] _ hP va_S.rf (lv_entry [.ref b, .int k] (Nat.le_of_ble_eq_true rfl))
theorem c_L_cell (l : Launch) (G : mG) (hG : mInj G) (b LL : Nat) (xs : Nat → Int32) (hL : LL ≤ 260) (k : Nat) (hk : k < 1000) (M : Mem) (g : Glo) : mcCe l G b LL xs (nI k) M g := by
  refine mcCe_of hG ?_
  intro p e s m args below meth c Q C hbl hbA hX hend
  refine r_iload_n C dL_cell_0 1 rfl ?_
  refine r_aload_n C dL_cell_1 0 rfl ?_
  refine r_slen C hX hbl hbA dL_cell_2 ?_
  refine r_icmp_ge (tgt := 12) C dL_cell_3 (by decide) (fun h => ?_) (fun h => ?_)
  · refine r_ldc (v := 40503) C dL_cell_12 (gd_t 373 (by decide +kernel) rfl) ?_
    refine r_iload_n C dL_cell_14 1 rfl ?_
    refine r_iconst (v := 3) C dL_cell_15 rfl ?_
    refine r_iadd C dL_cell_16 ?_
    refine r_imul C dL_cell_17 ?_
    exact hend _ _ _ dL_cell_18
  · have hlt : k < LL := lt_of_nle (by omega) h
    refine r_aload_n C dL_cell_6 0 rfl ?_
    refine r_iload_n C dL_cell_7 1 rfl ?_
    refine r_sldN (j := k) C hX hbl hbA hL dL_cell_8 rfl hlt ?_
    refine r_goto (tgt := 18) C dL_cell_9 (by decide) ?_
    exact hend _ _ _ dL_cell_18
section ML2
variable {p : Program} {l : Launch} {e : Env} {R : Room} {s : State} {m : MethodId} {args : Array Value} {below : List Frame} {meth : Method} {c : Code} {G : mG} {nL kk nn : Nat} {Q : State → Prop} {M : Mem} {g : Glo} {L : List (Nat × Value)} {pc : Nat} {st : List Value} {cc : ByteArray} {own : String}
theorem r_lCe {b LL idx k : Nat} {xs : Nat → Int32} {rest st0 : List Value} (C : mCx p s m args c cc nL own G) (hG : mInj G) (hX : va_X b LL xs s s.heap) (hbl : b < s.heap.size) (hbA : ¬ mAq G s.heap.size b) (hL : LL ≤ 260) (hk : k < 1000) (hd : decode cc pc = .ok (.invokestatic idx, 3)) (hs : mSs own idx yL_cell cL_cell 2 (some .int) 2) (hr1 : 1 + 1 + 1 ≤ R.frames) (hr2 : 8 + (2 + 11) + (40 + 40 * 1) ≤ R.locals) (hst : st0 = .int (nI k) :: .ref b :: rest) (hr : (rest.map fun v => v.category).sum ≤ 8) (h1 : kk ≤ R.cells) (h2 : nn ≤ R.slots)
    (kx : ∀ (r : Int32), At p l e R s m args below meth c G nL kk nn Q M g L (pc + 3) (.int r :: rest)) : At p l e R s m args below meth c G nL kk nn Q M g L pc st0 := by
  intro H locs ls hP hS hl
  subst hst
  have hbH : H[b]? = s.heap[b]? := hS.2.1 b hbl hbA
  have hpre : PreS s H (cePc G H.size b LL xs (nI k) M g) [.ref b, .int (nI k)] := ⟨cePc_blind, fun U hU hW => by
    subst hU
    exact ⟨rfl, rfl, Nat.lt_of_lt_of_le hbl hS.1, fun h => hbA (mAq_le hS.1 h), va_X.moved hW.alike (hX.kept hbH), hP, mS.call hW hS C.2.2.2.2.2.1⟩⟩
  refine va_calli (va_runS (As := [.ref b, .int (nI k)]) (rest := rest) (m_fix C) (c_L_cell l G hG b LL xs hL k hk M g H.size) ⟨m_cbR C hs.1 hr1 hr2, C.2.2.2.2.1 _ hs.2⟩ hpre rfl rfl hl.1 rfl (lv_room hr) hd ⟨h1, h2⟩) hS (fun _ _ h => mAq_le hS.1 h) (fun _ h => mAq_le hS.1 h) (fun r u t H1 locs1 ht hvm hw hB hz1 hk1 hS1 => ?_)
  subst hw
  unfold mB at hB
  rw [ht] at hB
  exact kx r H1 locs1 ls hB hS1 hl
end ML2
abbrev lwCtx (l : Launch) (p : Program) (s : State) (m : MethodId) (args : Array Value) (c : Code) (G : mG) (b LL : Nat) (xs : Nat → Int32) : Prop := l.stackTraces = false ∧ mInj G ∧ mA G 112 = 0 ∧ mCx p s m args c code 9 RL G ∧ va_X b LL xs s s.heap ∧ b < s.heap.size ∧ ¬ mAq G s.heap.size b ∧ LL ≤ 260
def lwEnd (p : Program) (l : Launch) (e : Env) (s : State) (m : MethodId) (args : Array Value) (below : List Frame) (meth : Method) (c : Code) (G : mG) (Q : State → Prop) (g : Glo) : Prop :=
  ∀ (M : Mem) (L : List (Nat × Value)), At p l e room_1 s m args below meth c G 9 754697 6837606 Q M g L 172 [.int 1]
section LL3
variable {p : Program} {l : Launch} {e : Env} {s : State} {m : MethodId} {args : Array Value} {below : List Frame} {meth : Method} {c : Code} {G : mG} {Q : State → Prop} {b LL : Nat} {xs : Nat → Int32} {g : Glo}
set_option maxRecDepth 20000 in
set_option maxHeartbeats 4000000 in
theorem lw_fin (X : lwCtx l p s m args c G b LL xs) (fin : lwEnd p l e s m args below meth c G Q g) {kk nn : Nat} {M : Mem} {V : View} {Hs : List View} {len : Nat} {T : Nat → Int32} {x y : Value} (hI : cINV M V Hs len T) (hk : kk ≤ 2000) (hn : nn ≤ 20000) : At p l e room_1 s m args below meth c G 9 kk nn Q M g [(8, x), (7, y), (6, .int 1), (0, .ref b), (1, .ref (mA G 0)), (2, .ref (mA G 107)), (3, .ref (mA G 108)), (4, .ref (mA G 109)), (5, .ref (mA G 110))] 130 [] := by
  obtain ⟨hfl, hG, h0, C, hX, hbl, hbA, hLL⟩ := id X
  refine r_iload C dL_law_130 2 rfl ?_
  refine r_if_eq (tgt := 171) C dL_law_132 (by decide) (fun z => absurd z (by decide)) (fun _ => ?_)
  refine r_aload_n C dL_law_135 4 rfl ?_
  refine r_iconst (v := 0) C dL_law_136 rfl ?_
  refine r_iconst (v := 0) C dL_law_137 rfl ?_
  refine r_lS (As := [.ref (mA G 0), .int 0, .int 0]) (rest := []) C dL_law_138 w_L_125 (c_L_heatOf l G hG M g hfl V Hs len T hI 0 0) (Nat.le_of_ble_eq_true rfl) (Nat.le_of_ble_eq_true rfl) rfl rfl (Nat.le_of_ble_eq_true rfl) (show kk + 2 ≤ 754697 by omega) (show nn + 12 ≤ 6837606 by omega) (fun r1 M1 g1 h1 => ?_)
  obtain ⟨e1, rfl, rfl⟩ := wr_no h1 0 (-1000000001) rfl (if_pos (fun z => absurd z.1 (by decide)))
  refine r_ldc (v := -1000000001) C dL_law_141 (gd_t 515 (by decide +kernel) rfl) ?_
  refine r_icmp_ne (tgt := 171) C dL_law_143 (by decide) (fun z => absurd e1 z) (fun _ => ?_)
  refine r_aload_n C dL_law_146 4 rfl ?_
  refine r_bipush (v := 15) C dL_law_147 rfl ?_
  refine r_lS (As := [.ref (mA G 0), .int 15]) (rest := []) C dL_law_149 w_L_119 (c_L_valueOf l G hG M1 g1 hfl V Hs len T hI 15) (Nat.le_of_ble_eq_true rfl) (Nat.le_of_ble_eq_true rfl) rfl rfl (Nat.le_of_ble_eq_true rfl) (show kk + 2 + 1 ≤ 754697 by omega) (show nn + 12 + 6 ≤ 6837606 by omega) (fun r2 M2 g2 h2 => ?_)
  obtain ⟨e2, rfl, rfl⟩ := wr_no h2 0 (-1000000002) rfl (if_pos (fun z => absurd z.2 (by decide)))
  refine r_ldc (v := -1000000002) C dL_law_152 (gd_t 486 (by decide +kernel) rfl) ?_
  refine r_icmp_ne (tgt := 171) C dL_law_154 (by decide) (fun z => absurd e2 z) (fun _ => ?_)
  refine r_aload_n C dL_law_157 4 rfl ?_
  refine r_iconst (v := 3) C dL_law_158 rfl ?_
  refine r_lS (As := [.ref (mA G 0), .int 3]) (rest := []) C dL_law_159 w_L_131 (c_L_sumOf l G hG M2 g2 hfl V Hs len T hI 3) (Nat.le_of_ble_eq_true rfl) (Nat.le_of_ble_eq_true rfl) rfl rfl (Nat.le_of_ble_eq_true rfl) (show kk + 2 + 1 + 1 ≤ 754697 by omega) (show nn + 12 + 6 + 6 ≤ 6837606 by omega) (fun r3 M3 g3 h3 => ?_)
  obtain ⟨e3, rfl, rfl⟩ := wr_no h3 0 (-1000000002) rfl (if_pos (fun z => absurd z.2 (by decide)))
  refine r_ldc (v := -1000000002) C dL_law_162 (gd_t 486 (by decide +kernel) rfl) ?_
  refine r_icmp_ne (tgt := 171) C dL_law_164 (by decide) (fun z => absurd e3 z) (fun _ => ?_)
  refine r_iconst (v := 1) C dL_law_167 rfl ?_
  refine r_goto (tgt := 172) C dL_law_168 (by decide) ?_
  exact r_more (by omega) (by omega) (fin M3 _)
set_option maxRecDepth 20000 in
set_option maxHeartbeats 4000000 in
theorem lw_loop (X : lwCtx l p s m args c G b LL xs) (fin : lwEnd p l e s m args below meth c G Q g) {t len : Nat} {T : Nat → Int32} (ht : t ≤ 70) : ∀ (f k kk nn : Nat) (M : Mem) (V : View) (Hs : List View), k + f = t → cINV M V Hs len T → eOK M V → kk ≤ 1000 + 11 * k → nn ≤ 10000 + 63 * k → At p l e room_1 s m args below meth c G 9 kk nn Q M g [(8, .int (nI k)), (7, .int (nI t)), (6, .int 1), (0, .ref b), (1, .ref (mA G 0)), (2, .ref (mA G 107)), (3, .ref (mA G 108)), (4, .ref (mA G 109)), (5, .ref (mA G 110))] 64 []
  | f, k, kk, nn, M, V, Hs, hf, hI, hE, hk, hn => by
    obtain ⟨hfl, hG, h0, C, hX, hbl, hbA, hLL⟩ := id X
    refine r_iload C dL_law_64 0 rfl ?_
    refine r_iload C dL_law_66 1 rfl ?_
    refine r_icmp_ge (tgt := 130) C dL_law_68 (by decide) (fun h => ?_) (fun h => ?_)
    · exact lw_fin X fin hI (by omega) (by omega)
    match f, hf with
    | 0, hf => exact absurd (nI_le (show t ≤ k by omega) (by omega)) h
    | f + 1, hf =>
    refine r_iload C dL_law_71 2 rfl ?_
    refine r_if_eq (tgt := 130) C dL_law_73 (by decide) (fun z => absurd z (by decide)) (fun _ => ?_)
    refine r_aload_n C dL_law_76 4 rfl ?_
    refine r_aload_n C dL_law_77 5 rfl ?_
    refine r_aload_n C dL_law_78 6 rfl ?_
    refine r_aload C dL_law_79 7 rfl ?_
    refine r_aload C dL_law_81 8 rfl ?_
    refine r_aload_n C dL_law_83 3 rfl ?_
    refine r_iconst (v := 1) C dL_law_84 rfl ?_
    refine r_iload C dL_law_85 0 rfl ?_
    refine r_iadd C dL_law_87 ?_
    refine r_valI (y := nI (1 + k)) (nI_add 1 k) ?_
    refine r_lCe (k := 1 + k) (rest := [.ref (mA G 110), .ref (mA G 109), .ref (mA G 108), .ref (mA G 107), .ref (mA G 0)]) C hG hX hbl hbA hLL (by omega) dL_law_88 s_L_147 (Nat.le_of_ble_eq_true rfl) (Nat.le_of_ble_eq_true rfl) rfl (Nat.le_of_ble_eq_true rfl) (show kk ≤ 754697 by omega) (show nn ≤ 6837606 by omega) (fun x => ?_)
    refine r_sipush (v := 7919) C dL_law_91 rfl ?_
    refine r_iload C dL_law_94 0 rfl ?_
    refine r_imul C dL_law_96 ?_
    refine r_ixor C dL_law_97 ?_
    refine r_lA (As := [.ref (mA G 0), .ref (mA G 107), .ref (mA G 108), .ref (mA G 109), .ref (mA G 110), .int (x ^^^ (7919 * nI k))]) (rest := []) C dL_law_98 s_L_151 (c_L_acts l G hG M g hfl V Hs len T hI hE (x ^^^ (7919 * nI k))) (Nat.le_of_ble_eq_true rfl) (Nat.le_of_ble_eq_true rfl) rfl rfl (Nat.le_of_ble_eq_true rfl) (show kk + 6 ≤ 754697 by omega) (show nn + 36 ≤ 6837606 by omega) (fun r1 M1 g1 h1 => ?_)
    obtain ⟨⟨er1, V1, Hs1, hI1, hE1⟩, eg1⟩ := h1
    rw [er1, eg1]
    refine r_if_eq (tgt := 121) C dL_law_101 (by decide) (fun z => absurd z (by decide)) (fun _ => ?_)
    refine r_aload_n C dL_law_104 4 rfl ?_
    refine r_aload_n C dL_law_105 5 rfl ?_
    refine r_aload_n C dL_law_106 6 rfl ?_
    refine r_aload C dL_law_107 7 rfl ?_
    refine r_aload C dL_law_109 8 rfl ?_
    refine r_lA (As := [.ref (mA G 0), .ref (mA G 107), .ref (mA G 108), .ref (mA G 109), .ref (mA G 110)]) (rest := []) C dL_law_111 s_L_143 (c_L_isSo l G hG h0 M1 g hfl V1 Hs1 len T hI1 hE1) (Nat.le_of_ble_eq_true rfl) (Nat.le_of_ble_eq_true rfl) rfl rfl (Nat.le_of_ble_eq_true rfl) (show kk + 6 + 5 ≤ 754697 by omega) (show nn + 36 + 27 ≤ 6837606 by omega) (fun r2 M2 g2 h2 => ?_)
    obtain ⟨⟨er2, hI2, hE2⟩, eg2⟩ := h2
    rw [er2, eg2]
    refine r_if_eq (tgt := 121) C dL_law_114 (by decide) (fun z => absurd z (by decide)) (fun _ => ?_)
    refine r_iconst (v := 1) C dL_law_117 rfl ?_
    refine r_goto (tgt := 122) C dL_law_118 (by decide) ?_
    refine r_istore (L' := [(6, .int 1), (8, .int (nI k)), (7, .int (nI t)), (0, .ref b), (1, .ref (mA G 0)), (2, .ref (mA G 107)), (3, .ref (mA G 108)), (4, .ref (mA G 109)), (5, .ref (mA G 110))]) C dL_law_122 (by decide) rfl ?_
    refine r_iinc (v := nI (k + 1)) (L' := [(8, .int (nI (k + 1))), (6, .int 1), (7, .int (nI t)), (0, .ref b), (1, .ref (mA G 0)), (2, .ref (mA G 107)), (3, .ref (mA G 108)), (4, .ref (mA G 109)), (5, .ref (mA G 110))]) C dL_law_124 1 rfl (nI_inc k) (by decide) rfl ?_
    refine r_goto (tgt := 64) C dL_law_127 (by decide) ?_
    refine r_sub (L' := [(8, .int (nI (k + 1))), (7, .int (nI t)), (6, .int 1), (0, .ref b), (1, .ref (mA G 0)), (2, .ref (mA G 107)), (3, .ref (mA G 108)), (4, .ref (mA G 109)), (5, .ref (mA G 110))]) [0, 2, 1, 3, 4, 5, 6, 7, 8] rfl ?_
    exact lw_loop X fin ht f (k + 1) _ _ M2 V1 Hs1 (by omega) hI2 hE2 (by omega) (by omega)
end LL3
