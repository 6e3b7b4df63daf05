theorem mcI_mono {l : Launch} {G : mG} {y : MethodName} {cc : ByteArray} {nL d : Nat} {ret : FieldType} {vs : List Value} {M : Mem} {g : Glo} {post post' : Int32 → Mem → Glo → Prop} (h : ∀ r M' g', post r M' g' → post' r M' g') (hM : mcI l G y cc nL ret d vs M g post) : mcI l G y cc nL ret d vs M g post' := fun sz => by
  refine MetFree.mono (hM sz) (fun _ _ z => z) (fun _ _ _ _ _ z => z) (fun a st o t _ hq => ?_)
  obtain ⟨⟨⟨r, u, h1, h2, h3⟩, h4⟩, h5⟩ := hq
  exact ⟨⟨⟨r, u, h1, h _ _ _ h2, h3⟩, h4⟩, h5⟩
theorem c_X8_undo (l : Launch) (G : mG) (hG : mInj G) (M : Mem) (g : Glo) (V : View) (Hs : List View) (len : Nat) (T : Nat → Int32) (hW : wfV V) (hI : rINV M V Hs len T) (hHs : ∀ W, W ∈ Hs → wfV W) : mcI l G yX8_undo cX8_undo 2 .int 8 [.ref (mA G 107)] M g (fun r M' g' => (M' 107 6 = nI (eUndo Hs) ∧ offR M M' 107 116 ∧ (∀ (Hs0 : List View) (V0 : View), Hs = Hs0 ++ [V0] → r = nI Hs0.length ∧ rINV M' V0 Hs0 len T) ∧ (¬ eUndo Hs = 0 → rINV M' V Hs len T)) ∧ g' = g) := by
  rcases List.eq_nil_or_concat Hs with hz | ⟨H0, V0, hz⟩
  · refine mcI_mono ?_ (c_X8_undo0 l G hG M g V Hs len T hW hI hz)
    rintro r M' g' ⟨⟨h1, h2, h3, h4⟩, h5⟩
    exact ⟨⟨h1, h2, fun H1 V1 h => by rw [hz] at h; exact absurd h (by simp), h4⟩, h5⟩
  · have hz' : Hs = H0 ++ [V0] := by simpa using hz
    refine mcI_mono ?_ (c_X8_undo1 l G hG M g V Hs len T hW hI V0 H0 hz' (hHs V0 (by rw [hz']; simp)))
    rintro r M' g' ⟨⟨h1, h2, h3, h4⟩, h5⟩
    refine ⟨⟨h1, h2, fun H1 V1 h => ?_, h4⟩, h5⟩
    have he : eUndo Hs = 0 := if_neg (by rw [hz']; simp)
    obtain ⟨rfl, e2⟩ := List.append_inj' (hz'.symm.trans h) rfl
    cases e2
    exact h3 he

theorem w_L_91 : mSw RL 91 yL_addNode cL_addNode 8 hhL_addNode 7 := ⟨gd_t 555 (by decide +kernel) rfl, gd_t 0 (by decide +kernel) rfl, gd_t 557 (by decide +kernel) rfl, by decide, by decide, by decide +kernel, gd_t 556 (by decide +kernel) rfl⟩
theorem w_L_100 : mSw RL 100 yL_setDraw cL_setDraw 6 hhL_setDraw 5 := ⟨gd_t 673 (by decide +kernel) rfl, gd_t 0 (by decide +kernel) rfl, gd_t 675 (by decide +kernel) rfl, by decide, by decide, by decide +kernel, gd_t 674 (by decide +kernel) rfl⟩
theorem w_L_104 : mSw RL 104 yL_setLeak cL_setLeak 5 hhL_setLeak 4 := ⟨gd_t 685 (by decide +kernel) rfl, gd_t 0 (by decide +kernel) rfl, gd_t 687 (by decide +kernel) rfl, by decide, by decide, by decide +kernel, gd_t 686 (by decide +kernel) rfl⟩
theorem w_L_108 : mSw RL 108 yL_setTemperatures cL_setTemperatures 5 hhL_setTemperatures 4 := ⟨gd_t 692 (by decide +kernel) rfl, gd_t 0 (by decide +kernel) rfl, gd_t 694 (by decide +kernel) rfl, by decide, by decide, by decide +kernel, gd_t 693 (by decide +kernel) rfl⟩
theorem w_L_111 : mSw RL 111 yL_node cL_node 5 hhL_node 4 := ⟨gd_t 699 (by decide +kernel) rfl, gd_t 0 (by decide +kernel) rfl, gd_t 701 (by decide +kernel) rfl, by decide, by decide, by decide +kernel, gd_t 700 (by decide +kernel) rfl⟩
theorem w_L_114 : mSw RL 114 yL_heat cL_heat 5 hhL_heat 4 := ⟨gd_t 706 (by decide +kernel) rfl, gd_t 0 (by decide +kernel) rfl, gd_t 708 (by decide +kernel) rfl, by decide, by decide, by decide +kernel, gd_t 707 (by decide +kernel) rfl⟩
theorem w_L_117 : mSw RL 117 yL_value cL_value 4 hhL_value 3 := ⟨gd_t 713 (by decide +kernel) rfl, gd_t 0 (by decide +kernel) rfl, gd_t 715 (by decide +kernel) rfl, by decide, by decide, by decide +kernel, gd_t 714 (by decide +kernel) rfl⟩
theorem w_L_121 : mSw RL 121 yL_sum cL_sum 4 hhL_sum 3 := ⟨gd_t 720 (by decide +kernel) rfl, gd_t 0 (by decide +kernel) rfl, gd_t 722 (by decide +kernel) rfl, by decide, by decide, by decide +kernel, gd_t 721 (by decide +kernel) rfl⟩
theorem w_L_124 : mSw RL 124 yL_addBoiler cL_addBoiler 6 hhL_addBoiler 5 := ⟨gd_t 727 (by decide +kernel) rfl, gd_t 0 (by decide +kernel) rfl, gd_t 729 (by decide +kernel) rfl, by decide, by decide, by decide +kernel, gd_t 728 (by decide +kernel) rfl⟩
theorem w_L_127 : mSw RL 127 yL_setCost cL_setCost 5 hhL_setCost 4 := ⟨gd_t 740 (by decide +kernel) rfl, gd_t 0 (by decide +kernel) rfl, gd_t 742 (by decide +kernel) rfl, by decide, by decide, by decide +kernel, gd_t 741 (by decide +kernel) rfl⟩
theorem w_L_130 : mSw RL 130 yL_boiler cL_boiler 5 hhL_boiler 4 := ⟨gd_t 752 (by decide +kernel) rfl, gd_t 0 (by decide +kernel) rfl, gd_t 754 (by decide +kernel) rfl, by decide, by decide, by decide +kernel, gd_t 753 (by decide +kernel) rfl⟩
theorem w_L_133 : mSw RL 133 yL_setTariff cL_setTariff 6 hhL_setTariff 5 := ⟨gd_t 759 (by decide +kernel) rfl, gd_t 0 (by decide +kernel) rfl, gd_t 761 (by decide +kernel) rfl, by decide, by decide, by decide +kernel, gd_t 760 (by decide +kernel) rfl⟩
theorem w_L_136 : mSw RL 136 yL_pass cL_pass 4 hhL_pass 3 := ⟨gd_t 766 (by decide +kernel) rfl, gd_t 0 (by decide +kernel) rfl, gd_t 768 (by decide +kernel) rfl, by decide, by decide, by decide +kernel, gd_t 767 (by decide +kernel) rfl⟩
theorem w_L_139 : mSw RL 139 yL_setMeter cL_setMeter 5 hhL_setMeter 4 := ⟨gd_t 774 (by decide +kernel) rfl, gd_t 0 (by decide +kernel) rfl, gd_t 776 (by decide +kernel) rfl, by decide, by decide, by decide +kernel, gd_t 775 (by decide +kernel) rfl⟩
theorem w_L_143 : mSw RL 143 yL_balance cL_balance 4 hhL_balance 3 := ⟨gd_t 781 (by decide +kernel) rfl, gd_t 0 (by decide +kernel) rfl, gd_t 783 (by decide +kernel) rfl, by decide, by decide, by decide +kernel, gd_t 782 (by decide +kernel) rfl⟩
theorem w_L_146 : mSw RL 146 yL_region cL_region 4 hhL_region 3 := ⟨gd_t 788 (by decide +kernel) rfl, gd_t 0 (by decide +kernel) rfl, gd_t 790 (by decide +kernel) rfl, by decide, by decide, by decide +kernel, gd_t 789 (by decide +kernel) rfl⟩
theorem w_L_149 : mSw RL 149 yL_meterOf cL_meterOf 4 hhL_meterOf 3 := ⟨gd_t 795 (by decide +kernel) rfl, gd_t 0 (by decide +kernel) rfl, gd_t 797 (by decide +kernel) rfl, by decide, by decide, by decide +kernel, gd_t 796 (by decide +kernel) rfl⟩
theorem w_L_152 : mSw RL 152 yL_nextMeter cL_nextMeter 4 hhL_nextMeter 3 := ⟨gd_t 802 (by decide +kernel) rfl, gd_t 0 (by decide +kernel) rfl, gd_t 804 (by decide +kernel) rfl, by decide, by decide, by decide +kernel, gd_t 803 (by decide +kernel) rfl⟩
theorem w_L_163 : mSw RL 163 yL_supplyFor cL_supplyFor 5 hhL_supplyFor 4 := ⟨gd_t 809 (by decide +kernel) rfl, gd_t 0 (by decide +kernel) rfl, gd_t 811 (by decide +kernel) rfl, by decide, by decide, by decide +kernel, gd_t 810 (by decide +kernel) rfl⟩
theorem w_L_170 : mSw RL 170 yL_saves cL_saves 4 hhL_saves 3 := ⟨gd_t 816 (by decide +kernel) rfl, gd_t 0 (by decide +kernel) rfl, gd_t 818 (by decide +kernel) rfl, by decide, by decide, by decide +kernel, gd_t 817 (by decide +kernel) rfl⟩
theorem w_L_178 : mSw RL 178 yL_append cL_append 4 hhL_append 3 := ⟨gd_t 823 (by decide +kernel) rfl, gd_t 0 (by decide +kernel) rfl, gd_t 825 (by decide +kernel) rfl, by decide, by decide, by decide +kernel, gd_t 824 (by decide +kernel) rfl⟩
theorem w_L_189 : mSw RL 189 yL_undo cL_undo 3 hhL_undo 2 := ⟨gd_t 835 (by decide +kernel) rfl, gd_t 0 (by decide +kernel) rfl, gd_t 837 (by decide +kernel) rfl, by decide, by decide, by decide +kernel, gd_t 836 (by decide +kernel) rfl⟩
def lwNext (p : Program) (l : Launch) (e : Env) (s : State) (m : MethodId) (args : Array Value) (below : List Frame) (meth : Method) (c : Code) (G : mG) (Q : State → Prop) (b i kk nn : Nat) : Prop :=
  ∀ (M' : Mem) (g' : Glo) (V' : View) (Hs' : List View) (len' : Nat) (T' : Nat → Int32) (kk' nn' : Nat), cINV M' V' Hs' len' T' → rINV M' V' Hs' len' T' → kk' ≤ kk + 6 → nn' ≤ nn + 36 → At p l e room_1 s m args below meth c G 9 kk' nn' Q M' g' [(4, .int (nI i)), (0, .ref b), (1, .ref (mA G 0)), (2, .ref (mA G 107)), (3, .ref (mA G 117))] 1744 []
abbrev lwCtx (l : Launch) (p : Program) (s : State) (m : MethodId) (args : Array Value) (c : Code) (G : mG) (b LL : Nat) (xs : Nat → Int32) : Prop := l.stackTraces = false ∧ mInj G ∧ mCx p s m args c code 9 RL G ∧ va_X b LL xs s s.heap ∧ b < s.heap.size ∧ ¬ mAq G s.heap.size b ∧ LL ≤ 3072
set_option maxRecDepth 20000 in
set_option maxHeartbeats 1000000 in
theorem lw_case_0 {p : Program} {l : Launch} {e : Env} {s : State} {m : MethodId} {args : Array Value} {below : List Frame} {meth : Method} {c : Code} {G : mG} {Q : State → Prop} {b LL : Nat} {xs : Nat → Int32} (X : lwCtx l p s m args c G b LL xs) (M : Mem) (g : Glo) (V : View) (Hs : List View) (len : Nat) (T : Nat → Int32) (hI : cINV M V Hs len T) (hR : rINV M V Hs len T) (i : Nat) (hi : i + 6 ≤ LL) (kk nn : Nat) (hk : kk + 6 ≤ 601024) (hn : nn + 36 ≤ 7293034) (next : lwNext p l e s m args below meth c G Q b i kk nn) : At p l e room_1 s m args below meth c G 9 kk nn Q M g [(4, .int (nI i)), (0, .ref b), (1, .ref (mA G 0)), (2, .ref (mA G 107)), (3, .ref (mA G 117))] 172 [] := by
  obtain ⟨hfl, hG, C, hX, hbl, hbA, hLL⟩ := X
  obtain ⟨hC, hW, hH, hHs, hTx, hP0⟩ := id hI
  refine r_aload_n C dL_law_172 2 rfl ?_
  refine r_aload_n C dL_law_173 1 rfl ?_
  refine r_iload C dL_law_174 0 rfl ?_
  refine r_iconst (v := 1) C dL_law_176 rfl ?_
  refine r_iadd C dL_law_177 ?_
  refine r_valI (y := nI (i + 1)) (nI_add i 1) ?_
  refine r_sldN (j := i + 1) C hX hbl hbA hLL dL_law_178 rfl (by omega) ?_
  refine r_aload_n C dL_law_179 1 rfl ?_
  refine r_iload C dL_law_180 0 rfl ?_
  refine r_iconst (v := 2) C dL_law_182 rfl ?_
  refine r_iadd C dL_law_183 ?_
  refine r_valI (y := nI (i + 2)) (nI_add i 2) ?_
  refine r_sldN (j := i + 2) C hX hbl hbA hLL dL_law_184 rfl (by omega) ?_
  refine r_aload_n C dL_law_185 1 rfl ?_
  refine r_iload C dL_law_186 0 rfl ?_
  refine r_iconst (v := 3) C dL_law_188 rfl ?_
  refine r_iadd C dL_law_189 ?_
  refine r_valI (y := nI (i + 3)) (nI_add i 3) ?_
  refine r_sldN (j := i + 3) C hX hbl hbA hLL dL_law_190 rfl (by omega) ?_
  refine r_aload_n C dL_law_191 1 rfl ?_
  refine r_iload C dL_law_192 0 rfl ?_
  refine r_iconst (v := 4) C dL_law_194 rfl ?_
  refine r_iadd C dL_law_195 ?_
  refine r_valI (y := nI (i + 4)) (nI_add i 4) ?_
  refine r_sldN (j := i + 4) C hX hbl hbA hLL dL_law_196 rfl (by omega) ?_
  refine r_aload_n C dL_law_197 1 rfl ?_
  refine r_iload C dL_law_198 0 rfl ?_
  refine r_iconst (v := 5) C dL_law_200 rfl ?_
  refine r_iadd C dL_law_201 ?_
  refine r_valI (y := nI (i + 5)) (nI_add i 5) ?_
  refine r_sldN (j := i + 5) C hX hbl hbA hLL dL_law_202 rfl (by omega) ?_
  refine r_aload_n C dL_law_203 4 rfl ?_
  refine r_lS (As := [.ref (mA G 0), .int (xs (i + 1)), .int (xs (i + 2)), .int (xs (i + 3)), .int (xs (i + 4)), .int (xs (i + 5)), .ref (mA G 117)]) (rest := []) C dL_law_204 w_L_91 (c_L_addNode l G hG M g hfl V Hs len T hI (xs (i + 1)) (xs (i + 2)) (xs (i + 3)) (xs (i + 4)) (xs (i + 5))) (Nat.le_of_ble_eq_true rfl) (Nat.le_of_ble_eq_true rfl) rfl rfl (Nat.le_of_ble_eq_true rfl) (show kk + 6 ≤ 601024 by omega) (show nn + 36 ≤ 7293034 by omega) (fun r1 M1 g1 hw => ?_)
  have hu := wr_u hw
  have hO1 : offC M M1 := wr_off hw (fun a9 ha => ha.2.2)
  have hR1 : rINV M1 V Hs len T := hR.offC hO1
  refine r_istore (L' := [(5, .int r1), (4, .int (nI i)), (0, .ref b), (1, .ref (mA G 0)), (2, .ref (mA G 107)), (3, .ref (mA G 117))]) C dL_law_207 (by decide) rfl ?_
  refine r_aload_n C dL_law_209 4 rfl ?_
  refine r_aload_n C dL_law_210 2 rfl ?_
  refine r_iload C dL_law_211 1 rfl ?_
  refine r_iconst (v := 1) C dL_law_213 rfl ?_
  refine r_iadd C dL_law_214 ?_
  refine r_valI (y := nI (i + 1)) (nI_add i 1) ?_
  refine r_sldN (j := i + 1) C hX hbl hbA hLL dL_law_215 rfl (by omega) ?_
  refine r_aload_n C dL_law_216 2 rfl ?_
  refine r_iload C dL_law_217 1 rfl ?_
  refine r_iconst (v := 2) C dL_law_219 rfl ?_
  refine r_iadd C dL_law_220 ?_
  refine r_valI (y := nI (i + 2)) (nI_add i 2) ?_
  refine r_sldN (j := i + 2) C hX hbl hbA hLL dL_law_221 rfl (by omega) ?_
  refine r_aload_n C dL_law_222 2 rfl ?_
  refine r_iload C dL_law_223 1 rfl ?_
  refine r_iconst (v := 3) C dL_law_225 rfl ?_
  refine r_iadd C dL_law_226 ?_
  refine r_valI (y := nI (i + 3)) (nI_add i 3) ?_
  refine r_sldN (j := i + 3) C hX hbl hbA hLL dL_law_227 rfl (by omega) ?_
  refine r_aload_n C dL_law_228 2 rfl ?_
  refine r_iload C dL_law_229 1 rfl ?_
  refine r_iconst (v := 4) C dL_law_231 rfl ?_
  refine r_iadd C dL_law_232 ?_
  refine r_valI (y := nI (i + 4)) (nI_add i 4) ?_
  refine r_sldN (j := i + 4) C hX hbl hbA hLL dL_law_233 rfl (by omega) ?_
  refine r_aload_n C dL_law_234 2 rfl ?_
  refine r_iload C dL_law_235 1 rfl ?_
  refine r_iconst (v := 5) C dL_law_237 rfl ?_
  refine r_iadd C dL_law_238 ?_
  refine r_valI (y := nI (i + 5)) (nI_add i 5) ?_
  refine r_sldN (j := i + 5) C hX hbl hbA hLL dL_law_239 rfl (by omega) ?_
  refine r_lVI (As := [.int (xs (i + 1)), .int (xs (i + 2)), .int (xs (i + 3)), .int (xs (i + 4)), .int (xs (i + 5))]) (rest := []) C dL_law_240 s_L_96 (c_X8_addNode l G hG M1 g1 V Hs len T hW hR1 hHs (xs (i + 1)) (xs (i + 2)) (xs (i + 3)) (xs (i + 4)) (xs (i + 5))) (Nat.le_of_ble_eq_true rfl) (Nat.le_of_ble_eq_true rfl) rfl rfl rfl rfl (Nat.le_of_ble_eq_true rfl) (show kk + 6 ≤ 601024 by omega) (show nn + 36 ≤ 7293034 by omega) (fun r2 M2 g2 h2 => ?_)
  obtain ⟨hm, eg2⟩ := h2
  refine r_istore (L' := [(6, .int r2), (5, .int r1), (4, .int (nI i)), (0, .ref b), (1, .ref (mA G 0)), (2, .ref (mA G 107)), (3, .ref (mA G 117))]) C dL_law_243 (by decide) rfl ?_
  refine r_aload_n C dL_law_245 5 rfl ?_
  refine r_lVI (As := []) (rest := []) C dL_law_246 s_L_97 (c_X8_thrown l G hG M2 g2 ) (Nat.le_of_ble_eq_true rfl) (Nat.le_of_ble_eq_true rfl) rfl rfl rfl rfl (Nat.le_of_ble_eq_true rfl) (show kk + 6 ≤ 601024 by omega) (show nn + 36 ≤ 7293034 by omega) (fun r3 M3 g3 h3 => ?_)
  obtain ⟨e3, eM3, eg3⟩ := h3
  rw [eM3]
  refine r_iload C dL_law_249 1 rfl ?_
  refine r_icmp_eq (tgt := 256) C dL_law_251 (by decide) (fun _ => ?_) (fun h => absurd (by rw [e3, hm.1, hu.1]) h)
  refine r_iload C dL_law_256 1 rfl ?_
  refine r_if_ne (tgt := 273) C dL_law_258 (by decide) (fun c258 => ?_) (fun c258 => ?_)
  ·
    have he := fun z => c258 (hu.1.trans (congrArg nI z))
    refine r_goto (tgt := 1744) C dL_law_273 (by decide) ?_
    refine r_sub (L' := [(4, .int (nI i)), (0, .ref b), (1, .ref (mA G 0)), (2, .ref (mA G 107)), (3, .ref (mA G 117))]) [2, 3, 4, 5, 6] rfl ?_
    exact next _ _ _ _ _ _ _ _ (cINV.offM (by rw [(hu.2.2 he).1]; exact hI) hm.2.1) (hm.2.2.2 he) (by omega) (by omega)
  ·
    have he := nI0_of (by unfold eAdd; (repeat' split) <;> omega) (hu.1.symm.trans c258)
    obtain ⟨a9, ha, hg1⟩ := hu.2.1 he
    refine r_aload_n C dL_law_261 6 rfl ?_
    refine r_iconst (v := 0) C dL_law_262 rfl ?_
    refine r_lald C dL_law_263 rfl (vp_in_nI (by decide : 0 < 1) (by decide)) ?_
    refine r_iload C dL_law_264 0 rfl ?_
    refine r_i2l C dL_law_266 ?_
    refine r_lcmpE (by show g3 117 0 = r2.toInt64; rw [eg3, eg2, hg1, gset_at, (hm.2.2.1 he).1, ha.1]) C dL_law_267 ?_
    refine r_if_eq (tgt := 273) C dL_law_268 (by decide) (fun _ => ?_) (fun h => absurd (by decide) h)
    refine r_goto (tgt := 1744) C dL_law_273 (by decide) ?_
    refine r_sub (L' := [(4, .int (nI i)), (0, .ref b), (1, .ref (mA G 0)), (2, .ref (mA G 107)), (3, .ref (mA G 117))]) [2, 3, 4, 5, 6] rfl ?_
    exact next _ _ _ _ _ _ _ _ ((ha.2.1).offM hm.2.1) (hm.2.2.1 he).2 (by omega) (by omega)

set_option maxRecDepth 20000 in
set_option maxHeartbeats 1000000 in
theorem lw_case_1 {p : Program} {l : Launch} {e : Env} {s : State} {m : MethodId} {args : Array Value} {below : List Frame} {meth : Method} {c : Code} {G : mG} {Q : State → Prop} {b LL : Nat} {xs : Nat → Int32} (X : lwCtx l p s m args c G b LL xs) (M : Mem) (g : Glo) (V : View) (Hs : List View) (len : Nat) (T : Nat → Int32) (hI : cINV M V Hs len T) (hR : rINV M V Hs len T) (i : Nat) (hi : i + 6 ≤ LL) (kk nn : Nat) (hk : kk + 6 ≤ 601024) (hn : nn + 36 ≤ 7293034) (next : lwNext p l e s m args below meth c G Q b i kk nn) : At p l e room_1 s m args below meth c G 9 kk nn Q M g [(4, .int (nI i)), (0, .ref b), (1, .ref (mA G 0)), (2, .ref (mA G 107)), (3, .ref (mA G 117))] 276 [] := by
  obtain ⟨hfl, hG, C, hX, hbl, hbA, hLL⟩ := X
  obtain ⟨hC, hW, hH, hHs, hTx, hP0⟩ := id hI
  refine r_aload_n C dL_law_276 2 rfl ?_
  refine r_aload_n C dL_law_277 1 rfl ?_
  refine r_iload C dL_law_278 0 rfl ?_
  refine r_iconst (v := 1) C dL_law_280 rfl ?_
  refine r_iadd C dL_law_281 ?_
  refine r_valI (y := nI (i + 1)) (nI_add i 1) ?_
  refine r_sldN (j := i + 1) C hX hbl hbA hLL dL_law_282 rfl (by omega) ?_
  refine r_aload_n C dL_law_283 1 rfl ?_
  refine r_iload C dL_law_284 0 rfl ?_
  refine r_iconst (v := 2) C dL_law_286 rfl ?_
  refine r_iadd C dL_law_287 ?_
  refine r_valI (y := nI (i + 2)) (nI_add i 2) ?_
  refine r_sldN (j := i + 2) C hX hbl hbA hLL dL_law_288 rfl (by omega) ?_
  refine r_aload_n C dL_law_289 1 rfl ?_
  refine r_iload C dL_law_290 0 rfl ?_
  refine r_iconst (v := 3) C dL_law_292 rfl ?_
  refine r_iadd C dL_law_293 ?_
  refine r_valI (y := nI (i + 3)) (nI_add i 3) ?_
  refine r_sldN (j := i + 3) C hX hbl hbA hLL dL_law_294 rfl (by omega) ?_
  refine r_aload_n C dL_law_295 4 rfl ?_
  refine r_lS (As := [.ref (mA G 0), .int (xs (i + 1)), .int (xs (i + 2)), .int (xs (i + 3)), .ref (mA G 117)]) (rest := []) C dL_law_296 w_L_100 (c_L_setDraw l G hG M g hfl V Hs len T hI (xs (i + 1)) (xs (i + 2)) (xs (i + 3))) (Nat.le_of_ble_eq_true rfl) (Nat.le_of_ble_eq_true rfl) rfl rfl (Nat.le_of_ble_eq_true rfl) (show kk + 3 ≤ 601024 by omega) (show nn + 18 ≤ 7293034 by omega) (fun r1 M1 g1 hw => ?_)
  have hu := wr_u hw
  have hO1 : offC M M1 := wr_off hw (fun a9 ha => ha.2.2)
  have hR1 : rINV M1 V Hs len T := hR.offC hO1
  refine r_istore (L' := [(5, .int r1), (4, .int (nI i)), (0, .ref b), (1, .ref (mA G 0)), (2, .ref (mA G 107)), (3, .ref (mA G 117))]) C dL_law_299 (by decide) rfl ?_
  refine r_aload_n C dL_law_301 4 rfl ?_
  refine r_aload_n C dL_law_302 2 rfl ?_
  refine r_iload C dL_law_303 1 rfl ?_
  refine r_iconst (v := 1) C dL_law_305 rfl ?_
  refine r_iadd C dL_law_306 ?_
  refine r_valI (y := nI (i + 1)) (nI_add i 1) ?_
  refine r_sldN (j := i + 1) C hX hbl hbA hLL dL_law_307 rfl (by omega) ?_
  refine r_aload_n C dL_law_308 2 rfl ?_
  refine r_iload C dL_law_309 1 rfl ?_
  refine r_iconst (v := 2) C dL_law_311 rfl ?_
  refine r_iadd C dL_law_312 ?_
  refine r_valI (y := nI (i + 2)) (nI_add i 2) ?_
  refine r_sldN (j := i + 2) C hX hbl hbA hLL dL_law_313 rfl (by omega) ?_
  refine r_aload_n C dL_law_314 2 rfl ?_
  refine r_iload C dL_law_315 1 rfl ?_
  refine r_iconst (v := 3) C dL_law_317 rfl ?_
  refine r_iadd C dL_law_318 ?_
  refine r_valI (y := nI (i + 3)) (nI_add i 3) ?_
  refine r_sldN (j := i + 3) C hX hbl hbA hLL dL_law_319 rfl (by omega) ?_
  refine r_lVI (As := [.int (xs (i + 1)), .int (xs (i + 2)), .int (xs (i + 3))]) (rest := []) C dL_law_320 s_L_103 (c_X8_setDraw l G hG M1 g1 V Hs len T hW hR1 hHs (xs (i + 1)) (xs (i + 2)) (xs (i + 3))) (Nat.le_of_ble_eq_true rfl) (Nat.le_of_ble_eq_true rfl) rfl rfl rfl rfl (Nat.le_of_ble_eq_true rfl) (show kk + 3 ≤ 601024 by omega) (show nn + 18 ≤ 7293034 by omega) (fun r2 M2 g2 h2 => ?_)
  obtain ⟨hm, eg2⟩ := h2
  refine r_istore (L' := [(6, .int r2), (5, .int r1), (4, .int (nI i)), (0, .ref b), (1, .ref (mA G 0)), (2, .ref (mA G 107)), (3, .ref (mA G 117))]) C dL_law_323 (by decide) rfl ?_
  refine r_aload_n C dL_law_325 5 rfl ?_
  refine r_lVI (As := []) (rest := []) C dL_law_326 s_L_97 (c_X8_thrown l G hG M2 g2 ) (Nat.le_of_ble_eq_true rfl) (Nat.le_of_ble_eq_true rfl) rfl rfl rfl rfl (Nat.le_of_ble_eq_true rfl) (show kk + 3 ≤ 601024 by omega) (show nn + 18 ≤ 7293034 by omega) (fun r3 M3 g3 h3 => ?_)
  obtain ⟨e3, eM3, eg3⟩ := h3
  rw [eM3]
  refine r_iload C dL_law_329 1 rfl ?_
  refine r_icmp_eq (tgt := 336) C dL_law_331 (by decide) (fun _ => ?_) (fun h => absurd (by rw [e3, hm.1, hu.1]) h)
  refine r_iload C dL_law_336 1 rfl ?_
  refine r_if_ne (tgt := 353) C dL_law_338 (by decide) (fun c338 => ?_) (fun c338 => ?_)
  ·
    have he := fun z => c338 (hu.1.trans (congrArg nI z))
    refine r_goto (tgt := 1744) C dL_law_353 (by decide) ?_
    refine r_sub (L' := [(4, .int (nI i)), (0, .ref b), (1, .ref (mA G 0)), (2, .ref (mA G 107)), (3, .ref (mA G 117))]) [2, 3, 4, 5, 6] rfl ?_
    exact next _ _ _ _ _ _ _ _ (cINV.offM (by rw [(hu.2.2 he).1]; exact hI) hm.2.1) (hm.2.2.2 he) (by omega) (by omega)
  ·
    have he := nI0_of (by unfold eDraw; (repeat' split) <;> omega) (hu.1.symm.trans c338)
    obtain ⟨a9, ha, hg1⟩ := hu.2.1 he
    refine r_aload_n C dL_law_341 6 rfl ?_
    refine r_iconst (v := 0) C dL_law_342 rfl ?_
    refine r_lald C dL_law_343 rfl (vp_in_nI (by decide : 0 < 1) (by decide)) ?_
    refine r_iload C dL_law_344 0 rfl ?_
    refine r_i2l C dL_law_346 ?_
    refine r_lcmpE (by show g3 117 0 = r2.toInt64; rw [eg3, eg2, hg1, gset_at, (hm.2.2.1 he).1, ha.1]) C dL_law_347 ?_
    refine r_if_eq (tgt := 353) C dL_law_348 (by decide) (fun _ => ?_) (fun h => absurd (by decide) h)
    refine r_goto (tgt := 1744) C dL_law_353 (by decide) ?_
    refine r_sub (L' := [(4, .int (nI i)), (0, .ref b), (1, .ref (mA G 0)), (2, .ref (mA G 107)), (3, .ref (mA G 117))]) [2, 3, 4, 5, 6] rfl ?_
    exact next _ _ _ _ _ _ _ _ ((ha.2.1).offM hm.2.1) (hm.2.2.1 he).2 (by omega) (by omega)

set_option maxRecDepth 20000 in
set_option maxHeartbeats 1000000 in
theorem lw_case_2 {p : Program} {l : Launch} {e : Env} {s : State} {m : MethodId} {args : Array Value} {below : List Frame} {meth : Method} {c : Code} {G : mG} {Q : State → Prop} {b LL : Nat} {xs : Nat → Int32} (X : lwCtx l p s m args c G b LL xs) (M : Mem) (g : Glo) (V : View) (Hs : List View) (len : Nat) (T : Nat → Int32) (hI : cINV M V Hs len T) (hR : rINV M V Hs len T) (i : Nat) (hi : i + 6 ≤ LL) (kk nn : Nat) (hk : kk + 6 ≤ 601024) (hn : nn + 36 ≤ 7293034) (next : lwNext p l e s m args below meth c G Q b i kk nn) : At p l e room_1 s m args below meth c G 9 kk nn Q M g [(4, .int (nI i)), (0, .ref b), (1, .ref (mA G 0)), (2, .ref (mA G 107)), (3, .ref (mA G 117))] 356 [] := by
  obtain ⟨hfl, hG, C, hX, hbl, hbA, hLL⟩ := X
  obtain ⟨hC, hW, hH, hHs, hTx, hP0⟩ := id hI
  refine r_aload_n C dL_law_356 2 rfl ?_
  refine r_aload_n C dL_law_357 1 rfl ?_
  refine r_iload C dL_law_358 0 rfl ?_
  refine r_iconst (v := 1) C dL_law_360 rfl ?_
  refine r_iadd C dL_law_361 ?_
  refine r_valI (y := nI (i + 1)) (nI_add i 1) ?_
  refine r_sldN (j := i + 1) C hX hbl hbA hLL dL_law_362 rfl (by omega) ?_
  refine r_aload_n C dL_law_363 1 rfl ?_
  refine r_iload C dL_law_364 0 rfl ?_
  refine r_iconst (v := 2) C dL_law_366 rfl ?_
  refine r_iadd C dL_law_367 ?_
  refine r_valI (y := nI (i + 2)) (nI_add i 2) ?_
  refine r_sldN (j := i + 2) C hX hbl hbA hLL dL_law_368 rfl (by omega) ?_
  refine r_aload_n C dL_law_369 4 rfl ?_
  refine r_lS (As := [.ref (mA G 0), .int (xs (i + 1)), .int (xs (i + 2)), .ref (mA G 117)]) (rest := []) C dL_law_370 w_L_104 (c_L_setLeak l G hG M g hfl V Hs len T hI (xs (i + 1)) (xs (i + 2))) (Nat.le_of_ble_eq_true rfl) (Nat.le_of_ble_eq_true rfl) rfl rfl (Nat.le_of_ble_eq_true rfl) (show kk + 2 ≤ 601024 by omega) (show nn + 12 ≤ 7293034 by omega) (fun r1 M1 g1 hw => ?_)
  have hu := wr_u hw
  have hO1 : offC M M1 := wr_off hw (fun a9 ha => ha.2.2)
  have hR1 : rINV M1 V Hs len T := hR.offC hO1
  refine r_istore (L' := [(5, .int r1), (4, .int (nI i)), (0, .ref b), (1, .ref (mA G 0)), (2, .ref (mA G 107)), (3, .ref (mA G 117))]) C dL_law_373 (by decide) rfl ?_
  refine r_aload_n C dL_law_375 4 rfl ?_
  refine r_aload_n C dL_law_376 2 rfl ?_
  refine r_iload C dL_law_377 1 rfl ?_
  refine r_iconst (v := 1) C dL_law_379 rfl ?_
  refine r_iadd C dL_law_380 ?_
  refine r_valI (y := nI (i + 1)) (nI_add i 1) ?_
  refine r_sldN (j := i + 1) C hX hbl hbA hLL dL_law_381 rfl (by omega) ?_
  refine r_aload_n C dL_law_382 2 rfl ?_
  refine r_iload C dL_law_383 1 rfl ?_
  refine r_iconst (v := 2) C dL_law_385 rfl ?_
  refine r_iadd C dL_law_386 ?_
  refine r_valI (y := nI (i + 2)) (nI_add i 2) ?_
  refine r_sldN (j := i + 2) C hX hbl hbA hLL dL_law_387 rfl (by omega) ?_
  refine r_lVI (As := [.int (xs (i + 1)), .int (xs (i + 2))]) (rest := []) C dL_law_388 s_L_107 (c_X8_setLeak l G hG M1 g1 V Hs len T hW hR1 hHs (xs (i + 1)) (xs (i + 2))) (Nat.le_of_ble_eq_true rfl) (Nat.le_of_ble_eq_true rfl) rfl rfl rfl rfl (Nat.le_of_ble_eq_true rfl) (show kk + 2 ≤ 601024 by omega) (show nn + 12 ≤ 7293034 by omega) (fun r2 M2 g2 h2 => ?_)
  obtain ⟨hm, eg2⟩ := h2
  refine r_istore (L' := [(6, .int r2), (5, .int r1), (4, .int (nI i)), (0, .ref b), (1, .ref (mA G 0)), (2, .ref (mA G 107)), (3, .ref (mA G 117))]) C dL_law_391 (by decide) rfl ?_
  refine r_aload_n C dL_law_393 5 rfl ?_
  refine r_lVI (As := []) (rest := []) C dL_law_394 s_L_97 (c_X8_thrown l G hG M2 g2 ) (Nat.le_of_ble_eq_true rfl) (Nat.le_of_ble_eq_true rfl) rfl rfl rfl rfl (Nat.le_of_ble_eq_true rfl) (show kk + 2 ≤ 601024 by omega) (show nn + 12 ≤ 7293034 by omega) (fun r3 M3 g3 h3 => ?_)
  obtain ⟨e3, eM3, eg3⟩ := h3
  rw [eM3]
  refine r_iload C dL_law_397 1 rfl ?_
  refine r_icmp_eq (tgt := 404) C dL_law_399 (by decide) (fun _ => ?_) (fun h => absurd (by rw [e3, hm.1, hu.1]) h)
  refine r_iload C dL_law_404 1 rfl ?_
  refine r_if_ne (tgt := 421) C dL_law_406 (by decide) (fun c406 => ?_) (fun c406 => ?_)
  ·
    have he := fun z => c406 (hu.1.trans (congrArg nI z))
    refine r_goto (tgt := 1744) C dL_law_421 (by decide) ?_
    refine r_sub (L' := [(4, .int (nI i)), (0, .ref b), (1, .ref (mA G 0)), (2, .ref (mA G 107)), (3, .ref (mA G 117))]) [2, 3, 4, 5, 6] rfl ?_
    exact next _ _ _ _ _ _ _ _ (cINV.offM (by rw [(hu.2.2 he).1]; exact hI) hm.2.1) (hm.2.2.2 he) (by omega) (by omega)
  ·
    have he := nI0_of (by unfold eLeak; (repeat' split) <;> omega) (hu.1.symm.trans c406)
    obtain ⟨a9, ha, hg1⟩ := hu.2.1 he
    refine r_aload_n C dL_law_409 6 rfl ?_
    refine r_iconst (v := 0) C dL_law_410 rfl ?_
    refine r_lald C dL_law_411 rfl (vp_in_nI (by decide : 0 < 1) (by decide)) ?_
    refine r_iload C dL_law_412 0 rfl ?_
    refine r_i2l C dL_law_414 ?_
    refine r_lcmpE (by show g3 117 0 = r2.toInt64; rw [eg3, eg2, hg1, gset_at, (hm.2.2.1 he).1, ha.1]) C dL_law_415 ?_
    refine r_if_eq (tgt := 421) C dL_law_416 (by decide) (fun _ => ?_) (fun h => absurd (by decide) h)
    refine r_goto (tgt := 1744) C dL_law_421 (by decide) ?_
    refine r_sub (L' := [(4, .int (nI i)), (0, .ref b), (1, .ref (mA G 0)), (2, .ref (mA G 107)), (3, .ref (mA G 117))]) [2, 3, 4, 5, 6] rfl ?_
    exact next _ _ _ _ _ _ _ _ ((ha.2.1).offM hm.2.1) (hm.2.2.1 he).2 (by omega) (by omega)

set_option maxRecDepth 20000 in
set_option maxHeartbeats 1000000 in
theorem lw_case_3 {p : Program} {l : Launch} {e : Env} {s : State} {m : MethodId} {args : Array Value} {below : List Frame} {meth : Method} {c : Code} {G : mG} {Q : State → Prop} {b LL : Nat} {xs : Nat → Int32} (X : lwCtx l p s m args c G b LL xs) (M : Mem) (g : Glo) (V : View) (Hs : List View) (len : Nat) (T : Nat → Int32) (hI : cINV M V Hs len T) (hR : rINV M V Hs len T) (i : Nat) (hi : i + 6 ≤ LL) (kk nn : Nat) (hk : kk + 6 ≤ 601024) (hn : nn + 36 ≤ 7293034) (next : lwNext p l e s m args below meth c G Q b i kk nn) : At p l e room_1 s m args below meth c G 9 kk nn Q M g [(4, .int (nI i)), (0, .ref b), (1, .ref (mA G 0)), (2, .ref (mA G 107)), (3, .ref (mA G 117))] 424 [] := by
  obtain ⟨hfl, hG, C, hX, hbl, hbA, hLL⟩ := X
  obtain ⟨hC, hW, hH, hHs, hTx, hP0⟩ := id hI
  refine r_aload_n C dL_law_424 2 rfl ?_
  refine r_aload_n C dL_law_425 1 rfl ?_
  refine r_iload C dL_law_426 0 rfl ?_
  refine r_iconst (v := 1) C dL_law_428 rfl ?_
  refine r_iadd C dL_law_429 ?_
  refine r_valI (y := nI (i + 1)) (nI_add i 1) ?_
  refine r_sldN (j := i + 1) C hX hbl hbA hLL dL_law_430 rfl (by omega) ?_
  refine r_aload_n C dL_law_431 1 rfl ?_
  refine r_iload C dL_law_432 0 rfl ?_
  refine r_iconst (v := 2) C dL_law_434 rfl ?_
  refine r_iadd C dL_law_435 ?_
  refine r_valI (y := nI (i + 2)) (nI_add i 2) ?_
  refine r_sldN (j := i + 2) C hX hbl hbA hLL dL_law_436 rfl (by omega) ?_
  refine r_aload_n C dL_law_437 4 rfl ?_
  refine r_lS (As := [.ref (mA G 0), .int (xs (i + 1)), .int (xs (i + 2)), .ref (mA G 117)]) (rest := []) C dL_law_438 w_L_108 (c_L_setTemperatures l G hG M g hfl V Hs len T hI (xs (i + 1)) (xs (i + 2))) (Nat.le_of_ble_eq_true rfl) (Nat.le_of_ble_eq_true rfl) rfl rfl (Nat.le_of_ble_eq_true rfl) (show kk + 2 ≤ 601024 by omega) (show nn + 12 ≤ 7293034 by omega) (fun r1 M1 g1 hw => ?_)
  have hu := wr_u hw
  have hO1 : offC M M1 := wr_off hw (fun a9 ha => ha.2.2)
  have hR1 : rINV M1 V Hs len T := hR.offC hO1
  refine r_istore (L' := [(5, .int r1), (4, .int (nI i)), (0, .ref b), (1, .ref (mA G 0)), (2, .ref (mA G 107)), (3, .ref (mA G 117))]) C dL_law_441 (by decide) rfl ?_
  refine r_aload_n C dL_law_443 4 rfl ?_
  refine r_aload_n C dL_law_444 2 rfl ?_
  refine r_iload C dL_law_445 1 rfl ?_
  refine r_iconst (v := 1) C dL_law_447 rfl ?_
  refine r_iadd C dL_law_448 ?_
  refine r_valI (y := nI (i + 1)) (nI_add i 1) ?_
  refine r_sldN (j := i + 1) C hX hbl hbA hLL dL_law_449 rfl (by omega) ?_
  refine r_aload_n C dL_law_450 2 rfl ?_
  refine r_iload C dL_law_451 1 rfl ?_
  refine r_iconst (v := 2) C dL_law_453 rfl ?_
  refine r_iadd C dL_law_454 ?_
  refine r_valI (y := nI (i + 2)) (nI_add i 2) ?_
  refine r_sldN (j := i + 2) C hX hbl hbA hLL dL_law_455 rfl (by omega) ?_
  refine r_lVI (As := [.int (xs (i + 1)), .int (xs (i + 2))]) (rest := []) C dL_law_456 s_L_110 (c_X8_setTemperatures l G hG M1 g1 V Hs len T hW hR1 hHs (xs (i + 1)) (xs (i + 2))) (Nat.le_of_ble_eq_true rfl) (Nat.le_of_ble_eq_true rfl) rfl rfl rfl rfl (Nat.le_of_ble_eq_true rfl) (show kk + 2 ≤ 601024 by omega) (show nn + 12 ≤ 7293034 by omega) (fun r2 M2 g2 h2 => ?_)
  obtain ⟨hm, eg2⟩ := h2
  refine r_istore (L' := [(6, .int r2), (5, .int r1), (4, .int (nI i)), (0, .ref b), (1, .ref (mA G 0)), (2, .ref (mA G 107)), (3, .ref (mA G 117))]) C dL_law_459 (by decide) rfl ?_
  refine r_aload_n C dL_law_461 5 rfl ?_
  refine r_lVI (As := []) (rest := []) C dL_law_462 s_L_97 (c_X8_thrown l G hG M2 g2 ) (Nat.le_of_ble_eq_true rfl) (Nat.le_of_ble_eq_true rfl) rfl rfl rfl rfl (Nat.le_of_ble_eq_true rfl) (show kk + 2 ≤ 601024 by omega) (show nn + 12 ≤ 7293034 by omega) (fun r3 M3 g3 h3 => ?_)
  obtain ⟨e3, eM3, eg3⟩ := h3
  rw [eM3]
  refine r_iload C dL_law_465 1 rfl ?_
  refine r_icmp_eq (tgt := 472) C dL_law_467 (by decide) (fun _ => ?_) (fun h => absurd (by rw [e3, hm.1, hu.1]) h)
  refine r_iload C dL_law_472 1 rfl ?_
  refine r_if_ne (tgt := 489) C dL_law_474 (by decide) (fun c474 => ?_) (fun c474 => ?_)
  ·
    have he := fun z => c474 (hu.1.trans (congrArg nI z))
    refine r_goto (tgt := 1744) C dL_law_489 (by decide) ?_
    refine r_sub (L' := [(4, .int (nI i)), (0, .ref b), (1, .ref (mA G 0)), (2, .ref (mA G 107)), (3, .ref (mA G 117))]) [2, 3, 4, 5, 6] rfl ?_
    exact next _ _ _ _ _ _ _ _ (cINV.offM (by rw [(hu.2.2 he).1]; exact hI) hm.2.1) (hm.2.2.2 he) (by omega) (by omega)
  ·
    have he := nI0_of (by unfold eTemp; (repeat' split) <;> omega) (hu.1.symm.trans c474)
    obtain ⟨a9, ha, hg1⟩ := hu.2.1 he
    refine r_aload_n C dL_law_477 6 rfl ?_
    refine r_iconst (v := 0) C dL_law_478 rfl ?_
    refine r_lald C dL_law_479 rfl (vp_in_nI (by decide : 0 < 1) (by decide)) ?_
    refine r_iload C dL_law_480 0 rfl ?_
    refine r_i2l C dL_law_482 ?_
    refine r_lcmpE (by show g3 117 0 = r2.toInt64; rw [eg3, eg2, hg1, gset_at, (hm.2.2.1 he).1, ha.1]) C dL_law_483 ?_
    refine r_if_eq (tgt := 489) C dL_law_484 (by decide) (fun _ => ?_) (fun h => absurd (by decide) h)
    refine r_goto (tgt := 1744) C dL_law_489 (by decide) ?_
    refine r_sub (L' := [(4, .int (nI i)), (0, .ref b), (1, .ref (mA G 0)), (2, .ref (mA G 107)), (3, .ref (mA G 117))]) [2, 3, 4, 5, 6] rfl ?_
    exact next _ _ _ _ _ _ _ _ ((ha.2.1).offM hm.2.1) (hm.2.2.1 he).2 (by omega) (by omega)

set_option maxRecDepth 20000 in
set_option maxHeartbeats 1000000 in
theorem lw_case_4 {p : Program} {l : Launch} {e : Env} {s : State} {m : MethodId} {args : Array Value} {below : List Frame} {meth : Method} {c : Code} {G : mG} {Q : State → Prop} {b LL : Nat} {xs : Nat → Int32} (X : lwCtx l p s m args c G b LL xs) (M : Mem) (g : Glo) (V : View) (Hs : List View) (len : Nat) (T : Nat → Int32) (hI : cINV M V Hs len T) (hR : rINV M V Hs len T) (i : Nat) (hi : i + 6 ≤ LL) (kk nn : Nat) (hk : kk + 6 ≤ 601024) (hn : nn + 36 ≤ 7293034) (next : lwNext p l e s m args below meth c G Q b i kk nn) : At p l e room_1 s m args below meth c G 9 kk nn Q M g [(4, .int (nI i)), (0, .ref b), (1, .ref (mA G 0)), (2, .ref (mA G 107)), (3, .ref (mA G 117))] 492 [] := by
  obtain ⟨hfl, hG, C, hX, hbl, hbA, hLL⟩ := X
  obtain ⟨hC, hW, hH, hHs, hTx, hP0⟩ := id hI
  refine r_aload_n C dL_law_492 2 rfl ?_
  refine r_aload_n C dL_law_493 1 rfl ?_
  refine r_iload C dL_law_494 0 rfl ?_
  refine r_iconst (v := 1) C dL_law_496 rfl ?_
  refine r_iadd C dL_law_497 ?_
  refine r_valI (y := nI (i + 1)) (nI_add i 1) ?_
  refine r_sldN (j := i + 1) C hX hbl hbA hLL dL_law_498 rfl (by omega) ?_
  refine r_aload_n C dL_law_499 1 rfl ?_
  refine r_iload C dL_law_500 0 rfl ?_
  refine r_iconst (v := 2) C dL_law_502 rfl ?_
  refine r_iadd C dL_law_503 ?_
  refine r_valI (y := nI (i + 2)) (nI_add i 2) ?_
  refine r_sldN (j := i + 2) C hX hbl hbA hLL dL_law_504 rfl (by omega) ?_
  refine r_aload_n C dL_law_505 4 rfl ?_
  refine r_lS (As := [.ref (mA G 0), .int (xs (i + 1)), .int (xs (i + 2)), .ref (mA G 117)]) (rest := []) C dL_law_506 w_L_111 (c_L_node l G hG M g hfl V Hs len T hI (xs (i + 1)) (xs (i + 2))) (Nat.le_of_ble_eq_true rfl) (Nat.le_of_ble_eq_true rfl) rfl rfl (Nat.le_of_ble_eq_true rfl) (show kk + 2 ≤ 601024 by omega) (show nn + 12 ≤ 7293034 by omega) (fun r1 M1 g1 hw => ?_)
  have hu := wr_u hw
  have hO1 : offC M M1 := wr_off hw (fun a9 ha => ha.2 ▸ offR.rf M 0 106)
  have hR1 : rINV M1 V Hs len T := hR.offC hO1
  refine r_istore (L' := [(5, .int r1), (4, .int (nI i)), (0, .ref b), (1, .ref (mA G 0)), (2, .ref (mA G 107)), (3, .ref (mA G 117))]) C dL_law_509 (by decide) rfl ?_
  refine r_aload_n C dL_law_511 4 rfl ?_
  refine r_aload_n C dL_law_512 2 rfl ?_
  refine r_iload C dL_law_513 1 rfl ?_
  refine r_iconst (v := 1) C dL_law_515 rfl ?_
  refine r_iadd C dL_law_516 ?_
  refine r_valI (y := nI (i + 1)) (nI_add i 1) ?_
  refine r_sldN (j := i + 1) C hX hbl hbA hLL dL_law_517 rfl (by omega) ?_
  refine r_aload_n C dL_law_518 2 rfl ?_
  refine r_iload C dL_law_519 1 rfl ?_
  refine r_iconst (v := 2) C dL_law_521 rfl ?_
  refine r_iadd C dL_law_522 ?_
  refine r_valI (y := nI (i + 2)) (nI_add i 2) ?_
  refine r_sldN (j := i + 2) C hX hbl hbA hLL dL_law_523 rfl (by omega) ?_
  refine r_lVI (As := [.int (xs (i + 1)), .int (xs (i + 2))]) (rest := []) C dL_law_524 s_L_113 (c_X8_node l G hG M1 g1 V Hs len T hW hR1 (xs (i + 1)) (xs (i + 2))) (Nat.le_of_ble_eq_true rfl) (Nat.le_of_ble_eq_true rfl) rfl rfl rfl rfl (Nat.le_of_ble_eq_true rfl) (show kk + 2 ≤ 601024 by omega) (show nn + 12 ≤ 7293034 by omega) (fun r2 M2 g2 h2 => ?_)
  obtain ⟨hm, eg2⟩ := h2
  refine r_istore (L' := [(6, .int r2), (5, .int r1), (4, .int (nI i)), (0, .ref b), (1, .ref (mA G 0)), (2, .ref (mA G 107)), (3, .ref (mA G 117))]) C dL_law_527 (by decide) rfl ?_
  refine r_aload_n C dL_law_529 5 rfl ?_
  refine r_lVI (As := []) (rest := []) C dL_law_530 s_L_97 (c_X8_thrown l G hG M2 g2 ) (Nat.le_of_ble_eq_true rfl) (Nat.le_of_ble_eq_true rfl) rfl rfl rfl rfl (Nat.le_of_ble_eq_true rfl) (show kk + 2 ≤ 601024 by omega) (show nn + 12 ≤ 7293034 by omega) (fun r3 M3 g3 h3 => ?_)
  obtain ⟨e3, eM3, eg3⟩ := h3
  rw [eM3]
  refine r_iload C dL_law_533 1 rfl ?_
  refine r_icmp_eq (tgt := 540) C dL_law_535 (by decide) (fun _ => ?_) (fun h => absurd (by rw [e3, hm.1, hu.1]) h)
  refine r_iload C dL_law_540 1 rfl ?_
  refine r_if_ne (tgt := 557) C dL_law_542 (by decide) (fun c542 => ?_) (fun c542 => ?_)
  ·
    have he := fun z => c542 (hu.1.trans (congrArg nI z))
    refine r_goto (tgt := 1744) C dL_law_557 (by decide) ?_
    refine r_sub (L' := [(4, .int (nI i)), (0, .ref b), (1, .ref (mA G 0)), (2, .ref (mA G 107)), (3, .ref (mA G 117))]) [2, 3, 4, 5, 6] rfl ?_
    exact next _ _ _ _ _ _ _ _ (cINV.offM (by rw [(hu.2.2 he).1]; exact hI) hm.2.1) (hm.2.2.2 he) (by omega) (by omega)
  ·
    have he := nI0_of (by unfold eNode; (repeat' split) <;> omega) (hu.1.symm.trans c542)
    obtain ⟨a9, ha, hg1⟩ := hu.2.1 he
    refine r_aload_n C dL_law_545 6 rfl ?_
    refine r_iconst (v := 0) C dL_law_546 rfl ?_
    refine r_lald C dL_law_547 rfl (vp_in_nI (by decide : 0 < 1) (by decide)) ?_
    refine r_iload C dL_law_548 0 rfl ?_
    refine r_i2l C dL_law_550 ?_
    refine r_lcmpE (by show g3 117 0 = r2.toInt64; rw [eg3, eg2, hg1, gset_at, (hm.2.2.1 he).1, ha.1]) C dL_law_551 ?_
    refine r_if_eq (tgt := 557) C dL_law_552 (by decide) (fun _ => ?_) (fun h => absurd (by decide) h)
    refine r_goto (tgt := 1744) C dL_law_557 (by decide) ?_
    refine r_sub (L' := [(4, .int (nI i)), (0, .ref b), (1, .ref (mA G 0)), (2, .ref (mA G 107)), (3, .ref (mA G 117))]) [2, 3, 4, 5, 6] rfl ?_
    exact next _ _ _ _ _ _ _ _ ((show cINV M1 V Hs len T by rw [ha.2]; exact hI).offM hm.2.1) (hm.2.2.1 he).2 (by omega) (by omega)

set_option maxRecDepth 20000 in
set_option maxHeartbeats 1000000 in
theorem lw_case_5 {p : Program} {l : Launch} {e : Env} {s : State} {m : MethodId} {args : Array Value} {below : List Frame} {meth : Method} {c : Code} {G : mG} {Q : State → Prop} {b LL : Nat} {xs : Nat → Int32} (X : lwCtx l p s m args c G b LL xs) (M : Mem) (g : Glo) (V : View) (Hs : List View) (len : Nat) (T : Nat → Int32) (hI : cINV M V Hs len T) (hR : rINV M V Hs len T) (i : Nat) (hi : i + 6 ≤ LL) (kk nn : Nat) (hk : kk + 6 ≤ 601024) (hn : nn + 36 ≤ 7293034) (next : lwNext p l e s m args below meth c G Q b i kk nn) : At p l e room_1 s m args below meth c G 9 kk nn Q M g [(4, .int (nI i)), (0, .ref b), (1, .ref (mA G 0)), (2, .ref (mA G 107)), (3, .ref (mA G 117))] 560 [] := by
  obtain ⟨hfl, hG, C, hX, hbl, hbA, hLL⟩ := X
  obtain ⟨hC, hW, hH, hHs, hTx, hP0⟩ := id hI
  refine r_aload_n C dL_law_560 2 rfl ?_
  refine r_aload_n C dL_law_561 1 rfl ?_
  refine r_iload C dL_law_562 0 rfl ?_
  refine r_iconst (v := 1) C dL_law_564 rfl ?_
  refine r_iadd C dL_law_565 ?_
  refine r_valI (y := nI (i + 1)) (nI_add i 1) ?_
  refine r_sldN (j := i + 1) C hX hbl hbA hLL dL_law_566 rfl (by omega) ?_
  refine r_aload_n C dL_law_567 1 rfl ?_
  refine r_iload C dL_law_568 0 rfl ?_
  refine r_iconst (v := 2) C dL_law_570 rfl ?_
  refine r_iadd C dL_law_571 ?_
  refine r_valI (y := nI (i + 2)) (nI_add i 2) ?_
  refine r_sldN (j := i + 2) C hX hbl hbA hLL dL_law_572 rfl (by omega) ?_
  refine r_aload_n C dL_law_573 4 rfl ?_
  refine r_lS (As := [.ref (mA G 0), .int (xs (i + 1)), .int (xs (i + 2)), .ref (mA G 117)]) (rest := []) C dL_law_574 w_L_114 (c_L_heat l G hG M g hfl V Hs len T hI (xs (i + 1)) (xs (i + 2))) (Nat.le_of_ble_eq_true rfl) (Nat.le_of_ble_eq_true rfl) rfl rfl (Nat.le_of_ble_eq_true rfl) (show kk + 2 ≤ 601024 by omega) (show nn + 12 ≤ 7293034 by omega) (fun r1 M1 g1 hw => ?_)
  have hu := wr_u hw
  have hO1 : offC M M1 := wr_off hw (fun a9 ha => ha.2 ▸ offR.rf M 0 106)
  have hR1 : rINV M1 V Hs len T := hR.offC hO1
  refine r_istore (L' := [(5, .int r1), (4, .int (nI i)), (0, .ref b), (1, .ref (mA G 0)), (2, .ref (mA G 107)), (3, .ref (mA G 117))]) C dL_law_577 (by decide) rfl ?_
  refine r_aload_n C dL_law_579 4 rfl ?_
  refine r_aload_n C dL_law_580 2 rfl ?_
  refine r_iload C dL_law_581 1 rfl ?_
  refine r_iconst (v := 1) C dL_law_583 rfl ?_
  refine r_iadd C dL_law_584 ?_
  refine r_valI (y := nI (i + 1)) (nI_add i 1) ?_
  refine r_sldN (j := i + 1) C hX hbl hbA hLL dL_law_585 rfl (by omega) ?_
  refine r_aload_n C dL_law_586 2 rfl ?_
  refine r_iload C dL_law_587 1 rfl ?_
  refine r_iconst (v := 2) C dL_law_589 rfl ?_
  refine r_iadd C dL_law_590 ?_
  refine r_valI (y := nI (i + 2)) (nI_add i 2) ?_
  refine r_sldN (j := i + 2) C hX hbl hbA hLL dL_law_591 rfl (by omega) ?_
  refine r_lVI (As := [.int (xs (i + 1)), .int (xs (i + 2))]) (rest := []) C dL_law_592 s_L_116 (c_X8_heat l G hG M1 g1 V Hs len T hW hR1 (xs (i + 1)) (xs (i + 2))) (Nat.le_of_ble_eq_true rfl) (Nat.le_of_ble_eq_true rfl) rfl rfl rfl rfl (Nat.le_of_ble_eq_true rfl) (show kk + 2 ≤ 601024 by omega) (show nn + 12 ≤ 7293034 by omega) (fun r2 M2 g2 h2 => ?_)
  obtain ⟨hm, eg2⟩ := h2
  refine r_istore (L' := [(6, .int r2), (5, .int r1), (4, .int (nI i)), (0, .ref b), (1, .ref (mA G 0)), (2, .ref (mA G 107)), (3, .ref (mA G 117))]) C dL_law_595 (by decide) rfl ?_
  refine r_aload_n C dL_law_597 5 rfl ?_
  refine r_lVI (As := []) (rest := []) C dL_law_598 s_L_97 (c_X8_thrown l G hG M2 g2 ) (Nat.le_of_ble_eq_true rfl) (Nat.le_of_ble_eq_true rfl) rfl rfl rfl rfl (Nat.le_of_ble_eq_true rfl) (show kk + 2 ≤ 601024 by omega) (show nn + 12 ≤ 7293034 by omega) (fun r3 M3 g3 h3 => ?_)
  obtain ⟨e3, eM3, eg3⟩ := h3
  rw [eM3]
  refine r_iload C dL_law_601 1 rfl ?_
  refine r_icmp_eq (tgt := 608) C dL_law_603 (by decide) (fun _ => ?_) (fun h => absurd (by rw [e3, hm.1, hu.1]) h)
  refine r_iload C dL_law_608 1 rfl ?_
  refine r_if_ne (tgt := 625) C dL_law_610 (by decide) (fun c610 => ?_) (fun c610 => ?_)
  ·
    have he := fun z => c610 (hu.1.trans (congrArg nI z))
    refine r_goto (tgt := 1744) C dL_law_625 (by decide) ?_
    refine r_sub (L' := [(4, .int (nI i)), (0, .ref b), (1, .ref (mA G 0)), (2, .ref (mA G 107)), (3, .ref (mA G 117))]) [2, 3, 4, 5, 6] rfl ?_
    exact next _ _ _ _ _ _ _ _ (cINV.offM (by rw [(hu.2.2 he).1]; exact hI) hm.2.1) (hm.2.2.2 he) (by omega) (by omega)
  ·
    have he := nI0_of (by unfold eHeat; (repeat' split) <;> omega) (hu.1.symm.trans c610)
    obtain ⟨a9, ha, hg1⟩ := hu.2.1 he
    refine r_aload_n C dL_law_613 6 rfl ?_
    refine r_iconst (v := 0) C dL_law_614 rfl ?_
    refine r_lald C dL_law_615 rfl (vp_in_nI (by decide : 0 < 1) (by decide)) ?_
    refine r_iload C dL_law_616 0 rfl ?_
    refine r_i2l C dL_law_618 ?_
    refine r_lcmpE (by show g3 117 0 = r2.toInt64; rw [eg3, eg2, hg1, gset_at, (hm.2.2.1 he).1, ha.1]) C dL_law_619 ?_
    refine r_if_eq (tgt := 625) C dL_law_620 (by decide) (fun _ => ?_) (fun h => absurd (by decide) h)
    refine r_goto (tgt := 1744) C dL_law_625 (by decide) ?_
    refine r_sub (L' := [(4, .int (nI i)), (0, .ref b), (1, .ref (mA G 0)), (2, .ref (mA G 107)), (3, .ref (mA G 117))]) [2, 3, 4, 5, 6] rfl ?_
    exact next _ _ _ _ _ _ _ _ ((show cINV M1 V Hs len T by rw [ha.2]; exact hI).offM hm.2.1) (hm.2.2.1 he).2 (by omega) (by omega)

set_option maxRecDepth 20000 in
set_option maxHeartbeats 1000000 in
theorem lw_case_6 {p : Program} {l : Launch} {e : Env} {s : State} {m : MethodId} {args : Array Value} {below : List Frame} {meth : Method} {c : Code} {G : mG} {Q : State → Prop} {b LL : Nat} {xs : Nat → Int32} (X : lwCtx l p s m args c G b LL xs) (M : Mem) (g : Glo) (V : View) (Hs : List View) (len : Nat) (T : Nat → Int32) (hI : cINV M V Hs len T) (hR : rINV M V Hs len T) (i : Nat) (hi : i + 6 ≤ LL) (kk nn : Nat) (hk : kk + 6 ≤ 601024) (hn : nn + 36 ≤ 7293034) (next : lwNext p l e s m args below meth c G Q b i kk nn) : At p l e room_1 s m args below meth c G 9 kk nn Q M g [(4, .int (nI i)), (0, .ref b), (1, .ref (mA G 0)), (2, .ref (mA G 107)), (3, .ref (mA G 117))] 628 [] := by
  obtain ⟨hfl, hG, C, hX, hbl, hbA, hLL⟩ := X
  obtain ⟨hC, hW, hH, hHs, hTx, hP0⟩ := id hI
  refine r_aload_n C dL_law_628 2 rfl ?_
  refine r_aload_n C dL_law_629 1 rfl ?_
  refine r_iload C dL_law_630 0 rfl ?_
  refine r_iconst (v := 1) C dL_law_632 rfl ?_
  refine r_iadd C dL_law_633 ?_
  refine r_valI (y := nI (i + 1)) (nI_add i 1) ?_
  refine r_sldN (j := i + 1) C hX hbl hbA hLL dL_law_634 rfl (by omega) ?_
  refine r_aload_n C dL_law_635 4 rfl ?_
  refine r_lS (As := [.ref (mA G 0), .int (xs (i + 1)), .ref (mA G 117)]) (rest := []) C dL_law_636 w_L_117 (c_L_value l G hG M g hfl V Hs len T hI (xs (i + 1))) (Nat.le_of_ble_eq_true rfl) (Nat.le_of_ble_eq_true rfl) rfl rfl (Nat.le_of_ble_eq_true rfl) (show kk + 1 ≤ 601024 by omega) (show nn + 6 ≤ 7293034 by omega) (fun r1 M1 g1 hw => ?_)
  have hu := wr_u hw
  have hO1 : offC M M1 := wr_off hw (fun a9 ha => ha.2 ▸ offR.rf M 0 106)
  have hR1 : rINV M1 V Hs len T := hR.offC hO1
  refine r_istore (L' := [(5, .int r1), (4, .int (nI i)), (0, .ref b), (1, .ref (mA G 0)), (2, .ref (mA G 107)), (3, .ref (mA G 117))]) C dL_law_639 (by decide) rfl ?_
  refine r_aload_n C dL_law_641 4 rfl ?_
  refine r_aload_n C dL_law_642 2 rfl ?_
  refine r_iload C dL_law_643 1 rfl ?_
  refine r_iconst (v := 1) C dL_law_645 rfl ?_
  refine r_iadd C dL_law_646 ?_
  refine r_valI (y := nI (i + 1)) (nI_add i 1) ?_
  refine r_sldN (j := i + 1) C hX hbl hbA hLL dL_law_647 rfl (by omega) ?_
  refine r_lVI (As := [.int (xs (i + 1))]) (rest := []) C dL_law_648 s_L_120 (c_X8_value l G hG M1 g1 V Hs len T hW hR1 (xs (i + 1))) (Nat.le_of_ble_eq_true rfl) (Nat.le_of_ble_eq_true rfl) rfl rfl rfl rfl (Nat.le_of_ble_eq_true rfl) (show kk + 1 ≤ 601024 by omega) (show nn + 6 ≤ 7293034 by omega) (fun r2 M2 g2 h2 => ?_)
  obtain ⟨hm, eg2⟩ := h2
  refine r_istore (L' := [(6, .int r2), (5, .int r1), (4, .int (nI i)), (0, .ref b), (1, .ref (mA G 0)), (2, .ref (mA G 107)), (3, .ref (mA G 117))]) C dL_law_651 (by decide) rfl ?_
  refine r_aload_n C dL_law_653 5 rfl ?_
  refine r_lVI (As := []) (rest := []) C dL_law_654 s_L_97 (c_X8_thrown l G hG M2 g2 ) (Nat.le_of_ble_eq_true rfl) (Nat.le_of_ble_eq_true rfl) rfl rfl rfl rfl (Nat.le_of_ble_eq_true rfl) (show kk + 1 ≤ 601024 by omega) (show nn + 6 ≤ 7293034 by omega) (fun r3 M3 g3 h3 => ?_)
  obtain ⟨e3, eM3, eg3⟩ := h3
  rw [eM3]
  refine r_iload C dL_law_657 1 rfl ?_
  refine r_icmp_eq (tgt := 664) C dL_law_659 (by decide) (fun _ => ?_) (fun h => absurd (by rw [e3, hm.1, hu.1]) h)
  refine r_iload C dL_law_664 1 rfl ?_
  refine r_if_ne (tgt := 681) C dL_law_666 (by decide) (fun c666 => ?_) (fun c666 => ?_)
  ·
    have he := fun z => c666 (hu.1.trans (congrArg nI z))
    refine r_goto (tgt := 1744) C dL_law_681 (by decide) ?_
    refine r_sub (L' := [(4, .int (nI i)), (0, .ref b), (1, .ref (mA G 0)), (2, .ref (mA G 107)), (3, .ref (mA G 117))]) [2, 3, 4, 5, 6] rfl ?_
    exact next _ _ _ _ _ _ _ _ (cINV.offM (by rw [(hu.2.2 he).1]; exact hI) hm.2.1) (hm.2.2.2 he) (by omega) (by omega)
  ·
    have he := nI0_of (by unfold eIn; (repeat' split) <;> omega) (hu.1.symm.trans c666)
    obtain ⟨a9, ha, hg1⟩ := hu.2.1 he
    refine r_aload_n C dL_law_669 6 rfl ?_
    refine r_iconst (v := 0) C dL_law_670 rfl ?_
    refine r_lald C dL_law_671 rfl (vp_in_nI (by decide : 0 < 1) (by decide)) ?_
    refine r_iload C dL_law_672 0 rfl ?_
    refine r_i2l C dL_law_674 ?_
    refine r_lcmpE (by show g3 117 0 = r2.toInt64; rw [eg3, eg2, hg1, gset_at, (hm.2.2.1 he).1, ha.1]) C dL_law_675 ?_
    refine r_if_eq (tgt := 681) C dL_law_676 (by decide) (fun _ => ?_) (fun h => absurd (by decide) h)
    refine r_goto (tgt := 1744) C dL_law_681 (by decide) ?_
    refine r_sub (L' := [(4, .int (nI i)), (0, .ref b), (1, .ref (mA G 0)), (2, .ref (mA G 107)), (3, .ref (mA G 117))]) [2, 3, 4, 5, 6] rfl ?_
    exact next _ _ _ _ _ _ _ _ ((show cINV M1 V Hs len T by rw [ha.2]; exact hI).offM hm.2.1) (hm.2.2.1 he).2 (by omega) (by omega)

set_option maxRecDepth 20000 in
set_option maxHeartbeats 1000000 in
theorem lw_case_7 {p : Program} {l : Launch} {e : Env} {s : State} {m : MethodId} {args : Array Value} {below : List Frame} {meth : Method} {c : Code} {G : mG} {Q : State → Prop} {b LL : Nat} {xs : Nat → Int32} (X : lwCtx l p s m args c G b LL xs) (M : Mem) (g : Glo) (V : View) (Hs : List View) (len : Nat) (T : Nat → Int32) (hI : cINV M V Hs len T) (hR : rINV M V Hs len T) (i : Nat) (hi : i + 6 ≤ LL) (kk nn : Nat) (hk : kk + 6 ≤ 601024) (hn : nn + 36 ≤ 7293034) (next : lwNext p l e s m args below meth c G Q b i kk nn) : At p l e room_1 s m args below meth c G 9 kk nn Q M g [(4, .int (nI i)), (0, .ref b), (1, .ref (mA G 0)), (2, .ref (mA G 107)), (3, .ref (mA G 117))] 684 [] := by
  obtain ⟨hfl, hG, C, hX, hbl, hbA, hLL⟩ := X
  obtain ⟨hC, hW, hH, hHs, hTx, hP0⟩ := id hI
  refine r_aload_n C dL_law_684 2 rfl ?_
  refine r_aload_n C dL_law_685 1 rfl ?_
  refine r_iload C dL_law_686 0 rfl ?_
  refine r_iconst (v := 1) C dL_law_688 rfl ?_
  refine r_iadd C dL_law_689 ?_
  refine r_valI (y := nI (i + 1)) (nI_add i 1) ?_
  refine r_sldN (j := i + 1) C hX hbl hbA hLL dL_law_690 rfl (by omega) ?_
  refine r_aload_n C dL_law_691 4 rfl ?_
  refine r_lS (As := [.ref (mA G 0), .int (xs (i + 1)), .ref (mA G 117)]) (rest := []) C dL_law_692 w_L_121 (c_L_sum l G hG M g hfl V Hs len T hI (xs (i + 1))) (Nat.le_of_ble_eq_true rfl) (Nat.le_of_ble_eq_true rfl) rfl rfl (Nat.le_of_ble_eq_true rfl) (show kk + 1 ≤ 601024 by omega) (show nn + 6 ≤ 7293034 by omega) (fun r1 M1 g1 hw => ?_)
  have hu := wr_u hw
  have hO1 : offC M M1 := wr_off hw (fun a9 ha => ha.2 ▸ offR.rf M 0 106)
  have hR1 : rINV M1 V Hs len T := hR.offC hO1
  refine r_istore (L' := [(5, .int r1), (4, .int (nI i)), (0, .ref b), (1, .ref (mA G 0)), (2, .ref (mA G 107)), (3, .ref (mA G 117))]) C dL_law_695 (by decide) rfl ?_
  refine r_aload_n C dL_law_697 4 rfl ?_
  refine r_aload_n C dL_law_698 2 rfl ?_
  refine r_iload C dL_law_699 1 rfl ?_
  refine r_iconst (v := 1) C dL_law_701 rfl ?_
  refine r_iadd C dL_law_702 ?_
  refine r_valI (y := nI (i + 1)) (nI_add i 1) ?_
  refine r_sldN (j := i + 1) C hX hbl hbA hLL dL_law_703 rfl (by omega) ?_
  refine r_lVI (As := [.int (xs (i + 1))]) (rest := []) C dL_law_704 s_L_123 (c_X8_sum l G hG M1 g1 V Hs len T hW hR1 (xs (i + 1))) (Nat.le_of_ble_eq_true rfl) (Nat.le_of_ble_eq_true rfl) rfl rfl rfl rfl (Nat.le_of_ble_eq_true rfl) (show kk + 1 ≤ 601024 by omega) (show nn + 6 ≤ 7293034 by omega) (fun r2 M2 g2 h2 => ?_)
  obtain ⟨hm, eg2⟩ := h2
  refine r_istore (L' := [(6, .int r2), (5, .int r1), (4, .int (nI i)), (0, .ref b), (1, .ref (mA G 0)), (2, .ref (mA G 107)), (3, .ref (mA G 117))]) C dL_law_707 (by decide) rfl ?_
  refine r_aload_n C dL_law_709 5 rfl ?_
  refine r_lVI (As := []) (rest := []) C dL_law_710 s_L_97 (c_X8_thrown l G hG M2 g2 ) (Nat.le_of_ble_eq_true rfl) (Nat.le_of_ble_eq_true rfl) rfl rfl rfl rfl (Nat.le_of_ble_eq_true rfl) (show kk + 1 ≤ 601024 by omega) (show nn + 6 ≤ 7293034 by omega) (fun r3 M3 g3 h3 => ?_)
  obtain ⟨e3, eM3, eg3⟩ := h3
  rw [eM3]
  refine r_iload C dL_law_713 1 rfl ?_
  refine r_icmp_eq (tgt := 720) C dL_law_715 (by decide) (fun _ => ?_) (fun h => absurd (by rw [e3, hm.1, hu.1]) h)
  refine r_iload C dL_law_720 1 rfl ?_
  refine r_if_ne (tgt := 737) C dL_law_722 (by decide) (fun c722 => ?_) (fun c722 => ?_)
  ·
    have he := fun z => c722 (hu.1.trans (congrArg nI z))
    refine r_goto (tgt := 1744) C dL_law_737 (by decide) ?_
    refine r_sub (L' := [(4, .int (nI i)), (0, .ref b), (1, .ref (mA G 0)), (2, .ref (mA G 107)), (3, .ref (mA G 117))]) [2, 3, 4, 5, 6] rfl ?_
    exact next _ _ _ _ _ _ _ _ (cINV.offM (by rw [(hu.2.2 he).1]; exact hI) hm.2.1) (hm.2.2.2 he) (by omega) (by omega)
  ·
    have he := nI0_of (by unfold eIn; (repeat' split) <;> omega) (hu.1.symm.trans c722)
    obtain ⟨a9, ha, hg1⟩ := hu.2.1 he
    refine r_aload_n C dL_law_725 6 rfl ?_
    refine r_iconst (v := 0) C dL_law_726 rfl ?_
    refine r_lald C dL_law_727 rfl (vp_in_nI (by decide : 0 < 1) (by decide)) ?_
    refine r_iload C dL_law_728 0 rfl ?_
    refine r_i2l C dL_law_730 ?_
    refine r_lcmpE (by show g3 117 0 = r2.toInt64; rw [eg3, eg2, hg1, gset_at, (hm.2.2.1 he).1, ha.1]) C dL_law_731 ?_
    refine r_if_eq (tgt := 737) C dL_law_732 (by decide) (fun _ => ?_) (fun h => absurd (by decide) h)
    refine r_goto (tgt := 1744) C dL_law_737 (by decide) ?_
    refine r_sub (L' := [(4, .int (nI i)), (0, .ref b), (1, .ref (mA G 0)), (2, .ref (mA G 107)), (3, .ref (mA G 117))]) [2, 3, 4, 5, 6] rfl ?_
    exact next _ _ _ _ _ _ _ _ ((show cINV M1 V Hs len T by rw [ha.2]; exact hI).offM hm.2.1) (hm.2.2.1 he).2 (by omega) (by omega)

set_option maxRecDepth 20000 in
set_option maxHeartbeats 1000000 in
theorem lw_case_8 {p : Program} {l : Launch} {e : Env} {s : State} {m : MethodId} {args : Array Value} {below : List Frame} {meth : Method} {c : Code} {G : mG} {Q : State → Prop} {b LL : Nat} {xs : Nat → Int32} (X : lwCtx l p s m args c G b LL xs) (M : Mem) (g : Glo) (V : View) (Hs : List View) (len : Nat) (T : Nat → Int32) (hI : cINV M V Hs len T) (hR : rINV M V Hs len T) (i : Nat) (hi : i + 6 ≤ LL) (kk nn : Nat) (hk : kk + 6 ≤ 601024) (hn : nn + 36 ≤ 7293034) (next : lwNext p l e s m args below meth c G Q b i kk nn) : At p l e room_1 s m args below meth c G 9 kk nn Q M g [(4, .int (nI i)), (0, .ref b), (1, .ref (mA G 0)), (2, .ref (mA G 107)), (3, .ref (mA G 117))] 740 [] := by
  obtain ⟨hfl, hG, C, hX, hbl, hbA, hLL⟩ := X
  obtain ⟨hC, hW, hH, hHs, hTx, hP0⟩ := id hI
  refine r_aload_n C dL_law_740 2 rfl ?_
  refine r_aload_n C dL_law_741 1 rfl ?_
  refine r_iload C dL_law_742 0 rfl ?_
  refine r_iconst (v := 1) C dL_law_744 rfl ?_
  refine r_iadd C dL_law_745 ?_
  refine r_valI (y := nI (i + 1)) (nI_add i 1) ?_
  refine r_sldN (j := i + 1) C hX hbl hbA hLL dL_law_746 rfl (by omega) ?_
  refine r_aload_n C dL_law_747 1 rfl ?_
  refine r_iload C dL_law_748 0 rfl ?_
  refine r_iconst (v := 2) C dL_law_750 rfl ?_
  refine r_iadd C dL_law_751 ?_
  refine r_valI (y := nI (i + 2)) (nI_add i 2) ?_
  refine r_sldN (j := i + 2) C hX hbl hbA hLL dL_law_752 rfl (by omega) ?_
  refine r_aload_n C dL_law_753 1 rfl ?_
  refine r_iload C dL_law_754 0 rfl ?_
  refine r_iconst (v := 3) C dL_law_756 rfl ?_
  refine r_iadd C dL_law_757 ?_
  refine r_valI (y := nI (i + 3)) (nI_add i 3) ?_
  refine r_sldN (j := i + 3) C hX hbl hbA hLL dL_law_758 rfl (by omega) ?_
  refine r_aload_n C dL_law_759 4 rfl ?_
  refine r_lS (As := [.ref (mA G 0), .int (xs (i + 1)), .int (xs (i + 2)), .int (xs (i + 3)), .ref (mA G 117)]) (rest := []) C dL_law_760 w_L_124 (c_L_addBoiler l G hG M g hfl V Hs len T hI (xs (i + 1)) (xs (i + 2)) (xs (i + 3))) (Nat.le_of_ble_eq_true rfl) (Nat.le_of_ble_eq_true rfl) rfl rfl (Nat.le_of_ble_eq_true rfl) (show kk + 4 ≤ 601024 by omega) (show nn + 24 ≤ 7293034 by omega) (fun r1 M1 g1 hw => ?_)
  have hu := wr_u hw
  have hO1 : offC M M1 := wr_off hw (fun a9 ha => ha.2.2)
  have hR1 : rINV M1 V Hs len T := hR.offC hO1
  refine r_istore (L' := [(5, .int r1), (4, .int (nI i)), (0, .ref b), (1, .ref (mA G 0)), (2, .ref (mA G 107)), (3, .ref (mA G 117))]) C dL_law_763 (by decide) rfl ?_
  refine r_aload_n C dL_law_765 4 rfl ?_
  refine r_aload_n C dL_law_766 2 rfl ?_
  refine r_iload C dL_law_767 1 rfl ?_
  refine r_iconst (v := 1) C dL_law_769 rfl ?_
  refine r_iadd C dL_law_770 ?_
  refine r_valI (y := nI (i + 1)) (nI_add i 1) ?_
  refine r_sldN (j := i + 1) C hX hbl hbA hLL dL_law_771 rfl (by omega) ?_
  refine r_aload_n C dL_law_772 2 rfl ?_
  refine r_iload C dL_law_773 1 rfl ?_
  refine r_iconst (v := 2) C dL_law_775 rfl ?_
  refine r_iadd C dL_law_776 ?_
  refine r_valI (y := nI (i + 2)) (nI_add i 2) ?_
  refine r_sldN (j := i + 2) C hX hbl hbA hLL dL_law_777 rfl (by omega) ?_
  refine r_aload_n C dL_law_778 2 rfl ?_
  refine r_iload C dL_law_779 1 rfl ?_
  refine r_iconst (v := 3) C dL_law_781 rfl ?_
  refine r_iadd C dL_law_782 ?_
  refine r_valI (y := nI (i + 3)) (nI_add i 3) ?_
  refine r_sldN (j := i + 3) C hX hbl hbA hLL dL_law_783 rfl (by omega) ?_
  refine r_lVI (As := [.int (xs (i + 1)), .int (xs (i + 2)), .int (xs (i + 3))]) (rest := []) C dL_law_784 s_L_126 (c_X8_addBoiler l G hG M1 g1 V Hs len T hW hR1 hHs (xs (i + 1)) (xs (i + 2)) (xs (i + 3))) (Nat.le_of_ble_eq_true rfl) (Nat.le_of_ble_eq_true rfl) rfl rfl rfl rfl (Nat.le_of_ble_eq_true rfl) (show kk + 4 ≤ 601024 by omega) (show nn + 24 ≤ 7293034 by omega) (fun r2 M2 g2 h2 => ?_)
  obtain ⟨hm, eg2⟩ := h2
  refine r_istore (L' := [(6, .int r2), (5, .int r1), (4, .int (nI i)), (0, .ref b), (1, .ref (mA G 0)), (2, .ref (mA G 107)), (3, .ref (mA G 117))]) C dL_law_787 (by decide) rfl ?_
  refine r_aload_n C dL_law_789 5 rfl ?_
  refine r_lVI (As := []) (rest := []) C dL_law_790 s_L_97 (c_X8_thrown l G hG M2 g2 ) (Nat.le_of_ble_eq_true rfl) (Nat.le_of_ble_eq_true rfl) rfl rfl rfl rfl (Nat.le_of_ble_eq_true rfl) (show kk + 4 ≤ 601024 by omega) (show nn + 24 ≤ 7293034 by omega) (fun r3 M3 g3 h3 => ?_)
  obtain ⟨e3, eM3, eg3⟩ := h3
  rw [eM3]
  refine r_iload C dL_law_793 1 rfl ?_
  refine r_icmp_eq (tgt := 800) C dL_law_795 (by decide) (fun _ => ?_) (fun h => absurd (by rw [e3, hm.1, hu.1]) h)
  refine r_iload C dL_law_800 1 rfl ?_
  refine r_if_ne (tgt := 817) C dL_law_802 (by decide) (fun c802 => ?_) (fun c802 => ?_)
  ·
    have he := fun z => c802 (hu.1.trans (congrArg nI z))
    refine r_goto (tgt := 1744) C dL_law_817 (by decide) ?_
    refine r_sub (L' := [(4, .int (nI i)), (0, .ref b), (1, .ref (mA G 0)), (2, .ref (mA G 107)), (3, .ref (mA G 117))]) [2, 3, 4, 5, 6] rfl ?_
    exact next _ _ _ _ _ _ _ _ (cINV.offM (by rw [(hu.2.2 he).1]; exact hI) hm.2.1) (hm.2.2.2 he) (by omega) (by omega)
  ·
    have he := nI0_of (by unfold eBoi; (repeat' split) <;> omega) (hu.1.symm.trans c802)
    obtain ⟨a9, ha, hg1⟩ := hu.2.1 he
    refine r_aload_n C dL_law_805 6 rfl ?_
    refine r_iconst (v := 0) C dL_law_806 rfl ?_
    refine r_lald C dL_law_807 rfl (vp_in_nI (by decide : 0 < 1) (by decide)) ?_
    refine r_iload C dL_law_808 0 rfl ?_
    refine r_i2l C dL_law_810 ?_
    refine r_lcmpE (by show g3 117 0 = r2.toInt64; rw [eg3, eg2, hg1, gset_at, (hm.2.2.1 he).1, ha.1]) C dL_law_811 ?_
    refine r_if_eq (tgt := 817) C dL_law_812 (by decide) (fun _ => ?_) (fun h => absurd (by decide) h)
    refine r_goto (tgt := 1744) C dL_law_817 (by decide) ?_
    refine r_sub (L' := [(4, .int (nI i)), (0, .ref b), (1, .ref (mA G 0)), (2, .ref (mA G 107)), (3, .ref (mA G 117))]) [2, 3, 4, 5, 6] rfl ?_
    exact next _ _ _ _ _ _ _ _ ((ha.2.1).offM hm.2.1) (hm.2.2.1 he).2 (by omega) (by omega)

set_option maxRecDepth 20000 in
set_option maxHeartbeats 1000000 in
theorem lw_case_9 {p : Program} {l : Launch} {e : Env} {s : State} {m : MethodId} {args : Array Value} {below : List Frame} {meth : Method} {c : Code} {G : mG} {Q : State → Prop} {b LL : Nat} {xs : Nat → Int32} (X : lwCtx l p s m args c G b LL xs) (M : Mem) (g : Glo) (V : View) (Hs : List View) (len : Nat) (T : Nat → Int32) (hI : cINV M V Hs len T) (hR : rINV M V Hs len T) (i : Nat) (hi : i + 6 ≤ LL) (kk nn : Nat) (hk : kk + 6 ≤ 601024) (hn : nn + 36 ≤ 7293034) (next : lwNext p l e s m args below meth c G Q b i kk nn) : At p l e room_1 s m args below meth c G 9 kk nn Q M g [(4, .int (nI i)), (0, .ref b), (1, .ref (mA G 0)), (2, .ref (mA G 107)), (3, .ref (mA G 117))] 820 [] := by
  obtain ⟨hfl, hG, C, hX, hbl, hbA, hLL⟩ := X
  obtain ⟨hC, hW, hH, hHs, hTx, hP0⟩ := id hI
  refine r_aload_n C dL_law_820 2 rfl ?_
  refine r_aload_n C dL_law_821 1 rfl ?_
  refine r_iload C dL_law_822 0 rfl ?_
  refine r_iconst (v := 1) C dL_law_824 rfl ?_
  refine r_iadd C dL_law_825 ?_
  refine r_valI (y := nI (i + 1)) (nI_add i 1) ?_
  refine r_sldN (j := i + 1) C hX hbl hbA hLL dL_law_826 rfl (by omega) ?_
  refine r_aload_n C dL_law_827 1 rfl ?_
  refine r_iload C dL_law_828 0 rfl ?_
  refine r_iconst (v := 2) C dL_law_830 rfl ?_
  refine r_iadd C dL_law_831 ?_
  refine r_valI (y := nI (i + 2)) (nI_add i 2) ?_
  refine r_sldN (j := i + 2) C hX hbl hbA hLL dL_law_832 rfl (by omega) ?_
  refine r_aload_n C dL_law_833 4 rfl ?_
  refine r_lS (As := [.ref (mA G 0), .int (xs (i + 1)), .int (xs (i + 2)), .ref (mA G 117)]) (rest := []) C dL_law_834 w_L_127 (c_L_setCost l G hG M g hfl V Hs len T hI (xs (i + 1)) (xs (i + 2))) (Nat.le_of_ble_eq_true rfl) (Nat.le_of_ble_eq_true rfl) rfl rfl (Nat.le_of_ble_eq_true rfl) (show kk + 2 ≤ 601024 by omega) (show nn + 12 ≤ 7293034 by omega) (fun r1 M1 g1 hw => ?_)
  have hu := wr_u hw
  have hO1 : offC M M1 := wr_off hw (fun a9 ha => ha.2.2)
  have hR1 : rINV M1 V Hs len T := hR.offC hO1
  refine r_istore (L' := [(5, .int r1), (4, .int (nI i)), (0, .ref b), (1, .ref (mA G 0)), (2, .ref (mA G 107)), (3, .ref (mA G 117))]) C dL_law_837 (by decide) rfl ?_
  refine r_aload_n C dL_law_839 4 rfl ?_
  refine r_aload_n C dL_law_840 2 rfl ?_
  refine r_iload C dL_law_841 1 rfl ?_
  refine r_iconst (v := 1) C dL_law_843 rfl ?_
  refine r_iadd C dL_law_844 ?_
  refine r_valI (y := nI (i + 1)) (nI_add i 1) ?_
  refine r_sldN (j := i + 1) C hX hbl hbA hLL dL_law_845 rfl (by omega) ?_
  refine r_aload_n C dL_law_846 2 rfl ?_
  refine r_iload C dL_law_847 1 rfl ?_
  refine r_iconst (v := 2) C dL_law_849 rfl ?_
  refine r_iadd C dL_law_850 ?_
  refine r_valI (y := nI (i + 2)) (nI_add i 2) ?_
  refine r_sldN (j := i + 2) C hX hbl hbA hLL dL_law_851 rfl (by omega) ?_
  refine r_lVI (As := [.int (xs (i + 1)), .int (xs (i + 2))]) (rest := []) C dL_law_852 s_L_129 (c_X8_setCost l G hG M1 g1 V Hs len T hW hR1 hHs (xs (i + 1)) (xs (i + 2))) (Nat.le_of_ble_eq_true rfl) (Nat.le_of_ble_eq_true rfl) rfl rfl rfl rfl (Nat.le_of_ble_eq_true rfl) (show kk + 2 ≤ 601024 by omega) (show nn + 12 ≤ 7293034 by omega) (fun r2 M2 g2 h2 => ?_)
  obtain ⟨hm, eg2⟩ := h2
  refine r_istore (L' := [(6, .int r2), (5, .int r1), (4, .int (nI i)), (0, .ref b), (1, .ref (mA G 0)), (2, .ref (mA G 107)), (3, .ref (mA G 117))]) C dL_law_855 (by decide) rfl ?_
  refine r_aload_n C dL_law_857 5 rfl ?_
  refine r_lVI (As := []) (rest := []) C dL_law_858 s_L_97 (c_X8_thrown l G hG M2 g2 ) (Nat.le_of_ble_eq_true rfl) (Nat.le_of_ble_eq_true rfl) rfl rfl rfl rfl (Nat.le_of_ble_eq_true rfl) (show kk + 2 ≤ 601024 by omega) (show nn + 12 ≤ 7293034 by omega) (fun r3 M3 g3 h3 => ?_)
  obtain ⟨e3, eM3, eg3⟩ := h3
  rw [eM3]
  refine r_iload C dL_law_861 1 rfl ?_
  refine r_icmp_eq (tgt := 868) C dL_law_863 (by decide) (fun _ => ?_) (fun h => absurd (by rw [e3, hm.1, hu.1]) h)
  refine r_iload C dL_law_868 1 rfl ?_
  refine r_if_ne (tgt := 885) C dL_law_870 (by decide) (fun c870 => ?_) (fun c870 => ?_)
  ·
    have he := fun z => c870 (hu.1.trans (congrArg nI z))
    refine r_goto (tgt := 1744) C dL_law_885 (by decide) ?_
    refine r_sub (L' := [(4, .int (nI i)), (0, .ref b), (1, .ref (mA G 0)), (2, .ref (mA G 107)), (3, .ref (mA G 117))]) [2, 3, 4, 5, 6] rfl ?_
    exact next _ _ _ _ _ _ _ _ (cINV.offM (by rw [(hu.2.2 he).1]; exact hI) hm.2.1) (hm.2.2.2 he) (by omega) (by omega)
  ·
    have he := nI0_of (by unfold eCost; (repeat' split) <;> omega) (hu.1.symm.trans c870)
    obtain ⟨a9, ha, hg1⟩ := hu.2.1 he
    refine r_aload_n C dL_law_873 6 rfl ?_
    refine r_iconst (v := 0) C dL_law_874 rfl ?_
    refine r_lald C dL_law_875 rfl (vp_in_nI (by decide : 0 < 1) (by decide)) ?_
    refine r_iload C dL_law_876 0 rfl ?_
    refine r_i2l C dL_law_878 ?_
    refine r_lcmpE (by show g3 117 0 = r2.toInt64; rw [eg3, eg2, hg1, gset_at, (hm.2.2.1 he).1, ha.1]) C dL_law_879 ?_
    refine r_if_eq (tgt := 885) C dL_law_880 (by decide) (fun _ => ?_) (fun h => absurd (by decide) h)
    refine r_goto (tgt := 1744) C dL_law_885 (by decide) ?_
    refine r_sub (L' := [(4, .int (nI i)), (0, .ref b), (1, .ref (mA G 0)), (2, .ref (mA G 107)), (3, .ref (mA G 117))]) [2, 3, 4, 5, 6] rfl ?_
    exact next _ _ _ _ _ _ _ _ ((ha.2.1).offM hm.2.1) (hm.2.2.1 he).2 (by omega) (by omega)

set_option maxRecDepth 20000 in
set_option maxHeartbeats 1000000 in
theorem lw_case_10 {p : Program} {l : Launch} {e : Env} {s : State} {m : MethodId} {args : Array Value} {below : List Frame} {meth : Method} {c : Code} {G : mG} {Q : State → Prop} {b LL : Nat} {xs : Nat → Int32} (X : lwCtx l p s m args c G b LL xs) (M : Mem) (g : Glo) (V : View) (Hs : List View) (len : Nat) (T : Nat → Int32) (hI : cINV M V Hs len T) (hR : rINV M V Hs len T) (i : Nat) (hi : i + 6 ≤ LL) (kk nn : Nat) (hk : kk + 6 ≤ 601024) (hn : nn + 36 ≤ 7293034) (next : lwNext p l e s m args below meth c G Q b i kk nn) : At p l e room_1 s m args below meth c G 9 kk nn Q M g [(4, .int (nI i)), (0, .ref b), (1, .ref (mA G 0)), (2, .ref (mA G 107)), (3, .ref (mA G 117))] 888 [] := by
  obtain ⟨hfl, hG, C, hX, hbl, hbA, hLL⟩ := X
  obtain ⟨hC, hW, hH, hHs, hTx, hP0⟩ := id hI
  refine r_aload_n C dL_law_888 2 rfl ?_
  refine r_aload_n C dL_law_889 1 rfl ?_
  refine r_iload C dL_law_890 0 rfl ?_
  refine r_iconst (v := 1) C dL_law_892 rfl ?_
  refine r_iadd C dL_law_893 ?_
  refine r_valI (y := nI (i + 1)) (nI_add i 1) ?_
  refine r_sldN (j := i + 1) C hX hbl hbA hLL dL_law_894 rfl (by omega) ?_
  refine r_aload_n C dL_law_895 1 rfl ?_
  refine r_iload C dL_law_896 0 rfl ?_
  refine r_iconst (v := 2) C dL_law_898 rfl ?_
  refine r_iadd C dL_law_899 ?_
  refine r_valI (y := nI (i + 2)) (nI_add i 2) ?_
  refine r_sldN (j := i + 2) C hX hbl hbA hLL dL_law_900 rfl (by omega) ?_
  refine r_aload_n C dL_law_901 4 rfl ?_
  refine r_lS (As := [.ref (mA G 0), .int (xs (i + 1)), .int (xs (i + 2)), .ref (mA G 117)]) (rest := []) C dL_law_902 w_L_130 (c_L_boiler l G hG M g hfl V Hs len T hI (xs (i + 1)) (xs (i + 2))) (Nat.le_of_ble_eq_true rfl) (Nat.le_of_ble_eq_true rfl) rfl rfl (Nat.le_of_ble_eq_true rfl) (show kk + 2 ≤ 601024 by omega) (show nn + 12 ≤ 7293034 by omega) (fun r1 M1 g1 hw => ?_)
  have hu := wr_u hw
  have hO1 : offC M M1 := wr_off hw (fun a9 ha => ha.2 ▸ offR.rf M 0 106)
  have hR1 : rINV M1 V Hs len T := hR.offC hO1
  refine r_istore (L' := [(5, .int r1), (4, .int (nI i)), (0, .ref b), (1, .ref (mA G 0)), (2, .ref (mA G 107)), (3, .ref (mA G 117))]) C dL_law_905 (by decide) rfl ?_
  refine r_aload_n C dL_law_907 4 rfl ?_
  refine r_aload_n C dL_law_908 2 rfl ?_
  refine r_iload C dL_law_909 1 rfl ?_
  refine r_iconst (v := 1) C dL_law_911 rfl ?_
  refine r_iadd C dL_law_912 ?_
  refine r_valI (y := nI (i + 1)) (nI_add i 1) ?_
  refine r_sldN (j := i + 1) C hX hbl hbA hLL dL_law_913 rfl (by omega) ?_
  refine r_aload_n C dL_law_914 2 rfl ?_
  refine r_iload C dL_law_915 1 rfl ?_
  refine r_iconst (v := 2) C dL_law_917 rfl ?_
  refine r_iadd C dL_law_918 ?_
  refine r_valI (y := nI (i + 2)) (nI_add i 2) ?_
  refine r_sldN (j := i + 2) C hX hbl hbA hLL dL_law_919 rfl (by omega) ?_
  refine r_lVI (As := [.int (xs (i + 1)), .int (xs (i + 2))]) (rest := []) C dL_law_920 s_L_132 (c_X8_boiler l G hG M1 g1 V Hs len T hW hR1 (xs (i + 1)) (xs (i + 2))) (Nat.le_of_ble_eq_true rfl) (Nat.le_of_ble_eq_true rfl) rfl rfl rfl rfl (Nat.le_of_ble_eq_true rfl) (show kk + 2 ≤ 601024 by omega) (show nn + 12 ≤ 7293034 by omega) (fun r2 M2 g2 h2 => ?_)
  obtain ⟨hm, eg2⟩ := h2
  refine r_istore (L' := [(6, .int r2), (5, .int r1), (4, .int (nI i)), (0, .ref b), (1, .ref (mA G 0)), (2, .ref (mA G 107)), (3, .ref (mA G 117))]) C dL_law_923 (by decide) rfl ?_
  refine r_aload_n C dL_law_925 5 rfl ?_
  refine r_lVI (As := []) (rest := []) C dL_law_926 s_L_97 (c_X8_thrown l G hG M2 g2 ) (Nat.le_of_ble_eq_true rfl) (Nat.le_of_ble_eq_true rfl) rfl rfl rfl rfl (Nat.le_of_ble_eq_true rfl) (show kk + 2 ≤ 601024 by omega) (show nn + 12 ≤ 7293034 by omega) (fun r3 M3 g3 h3 => ?_)
  obtain ⟨e3, eM3, eg3⟩ := h3
  rw [eM3]
  refine r_iload C dL_law_929 1 rfl ?_
  refine r_icmp_eq (tgt := 936) C dL_law_931 (by decide) (fun _ => ?_) (fun h => absurd (by rw [e3, hm.1, hu.1]) h)
  refine r_iload C dL_law_936 1 rfl ?_
  refine r_if_ne (tgt := 953) C dL_law_938 (by decide) (fun c938 => ?_) (fun c938 => ?_)
  ·
    have he := fun z => c938 (hu.1.trans (congrArg nI z))
    refine r_goto (tgt := 1744) C dL_law_953 (by decide) ?_
    refine r_sub (L' := [(4, .int (nI i)), (0, .ref b), (1, .ref (mA G 0)), (2, .ref (mA G 107)), (3, .ref (mA G 117))]) [2, 3, 4, 5, 6] rfl ?_
    exact next _ _ _ _ _ _ _ _ (cINV.offM (by rw [(hu.2.2 he).1]; exact hI) hm.2.1) (hm.2.2.2 he) (by omega) (by omega)
  ·
    have he := nI0_of (by unfold eBoiler; (repeat' split) <;> omega) (hu.1.symm.trans c938)
    obtain ⟨a9, ha, hg1⟩ := hu.2.1 he
    refine r_aload_n C dL_law_941 6 rfl ?_
    refine r_iconst (v := 0) C dL_law_942 rfl ?_
    refine r_lald C dL_law_943 rfl (vp_in_nI (by decide : 0 < 1) (by decide)) ?_
    refine r_iload C dL_law_944 0 rfl ?_
    refine r_i2l C dL_law_946 ?_
    refine r_lcmpE (by show g3 117 0 = r2.toInt64; rw [eg3, eg2, hg1, gset_at, (hm.2.2.1 he).1, ha.1]) C dL_law_947 ?_
    refine r_if_eq (tgt := 953) C dL_law_948 (by decide) (fun _ => ?_) (fun h => absurd (by decide) h)
    refine r_goto (tgt := 1744) C dL_law_953 (by decide) ?_
    refine r_sub (L' := [(4, .int (nI i)), (0, .ref b), (1, .ref (mA G 0)), (2, .ref (mA G 107)), (3, .ref (mA G 117))]) [2, 3, 4, 5, 6] rfl ?_
    exact next _ _ _ _ _ _ _ _ ((show cINV M1 V Hs len T by rw [ha.2]; exact hI).offM hm.2.1) (hm.2.2.1 he).2 (by omega) (by omega)

set_option maxRecDepth 20000 in
set_option maxHeartbeats 1000000 in
theorem lw_case_11 {p : Program} {l : Launch} {e : Env} {s : State} {m : MethodId} {args : Array Value} {below : List Frame} {meth : Method} {c : Code} {G : mG} {Q : State → Prop} {b LL : Nat} {xs : Nat → Int32} (X : lwCtx l p s m args c G b LL xs) (M : Mem) (g : Glo) (V : View) (Hs : List View) (len : Nat) (T : Nat → Int32) (hI : cINV M V Hs len T) (hR : rINV M V Hs len T) (i : Nat) (hi : i + 6 ≤ LL) (kk nn : Nat) (hk : kk + 6 ≤ 601024) (hn : nn + 36 ≤ 7293034) (next : lwNext p l e s m args below meth c G Q b i kk nn) : At p l e room_1 s m args below meth c G 9 kk nn Q M g [(4, .int (nI i)), (0, .ref b), (1, .ref (mA G 0)), (2, .ref (mA G 107)), (3, .ref (mA G 117))] 956 [] := by
  obtain ⟨hfl, hG, C, hX, hbl, hbA, hLL⟩ := X
  obtain ⟨hC, hW, hH, hHs, hTx, hP0⟩ := id hI
  refine r_aload_n C dL_law_956 2 rfl ?_
  refine r_aload_n C dL_law_957 1 rfl ?_
  refine r_iload C dL_law_958 0 rfl ?_
  refine r_iconst (v := 1) C dL_law_960 rfl ?_
  refine r_iadd C dL_law_961 ?_
  refine r_valI (y := nI (i + 1)) (nI_add i 1) ?_
  refine r_sldN (j := i + 1) C hX hbl hbA hLL dL_law_962 rfl (by omega) ?_
  refine r_aload_n C dL_law_963 1 rfl ?_
  refine r_iload C dL_law_964 0 rfl ?_
  refine r_iconst (v := 2) C dL_law_966 rfl ?_
  refine r_iadd C dL_law_967 ?_
  refine r_valI (y := nI (i + 2)) (nI_add i 2) ?_
  refine r_sldN (j := i + 2) C hX hbl hbA hLL dL_law_968 rfl (by omega) ?_
  refine r_aload_n C dL_law_969 1 rfl ?_
  refine r_iload C dL_law_970 0 rfl ?_
  refine r_iconst (v := 3) C dL_law_972 rfl ?_
  refine r_iadd C dL_law_973 ?_
  refine r_valI (y := nI (i + 3)) (nI_add i 3) ?_
  refine r_sldN (j := i + 3) C hX hbl hbA hLL dL_law_974 rfl (by omega) ?_
  refine r_aload_n C dL_law_975 4 rfl ?_
  refine r_lS (As := [.ref (mA G 0), .int (xs (i + 1)), .int (xs (i + 2)), .int (xs (i + 3)), .ref (mA G 117)]) (rest := []) C dL_law_976 w_L_133 (c_L_setTariff l G hG M g hfl V Hs len T hI (xs (i + 1)) (xs (i + 2)) (xs (i + 3))) (Nat.le_of_ble_eq_true rfl) (Nat.le_of_ble_eq_true rfl) rfl rfl (Nat.le_of_ble_eq_true rfl) (show kk + 3 ≤ 601024 by omega) (show nn + 18 ≤ 7293034 by omega) (fun r1 M1 g1 hw => ?_)
  have hu := wr_u hw
  have hO1 : offC M M1 := wr_off hw (fun a9 ha => ha.2.2)
  have hR1 : rINV M1 V Hs len T := hR.offC hO1
  refine r_istore (L' := [(5, .int r1), (4, .int (nI i)), (0, .ref b), (1, .ref (mA G 0)), (2, .ref (mA G 107)), (3, .ref (mA G 117))]) C dL_law_979 (by decide) rfl ?_
  refine r_aload_n C dL_law_981 4 rfl ?_
  refine r_aload_n C dL_law_982 2 rfl ?_
  refine r_iload C dL_law_983 1 rfl ?_
  refine r_iconst (v := 1) C dL_law_985 rfl ?_
  refine r_iadd C dL_law_986 ?_
  refine r_valI (y := nI (i + 1)) (nI_add i 1) ?_
  refine r_sldN (j := i + 1) C hX hbl hbA hLL dL_law_987 rfl (by omega) ?_
  refine r_aload_n C dL_law_988 2 rfl ?_
  refine r_iload C dL_law_989 1 rfl ?_
  refine r_iconst (v := 2) C dL_law_991 rfl ?_
  refine r_iadd C dL_law_992 ?_
  refine r_valI (y := nI (i + 2)) (nI_add i 2) ?_
  refine r_sldN (j := i + 2) C hX hbl hbA hLL dL_law_993 rfl (by omega) ?_
  refine r_aload_n C dL_law_994 2 rfl ?_
  refine r_iload C dL_law_995 1 rfl ?_
  refine r_iconst (v := 3) C dL_law_997 rfl ?_
  refine r_iadd C dL_law_998 ?_
  refine r_valI (y := nI (i + 3)) (nI_add i 3) ?_
  refine r_sldN (j := i + 3) C hX hbl hbA hLL dL_law_999 rfl (by omega) ?_
  refine r_lVI (As := [.int (xs (i + 1)), .int (xs (i + 2)), .int (xs (i + 3))]) (rest := []) C dL_law_1000 s_L_135 (c_X8_setTariff l G hG M1 g1 V Hs len T hW hR1 hHs (xs (i + 1)) (xs (i + 2)) (xs (i + 3))) (Nat.le_of_ble_eq_true rfl) (Nat.le_of_ble_eq_true rfl) rfl rfl rfl rfl (Nat.le_of_ble_eq_true rfl) (show kk + 3 ≤ 601024 by omega) (show nn + 18 ≤ 7293034 by omega) (fun r2 M2 g2 h2 => ?_)
  obtain ⟨hm, eg2⟩ := h2
  refine r_istore (L' := [(6, .int r2), (5, .int r1), (4, .int (nI i)), (0, .ref b), (1, .ref (mA G 0)), (2, .ref (mA G 107)), (3, .ref (mA G 117))]) C dL_law_1003 (by decide) rfl ?_
  refine r_aload_n C dL_law_1005 5 rfl ?_
  refine r_lVI (As := []) (rest := []) C dL_law_1006 s_L_97 (c_X8_thrown l G hG M2 g2 ) (Nat.le_of_ble_eq_true rfl) (Nat.le_of_ble_eq_true rfl) rfl rfl rfl rfl (Nat.le_of_ble_eq_true rfl) (show kk + 3 ≤ 601024 by omega) (show nn + 18 ≤ 7293034 by omega) (fun r3 M3 g3 h3 => ?_)
  obtain ⟨e3, eM3, eg3⟩ := h3
  rw [eM3]
  refine r_iload C dL_law_1009 1 rfl ?_
  refine r_icmp_eq (tgt := 1016) C dL_law_1011 (by decide) (fun _ => ?_) (fun h => absurd (by rw [e3, hm.1, hu.1]) h)
  refine r_iload C dL_law_1016 1 rfl ?_
  refine r_if_ne (tgt := 1033) C dL_law_1018 (by decide) (fun c1018 => ?_) (fun c1018 => ?_)
  ·
    have he := fun z => c1018 (hu.1.trans (congrArg nI z))
    refine r_goto (tgt := 1744) C dL_law_1033 (by decide) ?_
    refine r_sub (L' := [(4, .int (nI i)), (0, .ref b), (1, .ref (mA G 0)), (2, .ref (mA G 107)), (3, .ref (mA G 117))]) [2, 3, 4, 5, 6] rfl ?_
    exact next _ _ _ _ _ _ _ _ (cINV.offM (by rw [(hu.2.2 he).1]; exact hI) hm.2.1) (hm.2.2.2 he) (by omega) (by omega)
  ·
    have he := nI0_of (by unfold eTar; (repeat' split) <;> omega) (hu.1.symm.trans c1018)
    obtain ⟨a9, ha, hg1⟩ := hu.2.1 he
    refine r_aload_n C dL_law_1021 6 rfl ?_
    refine r_iconst (v := 0) C dL_law_1022 rfl ?_
    refine r_lald C dL_law_1023 rfl (vp_in_nI (by decide : 0 < 1) (by decide)) ?_
    refine r_iload C dL_law_1024 0 rfl ?_
    refine r_i2l C dL_law_1026 ?_
    refine r_lcmpE (by show g3 117 0 = r2.toInt64; rw [eg3, eg2, hg1, gset_at, (hm.2.2.1 he).1, ha.1]) C dL_law_1027 ?_
    refine r_if_eq (tgt := 1033) C dL_law_1028 (by decide) (fun _ => ?_) (fun h => absurd (by decide) h)
    refine r_goto (tgt := 1744) C dL_law_1033 (by decide) ?_
    refine r_sub (L' := [(4, .int (nI i)), (0, .ref b), (1, .ref (mA G 0)), (2, .ref (mA G 107)), (3, .ref (mA G 117))]) [2, 3, 4, 5, 6] rfl ?_
    exact next _ _ _ _ _ _ _ _ ((ha.2.1).offM hm.2.1) (hm.2.2.1 he).2 (by omega) (by omega)

set_option maxRecDepth 20000 in
set_option maxHeartbeats 1000000 in
theorem lw_case_12 {p : Program} {l : Launch} {e : Env} {s : State} {m : MethodId} {args : Array Value} {below : List Frame} {meth : Method} {c : Code} {G : mG} {Q : State → Prop} {b LL : Nat} {xs : Nat → Int32} (X : lwCtx l p s m args c G b LL xs) (M : Mem) (g : Glo) (V : View) (Hs : List View) (len : Nat) (T : Nat → Int32) (hI : cINV M V Hs len T) (hR : rINV M V Hs len T) (i : Nat) (hi : i + 6 ≤ LL) (kk nn : Nat) (hk : kk + 6 ≤ 601024) (hn : nn + 36 ≤ 7293034) (next : lwNext p l e s m args below meth c G Q b i kk nn) : At p l e room_1 s m args below meth c G 9 kk nn Q M g [(4, .int (nI i)), (0, .ref b), (1, .ref (mA G 0)), (2, .ref (mA G 107)), (3, .ref (mA G 117))] 1036 [] := by
  obtain ⟨hfl, hG, C, hX, hbl, hbA, hLL⟩ := X
  obtain ⟨hC, hW, hH, hHs, hTx, hP0⟩ := id hI
  refine r_aload_n C dL_law_1036 2 rfl ?_
  refine r_aload_n C dL_law_1037 1 rfl ?_
  refine r_iload C dL_law_1038 0 rfl ?_
  refine r_iconst (v := 1) C dL_law_1040 rfl ?_
  refine r_iadd C dL_law_1041 ?_
  refine r_valI (y := nI (i + 1)) (nI_add i 1) ?_
  refine r_sldN (j := i + 1) C hX hbl hbA hLL dL_law_1042 rfl (by omega) ?_
  refine r_aload_n C dL_law_1043 4 rfl ?_
  refine r_lS (As := [.ref (mA G 0), .int (xs (i + 1)), .ref (mA G 117)]) (rest := []) C dL_law_1044 w_L_136 (c_L_pass l G hG M g hfl V Hs len T hI (xs (i + 1))) (Nat.le_of_ble_eq_true rfl) (Nat.le_of_ble_eq_true rfl) rfl rfl (Nat.le_of_ble_eq_true rfl) (show kk + 2 ≤ 601024 by omega) (show nn + 12 ≤ 7293034 by omega) (fun r1 M1 g1 hw => ?_)
  have hu := wr_u hw
  have hO1 : offC M M1 := wr_off hw (fun a9 ha => ha.2.2)
  have hR1 : rINV M1 V Hs len T := hR.offC hO1
  refine r_istore (L' := [(5, .int r1), (4, .int (nI i)), (0, .ref b), (1, .ref (mA G 0)), (2, .ref (mA G 107)), (3, .ref (mA G 117))]) C dL_law_1047 (by decide) rfl ?_
  refine r_aload_n C dL_law_1049 4 rfl ?_
  refine r_aload_n C dL_law_1050 2 rfl ?_
  refine r_iload C dL_law_1051 1 rfl ?_
  refine r_iconst (v := 1) C dL_law_1053 rfl ?_
  refine r_iadd C dL_law_1054 ?_
  refine r_valI (y := nI (i + 1)) (nI_add i 1) ?_
  refine r_sldN (j := i + 1) C hX hbl hbA hLL dL_law_1055 rfl (by omega) ?_
  refine r_lVI (As := [.int (xs (i + 1))]) (rest := []) C dL_law_1056 s_L_138 (c_X8_pass l G hG M1 g1 V Hs len T hW hR1 hHs (xs (i + 1))) (Nat.le_of_ble_eq_true rfl) (Nat.le_of_ble_eq_true rfl) rfl rfl rfl rfl (Nat.le_of_ble_eq_true rfl) (show kk + 2 ≤ 601024 by omega) (show nn + 12 ≤ 7293034 by omega) (fun r2 M2 g2 h2 => ?_)
  obtain ⟨hm, eg2⟩ := h2
  refine r_istore (L' := [(6, .int r2), (5, .int r1), (4, .int (nI i)), (0, .ref b), (1, .ref (mA G 0)), (2, .ref (mA G 107)), (3, .ref (mA G 117))]) C dL_law_1059 (by decide) rfl ?_
  refine r_aload_n C dL_law_1061 5 rfl ?_
  refine r_lVI (As := []) (rest := []) C dL_law_1062 s_L_97 (c_X8_thrown l G hG M2 g2 ) (Nat.le_of_ble_eq_true rfl) (Nat.le_of_ble_eq_true rfl) rfl rfl rfl rfl (Nat.le_of_ble_eq_true rfl) (show kk + 2 ≤ 601024 by omega) (show nn + 12 ≤ 7293034 by omega) (fun r3 M3 g3 h3 => ?_)
  obtain ⟨e3, eM3, eg3⟩ := h3
  rw [eM3]
  refine r_iload C dL_law_1065 1 rfl ?_
  refine r_icmp_eq (tgt := 1072) C dL_law_1067 (by decide) (fun _ => ?_) (fun h => absurd (by rw [e3, hm.1, hu.1]) h)
  refine r_iload C dL_law_1072 1 rfl ?_
  refine r_if_ne (tgt := 1089) C dL_law_1074 (by decide) (fun c1074 => ?_) (fun c1074 => ?_)
  ·
    have he := fun z => c1074 (hu.1.trans (congrArg nI z))
    refine r_goto (tgt := 1744) C dL_law_1089 (by decide) ?_
    refine r_sub (L' := [(4, .int (nI i)), (0, .ref b), (1, .ref (mA G 0)), (2, .ref (mA G 107)), (3, .ref (mA G 117))]) [2, 3, 4, 5, 6] rfl ?_
    exact next _ _ _ _ _ _ _ _ (cINV.offM (by rw [(hu.2.2 he).1]; exact hI) hm.2.1) (hm.2.2.2 he) (by omega) (by omega)
  ·
    have he := nI0_of (by unfold ePass; (repeat' split) <;> omega) (hu.1.symm.trans c1074)
    obtain ⟨a9, ha, hg1⟩ := hu.2.1 he
    refine r_aload_n C dL_law_1077 6 rfl ?_
    refine r_iconst (v := 0) C dL_law_1078 rfl ?_
    refine r_lald C dL_law_1079 rfl (vp_in_nI (by decide : 0 < 1) (by decide)) ?_
    refine r_iload C dL_law_1080 0 rfl ?_
    refine r_i2l C dL_law_1082 ?_
    refine r_lcmpE (by show g3 117 0 = r2.toInt64; rw [eg3, eg2, hg1, gset_at, (hm.2.2.1 he).1, ha.1]) C dL_law_1083 ?_
    refine r_if_eq (tgt := 1089) C dL_law_1084 (by decide) (fun _ => ?_) (fun h => absurd (by decide) h)
    refine r_goto (tgt := 1744) C dL_law_1089 (by decide) ?_
    refine r_sub (L' := [(4, .int (nI i)), (0, .ref b), (1, .ref (mA G 0)), (2, .ref (mA G 107)), (3, .ref (mA G 117))]) [2, 3, 4, 5, 6] rfl ?_
    exact next _ _ _ _ _ _ _ _ ((ha.2.1).offM hm.2.1) (hm.2.2.1 he).2 (by omega) (by omega)

set_option maxRecDepth 20000 in
set_option maxHeartbeats 1000000 in
theorem lw_case_13 {p : Program} {l : Launch} {e : Env} {s : State} {m : MethodId} {args : Array Value} {below : List Frame} {meth : Method} {c : Code} {G : mG} {Q : State → Prop} {b LL : Nat} {xs : Nat → Int32} (X : lwCtx l p s m args c G b LL xs) (M : Mem) (g : Glo) (V : View) (Hs : List View) (len : Nat) (T : Nat → Int32) (hI : cINV M V Hs len T) (hR : rINV M V Hs len T) (i : Nat) (hi : i + 6 ≤ LL) (kk nn : Nat) (hk : kk + 6 ≤ 601024) (hn : nn + 36 ≤ 7293034) (next : lwNext p l e s m args below meth c G Q b i kk nn) : At p l e room_1 s m args below meth c G 9 kk nn Q M g [(4, .int (nI i)), (0, .ref b), (1, .ref (mA G 0)), (2, .ref (mA G 107)), (3, .ref (mA G 117))] 1092 [] := by
  obtain ⟨hfl, hG, C, hX, hbl, hbA, hLL⟩ := X
  obtain ⟨hC, hW, hH, hHs, hTx, hP0⟩ := id hI
  refine r_aload_n C dL_law_1092 2 rfl ?_
  refine r_aload_n C dL_law_1093 1 rfl ?_
  refine r_iload C dL_law_1094 0 rfl ?_
  refine r_iconst (v := 1) C dL_law_1096 rfl ?_
  refine r_iadd C dL_law_1097 ?_
  refine r_valI (y := nI (i + 1)) (nI_add i 1) ?_
  refine r_sldN (j := i + 1) C hX hbl hbA hLL dL_law_1098 rfl (by omega) ?_
  refine r_aload_n C dL_law_1099 1 rfl ?_
  refine r_iload C dL_law_1100 0 rfl ?_
  refine r_iconst (v := 2) C dL_law_1102 rfl ?_
  refine r_iadd C dL_law_1103 ?_
  refine r_valI (y := nI (i + 2)) (nI_add i 2) ?_
  refine r_sldN (j := i + 2) C hX hbl hbA hLL dL_law_1104 rfl (by omega) ?_
  refine r_if_eq (tgt := 1112) C dL_law_1105 (by decide) (fun c1105 => ?_) (fun c1105 => ?_)
  ·
    refine r_iconst (v := 0) C dL_law_1112 rfl ?_
    refine r_aload_n C dL_law_1113 4 rfl ?_
    refine r_lS (As := [.ref (mA G 0), .int (xs (i + 1)), .int 0, .ref (mA G 117)]) (rest := []) C dL_law_1114 w_L_139 (c_L_setMeter l G hG M g hfl V Hs len T hI (xs (i + 1)) 0) (Nat.le_of_ble_eq_true rfl) (Nat.le_of_ble_eq_true rfl) rfl rfl (Nat.le_of_ble_eq_true rfl) (show kk + 1 ≤ 601024 by omega) (show nn + 6 ≤ 7293034 by omega) (fun r1 M1 g1 hw => ?_)
    have hu := wr_u hw
    have hO1 : offC M M1 := wr_off hw (fun a9 ha => ha.2.2)
    have hR1 : rINV M1 V Hs len T := hR.offC hO1
    refine r_istore (L' := [(5, .int r1), (4, .int (nI i)), (0, .ref b), (1, .ref (mA G 0)), (2, .ref (mA G 107)), (3, .ref (mA G 117))]) C dL_law_1117 (by decide) rfl ?_
    refine r_aload_n C dL_law_1119 4 rfl ?_
    refine r_aload_n C dL_law_1120 2 rfl ?_
    refine r_iload C dL_law_1121 1 rfl ?_
    refine r_iconst (v := 1) C dL_law_1123 rfl ?_
    refine r_iadd C dL_law_1124 ?_
    refine r_valI (y := nI (i + 1)) (nI_add i 1) ?_
    refine r_sldN (j := i + 1) C hX hbl hbA hLL dL_law_1125 rfl (by omega) ?_
    refine r_aload_n C dL_law_1126 2 rfl ?_
    refine r_iload C dL_law_1127 1 rfl ?_
    refine r_iconst (v := 2) C dL_law_1129 rfl ?_
    refine r_iadd C dL_law_1130 ?_
    refine r_valI (y := nI (i + 2)) (nI_add i 2) ?_
    refine r_sldN (j := i + 2) C hX hbl hbA hLL dL_law_1131 rfl (by omega) ?_
    refine r_if_eq (tgt := 1139) C dL_law_1132 (by decide) (fun _ => ?_) (fun h => absurd (c1105) h)
    refine r_iconst (v := 0) C dL_law_1139 rfl ?_
    refine r_lVI (As := [.int (xs (i + 1)), .int 0]) (rest := []) C dL_law_1140 s_L_142 (c_X8_setMeter l G hG M1 g1 V Hs len T hW hR1 hHs (xs (i + 1)) 0) (Nat.le_of_ble_eq_true rfl) (Nat.le_of_ble_eq_true rfl) rfl rfl rfl rfl (Nat.le_of_ble_eq_true rfl) (show kk + 1 ≤ 601024 by omega) (show nn + 6 ≤ 7293034 by omega) (fun r2 M2 g2 h2 => ?_)
    obtain ⟨hm, eg2⟩ := h2
    refine r_istore (L' := [(6, .int r2), (5, .int r1), (4, .int (nI i)), (0, .ref b), (1, .ref (mA G 0)), (2, .ref (mA G 107)), (3, .ref (mA G 117))]) C dL_law_1143 (by decide) rfl ?_
    refine r_aload_n C dL_law_1145 5 rfl ?_
    refine r_lVI (As := []) (rest := []) C dL_law_1146 s_L_97 (c_X8_thrown l G hG M2 g2 ) (Nat.le_of_ble_eq_true rfl) (Nat.le_of_ble_eq_true rfl) rfl rfl rfl rfl (Nat.le_of_ble_eq_true rfl) (show kk + 1 ≤ 601024 by omega) (show nn + 6 ≤ 7293034 by omega) (fun r3 M3 g3 h3 => ?_)
    obtain ⟨e3, eM3, eg3⟩ := h3
    rw [eM3]
    refine r_iload C dL_law_1149 1 rfl ?_
    refine r_icmp_eq (tgt := 1156) C dL_law_1151 (by decide) (fun _ => ?_) (fun h => absurd (by rw [e3, hm.1, hu.1]) h)
    refine r_iload C dL_law_1156 1 rfl ?_
    refine r_if_ne (tgt := 1173) C dL_law_1158 (by decide) (fun c1158 => ?_) (fun c1158 => ?_)
    ·
      have he := fun z => c1158 (hu.1.trans (congrArg nI z))
      refine r_goto (tgt := 1744) C dL_law_1173 (by decide) ?_
      refine r_sub (L' := [(4, .int (nI i)), (0, .ref b), (1, .ref (mA G 0)), (2, .ref (mA G 107)), (3, .ref (mA G 117))]) [2, 3, 4, 5, 6] rfl ?_
      exact next _ _ _ _ _ _ _ _ (cINV.offM (by rw [(hu.2.2 he).1]; exact hI) hm.2.1) (hm.2.2.2 he) (by omega) (by omega)
    ·
      have he := nI0_of (by unfold ePp; (repeat' split) <;> omega) (hu.1.symm.trans c1158)
      obtain ⟨a9, ha, hg1⟩ := hu.2.1 he
      refine r_aload_n C dL_law_1161 6 rfl ?_
      refine r_iconst (v := 0) C dL_law_1162 rfl ?_
      refine r_lald C dL_law_1163 rfl (vp_in_nI (by decide : 0 < 1) (by decide)) ?_
      refine r_iload C dL_law_1164 0 rfl ?_
      refine r_i2l C dL_law_1166 ?_
      refine r_lcmpE (by show g3 117 0 = r2.toInt64; rw [eg3, eg2, hg1, gset_at, (hm.2.2.1 he).1, ha.1]) C dL_law_1167 ?_
      refine r_if_eq (tgt := 1173) C dL_law_1168 (by decide) (fun _ => ?_) (fun h => absurd (by decide) h)
      refine r_goto (tgt := 1744) C dL_law_1173 (by decide) ?_
      refine r_sub (L' := [(4, .int (nI i)), (0, .ref b), (1, .ref (mA G 0)), (2, .ref (mA G 107)), (3, .ref (mA G 117))]) [2, 3, 4, 5, 6] rfl ?_
      exact next _ _ _ _ _ _ _ _ ((ha.2.1).offM hm.2.1) (hm.2.2.1 he).2 (by omega) (by omega)
  ·
    refine r_iconst (v := 1) C dL_law_1108 rfl ?_
    refine r_goto (tgt := 1113) C dL_law_1109 (by decide) ?_
    refine r_aload_n C dL_law_1113 4 rfl ?_
    refine r_lS (As := [.ref (mA G 0), .int (xs (i + 1)), .int 1, .ref (mA G 117)]) (rest := []) C dL_law_1114 w_L_139 (c_L_setMeter l G hG M g hfl V Hs len T hI (xs (i + 1)) 1) (Nat.le_of_ble_eq_true rfl) (Nat.le_of_ble_eq_true rfl) rfl rfl (Nat.le_of_ble_eq_true rfl) (show kk + 1 ≤ 601024 by omega) (show nn + 6 ≤ 7293034 by omega) (fun r1 M1 g1 hw => ?_)
    have hu := wr_u hw
    have hO1 : offC M M1 := wr_off hw (fun a9 ha => ha.2.2)
    have hR1 : rINV M1 V Hs len T := hR.offC hO1
    refine r_istore (L' := [(5, .int r1), (4, .int (nI i)), (0, .ref b), (1, .ref (mA G 0)), (2, .ref (mA G 107)), (3, .ref (mA G 117))]) C dL_law_1117 (by decide) rfl ?_
    refine r_aload_n C dL_law_1119 4 rfl ?_
    refine r_aload_n C dL_law_1120 2 rfl ?_
    refine r_iload C dL_law_1121 1 rfl ?_
    refine r_iconst (v := 1) C dL_law_1123 rfl ?_
    refine r_iadd C dL_law_1124 ?_
    refine r_valI (y := nI (i + 1)) (nI_add i 1) ?_
    refine r_sldN (j := i + 1) C hX hbl hbA hLL dL_law_1125 rfl (by omega) ?_
    refine r_aload_n C dL_law_1126 2 rfl ?_
    refine r_iload C dL_law_1127 1 rfl ?_
    refine r_iconst (v := 2) C dL_law_1129 rfl ?_
    refine r_iadd C dL_law_1130 ?_
    refine r_valI (y := nI (i + 2)) (nI_add i 2) ?_
    refine r_sldN (j := i + 2) C hX hbl hbA hLL dL_law_1131 rfl (by omega) ?_
    refine r_if_eq (tgt := 1139) C dL_law_1132 (by decide) (fun h => absurd h (c1105)) (fun _ => ?_)
    refine r_iconst (v := 1) C dL_law_1135 rfl ?_
    refine r_goto (tgt := 1140) C dL_law_1136 (by decide) ?_
    refine r_lVI (As := [.int (xs (i + 1)), .int 1]) (rest := []) C dL_law_1140 s_L_142 (c_X8_setMeter l G hG M1 g1 V Hs len T hW hR1 hHs (xs (i + 1)) 1) (Nat.le_of_ble_eq_true rfl) (Nat.le_of_ble_eq_true rfl) rfl rfl rfl rfl (Nat.le_of_ble_eq_true rfl) (show kk + 1 ≤ 601024 by omega) (show nn + 6 ≤ 7293034 by omega) (fun r2 M2 g2 h2 => ?_)
    obtain ⟨hm, eg2⟩ := h2
    refine r_istore (L' := [(6, .int r2), (5, .int r1), (4, .int (nI i)), (0, .ref b), (1, .ref (mA G 0)), (2, .ref (mA G 107)), (3, .ref (mA G 117))]) C dL_law_1143 (by decide) rfl ?_
    refine r_aload_n C dL_law_1145 5 rfl ?_
    refine r_lVI (As := []) (rest := []) C dL_law_1146 s_L_97 (c_X8_thrown l G hG M2 g2 ) (Nat.le_of_ble_eq_true rfl) (Nat.le_of_ble_eq_true rfl) rfl rfl rfl rfl (Nat.le_of_ble_eq_true rfl) (show kk + 1 ≤ 601024 by omega) (show nn + 6 ≤ 7293034 by omega) (fun r3 M3 g3 h3 => ?_)
    obtain ⟨e3, eM3, eg3⟩ := h3
    rw [eM3]
    refine r_iload C dL_law_1149 1 rfl ?_
    refine r_icmp_eq (tgt := 1156) C dL_law_1151 (by decide) (fun _ => ?_) (fun h => absurd (by rw [e3, hm.1, hu.1]) h)
    refine r_iload C dL_law_1156 1 rfl ?_
    refine r_if_ne (tgt := 1173) C dL_law_1158 (by decide) (fun c1158 => ?_) (fun c1158 => ?_)
    ·
      have he := fun z => c1158 (hu.1.trans (congrArg nI z))
      refine r_goto (tgt := 1744) C dL_law_1173 (by decide) ?_
      refine r_sub (L' := [(4, .int (nI i)), (0, .ref b), (1, .ref (mA G 0)), (2, .ref (mA G 107)), (3, .ref (mA G 117))]) [2, 3, 4, 5, 6] rfl ?_
      exact next _ _ _ _ _ _ _ _ (cINV.offM (by rw [(hu.2.2 he).1]; exact hI) hm.2.1) (hm.2.2.2 he) (by omega) (by omega)
    ·
      have he := nI0_of (by unfold ePp; (repeat' split) <;> omega) (hu.1.symm.trans c1158)
      obtain ⟨a9, ha, hg1⟩ := hu.2.1 he
      refine r_aload_n C dL_law_1161 6 rfl ?_
      refine r_iconst (v := 0) C dL_law_1162 rfl ?_
      refine r_lald C dL_law_1163 rfl (vp_in_nI (by decide : 0 < 1) (by decide)) ?_
      refine r_iload C dL_law_1164 0 rfl ?_
      refine r_i2l C dL_law_1166 ?_
      refine r_lcmpE (by show g3 117 0 = r2.toInt64; rw [eg3, eg2, hg1, gset_at, (hm.2.2.1 he).1, ha.1]) C dL_law_1167 ?_
      refine r_if_eq (tgt := 1173) C dL_law_1168 (by decide) (fun _ => ?_) (fun h => absurd (by decide) h)
      refine r_goto (tgt := 1744) C dL_law_1173 (by decide) ?_
      refine r_sub (L' := [(4, .int (nI i)), (0, .ref b), (1, .ref (mA G 0)), (2, .ref (mA G 107)), (3, .ref (mA G 117))]) [2, 3, 4, 5, 6] rfl ?_
      exact next _ _ _ _ _ _ _ _ ((ha.2.1).offM hm.2.1) (hm.2.2.1 he).2 (by omega) (by omega)

set_option maxRecDepth 20000 in
set_option maxHeartbeats 1000000 in
theorem lw_case_14 {p : Program} {l : Launch} {e : Env} {s : State} {m : MethodId} {args : Array Value} {below : List Frame} {meth : Method} {c : Code} {G : mG} {Q : State → Prop} {b LL : Nat} {xs : Nat → Int32} (X : lwCtx l p s m args c G b LL xs) (M : Mem) (g : Glo) (V : View) (Hs : List View) (len : Nat) (T : Nat → Int32) (hI : cINV M V Hs len T) (hR : rINV M V Hs len T) (i : Nat) (hi : i + 6 ≤ LL) (kk nn : Nat) (hk : kk + 6 ≤ 601024) (hn : nn + 36 ≤ 7293034) (next : lwNext p l e s m args below meth c G Q b i kk nn) : At p l e room_1 s m args below meth c G 9 kk nn Q M g [(4, .int (nI i)), (0, .ref b), (1, .ref (mA G 0)), (2, .ref (mA G 107)), (3, .ref (mA G 117))] 1176 [] := by
  obtain ⟨hfl, hG, C, hX, hbl, hbA, hLL⟩ := X
  obtain ⟨hC, hW, hH, hHs, hTx, hP0⟩ := id hI
  refine r_aload_n C dL_law_1176 2 rfl ?_
  refine r_aload_n C dL_law_1177 1 rfl ?_
  refine r_iload C dL_law_1178 0 rfl ?_
  refine r_iconst (v := 1) C dL_law_1180 rfl ?_
  refine r_iadd C dL_law_1181 ?_
  refine r_valI (y := nI (i + 1)) (nI_add i 1) ?_
  refine r_sldN (j := i + 1) C hX hbl hbA hLL dL_law_1182 rfl (by omega) ?_
  refine r_aload_n C dL_law_1183 4 rfl ?_
  refine r_lS (As := [.ref (mA G 0), .int (xs (i + 1)), .ref (mA G 117)]) (rest := []) C dL_law_1184 w_L_143 (c_L_balance l G hG M g hfl V Hs len T hI (xs (i + 1))) (Nat.le_of_ble_eq_true rfl) (Nat.le_of_ble_eq_true rfl) rfl rfl (Nat.le_of_ble_eq_true rfl) (show kk + 1 ≤ 601024 by omega) (show nn + 6 ≤ 7293034 by omega) (fun r1 M1 g1 hw => ?_)
  have hu := wr_u hw
  have hO1 : offC M M1 := wr_off hw (fun a9 ha => ha.2 ▸ offR.rf M 0 106)
  have hR1 : rINV M1 V Hs len T := hR.offC hO1
  refine r_istore (L' := [(5, .int r1), (4, .int (nI i)), (0, .ref b), (1, .ref (mA G 0)), (2, .ref (mA G 107)), (3, .ref (mA G 117))]) C dL_law_1187 (by decide) rfl ?_
  refine r_aload_n C dL_law_1189 4 rfl ?_
  refine r_aload_n C dL_law_1190 2 rfl ?_
  refine r_iload C dL_law_1191 1 rfl ?_
  refine r_iconst (v := 1) C dL_law_1193 rfl ?_
  refine r_iadd C dL_law_1194 ?_
  refine r_valI (y := nI (i + 1)) (nI_add i 1) ?_
  refine r_sldN (j := i + 1) C hX hbl hbA hLL dL_law_1195 rfl (by omega) ?_
  refine r_lVI (As := [.int (xs (i + 1))]) (rest := []) C dL_law_1196 s_L_145 (c_X8_balance l G hG M1 g1 V Hs len T hW hR1 (xs (i + 1))) (Nat.le_of_ble_eq_true rfl) (Nat.le_of_ble_eq_true rfl) rfl rfl rfl rfl (Nat.le_of_ble_eq_true rfl) (show kk + 1 ≤ 601024 by omega) (show nn + 6 ≤ 7293034 by omega) (fun r2 M2 g2 h2 => ?_)
  obtain ⟨hm, eg2⟩ := h2
  refine r_istore (L' := [(6, .int r2), (5, .int r1), (4, .int (nI i)), (0, .ref b), (1, .ref (mA G 0)), (2, .ref (mA G 107)), (3, .ref (mA G 117))]) C dL_law_1199 (by decide) rfl ?_
  refine r_aload_n C dL_law_1201 5 rfl ?_
  refine r_lVI (As := []) (rest := []) C dL_law_1202 s_L_97 (c_X8_thrown l G hG M2 g2 ) (Nat.le_of_ble_eq_true rfl) (Nat.le_of_ble_eq_true rfl) rfl rfl rfl rfl (Nat.le_of_ble_eq_true rfl) (show kk + 1 ≤ 601024 by omega) (show nn + 6 ≤ 7293034 by omega) (fun r3 M3 g3 h3 => ?_)
  obtain ⟨e3, eM3, eg3⟩ := h3
  rw [eM3]
  refine r_iload C dL_law_1205 1 rfl ?_
  refine r_icmp_eq (tgt := 1212) C dL_law_1207 (by decide) (fun _ => ?_) (fun h => absurd (by rw [e3, hm.1, hu.1]) h)
  refine r_iload C dL_law_1212 1 rfl ?_
  refine r_if_ne (tgt := 1229) C dL_law_1214 (by decide) (fun c1214 => ?_) (fun c1214 => ?_)
  ·
    have he := fun z => c1214 (hu.1.trans (congrArg nI z))
    refine r_goto (tgt := 1744) C dL_law_1229 (by decide) ?_
    refine r_sub (L' := [(4, .int (nI i)), (0, .ref b), (1, .ref (mA G 0)), (2, .ref (mA G 107)), (3, .ref (mA G 117))]) [2, 3, 4, 5, 6] rfl ?_
    exact next _ _ _ _ _ _ _ _ (cINV.offM (by rw [(hu.2.2 he).1]; exact hI) hm.2.1) (hm.2.2.2 he) (by omega) (by omega)
  ·
    have he := nI0_of (by unfold eNd; (repeat' split) <;> omega) (hu.1.symm.trans c1214)
    obtain ⟨a9, ha, hg1⟩ := hu.2.1 he
    refine r_aload_n C dL_law_1217 6 rfl ?_
    refine r_iconst (v := 0) C dL_law_1218 rfl ?_
    refine r_lald C dL_law_1219 rfl (vp_in_nI (by decide : 0 < 1) (by decide)) ?_
    refine r_iload C dL_law_1220 0 rfl ?_
    refine r_i2l C dL_law_1222 ?_
    refine r_lcmpE (by show g3 117 0 = r2.toInt64; rw [eg3, eg2, hg1, gset_at, (hm.2.2.1 he).1, ha.1]) C dL_law_1223 ?_
    refine r_if_eq (tgt := 1229) C dL_law_1224 (by decide) (fun _ => ?_) (fun h => absurd (by decide) h)
    refine r_goto (tgt := 1744) C dL_law_1229 (by decide) ?_
    refine r_sub (L' := [(4, .int (nI i)), (0, .ref b), (1, .ref (mA G 0)), (2, .ref (mA G 107)), (3, .ref (mA G 117))]) [2, 3, 4, 5, 6] rfl ?_
    exact next _ _ _ _ _ _ _ _ ((show cINV M1 V Hs len T by rw [ha.2]; exact hI).offM hm.2.1) (hm.2.2.1 he).2 (by omega) (by omega)

set_option maxRecDepth 20000 in
set_option maxHeartbeats 1000000 in
theorem lw_case_15 {p : Program} {l : Launch} {e : Env} {s : State} {m : MethodId} {args : Array Value} {below : List Frame} {meth : Method} {c : Code} {G : mG} {Q : State → Prop} {b LL : Nat} {xs : Nat → Int32} (X : lwCtx l p s m args c G b LL xs) (M : Mem) (g : Glo) (V : View) (Hs : List View) (len : Nat) (T : Nat → Int32) (hI : cINV M V Hs len T) (hR : rINV M V Hs len T) (i : Nat) (hi : i + 6 ≤ LL) (kk nn : Nat) (hk : kk + 6 ≤ 601024) (hn : nn + 36 ≤ 7293034) (next : lwNext p l e s m args below meth c G Q b i kk nn) : At p l e room_1 s m args below meth c G 9 kk nn Q M g [(4, .int (nI i)), (0, .ref b), (1, .ref (mA G 0)), (2, .ref (mA G 107)), (3, .ref (mA G 117))] 1232 [] := by
  obtain ⟨hfl, hG, C, hX, hbl, hbA, hLL⟩ := X
  obtain ⟨hC, hW, hH, hHs, hTx, hP0⟩ := id hI
  refine r_aload_n C dL_law_1232 2 rfl ?_
  refine r_aload_n C dL_law_1233 1 rfl ?_
  refine r_iload C dL_law_1234 0 rfl ?_
  refine r_iconst (v := 1) C dL_law_1236 rfl ?_
  refine r_iadd C dL_law_1237 ?_
  refine r_valI (y := nI (i + 1)) (nI_add i 1) ?_
  refine r_sldN (j := i + 1) C hX hbl hbA hLL dL_law_1238 rfl (by omega) ?_
  refine r_aload_n C dL_law_1239 4 rfl ?_
  refine r_lS (As := [.ref (mA G 0), .int (xs (i + 1)), .ref (mA G 117)]) (rest := []) C dL_law_1240 w_L_146 (c_L_region l G hG M g hfl V Hs len T hI (xs (i + 1))) (Nat.le_of_ble_eq_true rfl) (Nat.le_of_ble_eq_true rfl) rfl rfl (Nat.le_of_ble_eq_true rfl) (show kk + 1 ≤ 601024 by omega) (show nn + 6 ≤ 7293034 by omega) (fun r1 M1 g1 hw => ?_)
  have hu := wr_u hw
  have hO1 : offC M M1 := wr_off hw (fun a9 ha => ha.2 ▸ offR.rf M 0 106)
  have hR1 : rINV M1 V Hs len T := hR.offC hO1
  refine r_istore (L' := [(5, .int r1), (4, .int (nI i)), (0, .ref b), (1, .ref (mA G 0)), (2, .ref (mA G 107)), (3, .ref (mA G 117))]) C dL_law_1243 (by decide) rfl ?_
  refine r_aload_n C dL_law_1245 4 rfl ?_
  refine r_aload_n C dL_law_1246 2 rfl ?_
  refine r_iload C dL_law_1247 1 rfl ?_
  refine r_iconst (v := 1) C dL_law_1249 rfl ?_
  refine r_iadd C dL_law_1250 ?_
  refine r_valI (y := nI (i + 1)) (nI_add i 1) ?_
  refine r_sldN (j := i + 1) C hX hbl hbA hLL dL_law_1251 rfl (by omega) ?_
  refine r_lVI (As := [.int (xs (i + 1))]) (rest := []) C dL_law_1252 s_L_148 (c_X8_region l G hG M1 g1 V Hs len T hW hR1 (xs (i + 1))) (Nat.le_of_ble_eq_true rfl) (Nat.le_of_ble_eq_true rfl) rfl rfl rfl rfl (Nat.le_of_ble_eq_true rfl) (show kk + 1 ≤ 601024 by omega) (show nn + 6 ≤ 7293034 by omega) (fun r2 M2 g2 h2 => ?_)
  obtain ⟨hm, eg2⟩ := h2
  refine r_istore (L' := [(6, .int r2), (5, .int r1), (4, .int (nI i)), (0, .ref b), (1, .ref (mA G 0)), (2, .ref (mA G 107)), (3, .ref (mA G 117))]) C dL_law_1255 (by decide) rfl ?_
  refine r_aload_n C dL_law_1257 5 rfl ?_
  refine r_lVI (As := []) (rest := []) C dL_law_1258 s_L_97 (c_X8_thrown l G hG M2 g2 ) (Nat.le_of_ble_eq_true rfl) (Nat.le_of_ble_eq_true rfl) rfl rfl rfl rfl (Nat.le_of_ble_eq_true rfl) (show kk + 1 ≤ 601024 by omega) (show nn + 6 ≤ 7293034 by omega) (fun r3 M3 g3 h3 => ?_)
  obtain ⟨e3, eM3, eg3⟩ := h3
  rw [eM3]
  refine r_iload C dL_law_1261 1 rfl ?_
  refine r_icmp_eq (tgt := 1268) C dL_law_1263 (by decide) (fun _ => ?_) (fun h => absurd (by rw [e3, hm.1, hu.1]) h)
  refine r_iload C dL_law_1268 1 rfl ?_
  refine r_if_ne (tgt := 1285) C dL_law_1270 (by decide) (fun c1270 => ?_) (fun c1270 => ?_)
  ·
    have he := fun z => c1270 (hu.1.trans (congrArg nI z))
    refine r_goto (tgt := 1744) C dL_law_1285 (by decide) ?_
    refine r_sub (L' := [(4, .int (nI i)), (0, .ref b), (1, .ref (mA G 0)), (2, .ref (mA G 107)), (3, .ref (mA G 117))]) [2, 3, 4, 5, 6] rfl ?_
    exact next _ _ _ _ _ _ _ _ (cINV.offM (by rw [(hu.2.2 he).1]; exact hI) hm.2.1) (hm.2.2.2 he) (by omega) (by omega)
  ·
    have he := nI0_of (by unfold eNd; (repeat' split) <;> omega) (hu.1.symm.trans c1270)
    obtain ⟨a9, ha, hg1⟩ := hu.2.1 he
    refine r_aload_n C dL_law_1273 6 rfl ?_
    refine r_iconst (v := 0) C dL_law_1274 rfl ?_
    refine r_lald C dL_law_1275 rfl (vp_in_nI (by decide : 0 < 1) (by decide)) ?_
    refine r_iload C dL_law_1276 0 rfl ?_
    refine r_i2l C dL_law_1278 ?_
    refine r_lcmpE (by show g3 117 0 = r2.toInt64; rw [eg3, eg2, hg1, gset_at, (hm.2.2.1 he).1, ha.1]) C dL_law_1279 ?_
    refine r_if_eq (tgt := 1285) C dL_law_1280 (by decide) (fun _ => ?_) (fun h => absurd (by decide) h)
    refine r_goto (tgt := 1744) C dL_law_1285 (by decide) ?_
    refine r_sub (L' := [(4, .int (nI i)), (0, .ref b), (1, .ref (mA G 0)), (2, .ref (mA G 107)), (3, .ref (mA G 117))]) [2, 3, 4, 5, 6] rfl ?_
    exact next _ _ _ _ _ _ _ _ ((show cINV M1 V Hs len T by rw [ha.2]; exact hI).offM hm.2.1) (hm.2.2.1 he).2 (by omega) (by omega)

set_option maxRecDepth 20000 in
set_option maxHeartbeats 1000000 in
theorem lw_case_16 {p : Program} {l : Launch} {e : Env} {s : State} {m : MethodId} {args : Array Value} {below : List Frame} {meth : Method} {c : Code} {G : mG} {Q : State → Prop} {b LL : Nat} {xs : Nat → Int32} (X : lwCtx l p s m args c G b LL xs) (M : Mem) (g : Glo) (V : View) (Hs : List View) (len : Nat) (T : Nat → Int32) (hI : cINV M V Hs len T) (hR : rINV M V Hs len T) (i : Nat) (hi : i + 6 ≤ LL) (kk nn : Nat) (hk : kk + 6 ≤ 601024) (hn : nn + 36 ≤ 7293034) (next : lwNext p l e s m args below meth c G Q b i kk nn) : At p l e room_1 s m args below meth c G 9 kk nn Q M g [(4, .int (nI i)), (0, .ref b), (1, .ref (mA G 0)), (2, .ref (mA G 107)), (3, .ref (mA G 117))] 1288 [] := by
  obtain ⟨hfl, hG, C, hX, hbl, hbA, hLL⟩ := X
  obtain ⟨hC, hW, hH, hHs, hTx, hP0⟩ := id hI
  refine r_aload_n C dL_law_1288 2 rfl ?_
  refine r_aload_n C dL_law_1289 1 rfl ?_
  refine r_iload C dL_law_1290 0 rfl ?_
  refine r_iconst (v := 1) C dL_law_1292 rfl ?_
  refine r_iadd C dL_law_1293 ?_
  refine r_valI (y := nI (i + 1)) (nI_add i 1) ?_
  refine r_sldN (j := i + 1) C hX hbl hbA hLL dL_law_1294 rfl (by omega) ?_
  refine r_aload_n C dL_law_1295 4 rfl ?_
  refine r_lS (As := [.ref (mA G 0), .int (xs (i + 1)), .ref (mA G 117)]) (rest := []) C dL_law_1296 w_L_149 (c_L_meterOf l G hG M g hfl V Hs len T hI (xs (i + 1))) (Nat.le_of_ble_eq_true rfl) (Nat.le_of_ble_eq_true rfl) rfl rfl (Nat.le_of_ble_eq_true rfl) (show kk + 1 ≤ 601024 by omega) (show nn + 6 ≤ 7293034 by omega) (fun r1 M1 g1 hw => ?_)
  have hu := wr_u hw
  have hO1 : offC M M1 := wr_off hw (fun a9 ha => ha.2 ▸ offR.rf M 0 106)
  have hR1 : rINV M1 V Hs len T := hR.offC hO1
  refine r_istore (L' := [(5, .int r1), (4, .int (nI i)), (0, .ref b), (1, .ref (mA G 0)), (2, .ref (mA G 107)), (3, .ref (mA G 117))]) C dL_law_1299 (by decide) rfl ?_
  refine r_aload_n C dL_law_1301 4 rfl ?_
  refine r_aload_n C dL_law_1302 2 rfl ?_
  refine r_iload C dL_law_1303 1 rfl ?_
  refine r_iconst (v := 1) C dL_law_1305 rfl ?_
  refine r_iadd C dL_law_1306 ?_
  refine r_valI (y := nI (i + 1)) (nI_add i 1) ?_
  refine r_sldN (j := i + 1) C hX hbl hbA hLL dL_law_1307 rfl (by omega) ?_
  refine r_lVI (As := [.int (xs (i + 1))]) (rest := []) C dL_law_1308 s_L_151 (c_X8_meterOf l G hG M1 g1 V Hs len T hW hR1 (xs (i + 1))) (Nat.le_of_ble_eq_true rfl) (Nat.le_of_ble_eq_true rfl) rfl rfl rfl rfl (Nat.le_of_ble_eq_true rfl) (show kk + 1 ≤ 601024 by omega) (show nn + 6 ≤ 7293034 by omega) (fun r2 M2 g2 h2 => ?_)
  obtain ⟨hm, eg2⟩ := h2
  refine r_istore (L' := [(6, .int r2), (5, .int r1), (4, .int (nI i)), (0, .ref b), (1, .ref (mA G 0)), (2, .ref (mA G 107)), (3, .ref (mA G 117))]) C dL_law_1311 (by decide) rfl ?_
  refine r_aload_n C dL_law_1313 5 rfl ?_
  refine r_lVI (As := []) (rest := []) C dL_law_1314 s_L_97 (c_X8_thrown l G hG M2 g2 ) (Nat.le_of_ble_eq_true rfl) (Nat.le_of_ble_eq_true rfl) rfl rfl rfl rfl (Nat.le_of_ble_eq_true rfl) (show kk + 1 ≤ 601024 by omega) (show nn + 6 ≤ 7293034 by omega) (fun r3 M3 g3 h3 => ?_)
  obtain ⟨e3, eM3, eg3⟩ := h3
  rw [eM3]
  refine r_iload C dL_law_1317 1 rfl ?_
  refine r_icmp_eq (tgt := 1324) C dL_law_1319 (by decide) (fun _ => ?_) (fun h => absurd (by rw [e3, hm.1, hu.1]) h)
  refine r_iload C dL_law_1324 1 rfl ?_
  refine r_if_ne (tgt := 1341) C dL_law_1326 (by decide) (fun c1326 => ?_) (fun c1326 => ?_)
  ·
    have he := fun z => c1326 (hu.1.trans (congrArg nI z))
    refine r_goto (tgt := 1744) C dL_law_1341 (by decide) ?_
    refine r_sub (L' := [(4, .int (nI i)), (0, .ref b), (1, .ref (mA G 0)), (2, .ref (mA G 107)), (3, .ref (mA G 117))]) [2, 3, 4, 5, 6] rfl ?_
    exact next _ _ _ _ _ _ _ _ (cINV.offM (by rw [(hu.2.2 he).1]; exact hI) hm.2.1) (hm.2.2.2 he) (by omega) (by omega)
  ·
    have he := nI0_of (by unfold ePp; (repeat' split) <;> omega) (hu.1.symm.trans c1326)
    obtain ⟨a9, ha, hg1⟩ := hu.2.1 he
    refine r_aload_n C dL_law_1329 6 rfl ?_
    refine r_iconst (v := 0) C dL_law_1330 rfl ?_
    refine r_lald C dL_law_1331 rfl (vp_in_nI (by decide : 0 < 1) (by decide)) ?_
    refine r_iload C dL_law_1332 0 rfl ?_
    refine r_i2l C dL_law_1334 ?_
    refine r_lcmpE (by show g3 117 0 = r2.toInt64; rw [eg3, eg2, hg1, gset_at, (hm.2.2.1 he).1, ha.1]) C dL_law_1335 ?_
    refine r_if_eq (tgt := 1341) C dL_law_1336 (by decide) (fun _ => ?_) (fun h => absurd (by decide) h)
    refine r_goto (tgt := 1744) C dL_law_1341 (by decide) ?_
    refine r_sub (L' := [(4, .int (nI i)), (0, .ref b), (1, .ref (mA G 0)), (2, .ref (mA G 107)), (3, .ref (mA G 117))]) [2, 3, 4, 5, 6] rfl ?_
    exact next _ _ _ _ _ _ _ _ ((show cINV M1 V Hs len T by rw [ha.2]; exact hI).offM hm.2.1) (hm.2.2.1 he).2 (by omega) (by omega)

set_option maxRecDepth 20000 in
set_option maxHeartbeats 1000000 in
theorem lw_case_17 {p : Program} {l : Launch} {e : Env} {s : State} {m : MethodId} {args : Array Value} {below : List Frame} {meth : Method} {c : Code} {G : mG} {Q : State → Prop} {b LL : Nat} {xs : Nat → Int32} (X : lwCtx l p s m args c G b LL xs) (M : Mem) (g : Glo) (V : View) (Hs : List View) (len : Nat) (T : Nat → Int32) (hI : cINV M V Hs len T) (hR : rINV M V Hs len T) (i : Nat) (hi : i + 6 ≤ LL) (kk nn : Nat) (hk : kk + 6 ≤ 601024) (hn : nn + 36 ≤ 7293034) (next : lwNext p l e s m args below meth c G Q b i kk nn) : At p l e room_1 s m args below meth c G 9 kk nn Q M g [(4, .int (nI i)), (0, .ref b), (1, .ref (mA G 0)), (2, .ref (mA G 107)), (3, .ref (mA G 117))] 1344 [] := by
  obtain ⟨hfl, hG, C, hX, hbl, hbA, hLL⟩ := X
  obtain ⟨hC, hW, hH, hHs, hTx, hP0⟩ := id hI
  refine r_aload_n C dL_law_1344 2 rfl ?_
  refine r_aload_n C dL_law_1345 1 rfl ?_
  refine r_iload C dL_law_1346 0 rfl ?_
  refine r_iconst (v := 1) C dL_law_1348 rfl ?_
  refine r_iadd C dL_law_1349 ?_
  refine r_valI (y := nI (i + 1)) (nI_add i 1) ?_
  refine r_sldN (j := i + 1) C hX hbl hbA hLL dL_law_1350 rfl (by omega) ?_
  refine r_aload_n C dL_law_1351 4 rfl ?_
  refine r_lS (As := [.ref (mA G 0), .int (xs (i + 1)), .ref (mA G 117)]) (rest := []) C dL_law_1352 w_L_152 (c_L_nextMeter l G hG M g hfl V Hs len T hI (xs (i + 1))) (Nat.le_of_ble_eq_true rfl) (Nat.le_of_ble_eq_true rfl) rfl rfl (Nat.le_of_ble_eq_true rfl) (show kk + 1 ≤ 601024 by omega) (show nn + 6 ≤ 7293034 by omega) (fun r1 M1 g1 hw => ?_)
  have hu := wr_u hw
  have hO1 : offC M M1 := wr_off hw (fun a9 ha => ha.2 ▸ offR.rf M 0 106)
  have hR1 : rINV M1 V Hs len T := hR.offC hO1
  refine r_istore (L' := [(5, .int r1), (4, .int (nI i)), (0, .ref b), (1, .ref (mA G 0)), (2, .ref (mA G 107)), (3, .ref (mA G 117))]) C dL_law_1355 (by decide) rfl ?_
  refine r_aload_n C dL_law_1357 4 rfl ?_
  refine r_aload_n C dL_law_1358 2 rfl ?_
  refine r_iload C dL_law_1359 1 rfl ?_
  refine r_iconst (v := 1) C dL_law_1361 rfl ?_
  refine r_iadd C dL_law_1362 ?_
  refine r_valI (y := nI (i + 1)) (nI_add i 1) ?_
  refine r_sldN (j := i + 1) C hX hbl hbA hLL dL_law_1363 rfl (by omega) ?_
  refine r_lVI (As := [.int (xs (i + 1))]) (rest := []) C dL_law_1364 s_L_154 (c_X8_nextMeter l G hG M1 g1 V Hs len T hW hR1 (xs (i + 1))) (Nat.le_of_ble_eq_true rfl) (Nat.le_of_ble_eq_true rfl) rfl rfl rfl rfl (Nat.le_of_ble_eq_true rfl) (show kk + 1 ≤ 601024 by omega) (show nn + 6 ≤ 7293034 by omega) (fun r2 M2 g2 h2 => ?_)
  obtain ⟨hm, eg2⟩ := h2
  refine r_istore (L' := [(6, .int r2), (5, .int r1), (4, .int (nI i)), (0, .ref b), (1, .ref (mA G 0)), (2, .ref (mA G 107)), (3, .ref (mA G 117))]) C dL_law_1367 (by decide) rfl ?_
  refine r_aload_n C dL_law_1369 5 rfl ?_
  refine r_lVI (As := []) (rest := []) C dL_law_1370 s_L_97 (c_X8_thrown l G hG M2 g2 ) (Nat.le_of_ble_eq_true rfl) (Nat.le_of_ble_eq_true rfl) rfl rfl rfl rfl (Nat.le_of_ble_eq_true rfl) (show kk + 1 ≤ 601024 by omega) (show nn + 6 ≤ 7293034 by omega) (fun r3 M3 g3 h3 => ?_)
  obtain ⟨e3, eM3, eg3⟩ := h3
  rw [eM3]
  refine r_iload C dL_law_1373 1 rfl ?_
  refine r_icmp_eq (tgt := 1380) C dL_law_1375 (by decide) (fun _ => ?_) (fun h => absurd (by rw [e3, hm.1, hu.1]) h)
  refine r_iload C dL_law_1380 1 rfl ?_
  refine r_if_ne (tgt := 1397) C dL_law_1382 (by decide) (fun c1382 => ?_) (fun c1382 => ?_)
  ·
    have he := fun z => c1382 (hu.1.trans (congrArg nI z))
    refine r_goto (tgt := 1744) C dL_law_1397 (by decide) ?_
    refine r_sub (L' := [(4, .int (nI i)), (0, .ref b), (1, .ref (mA G 0)), (2, .ref (mA G 107)), (3, .ref (mA G 117))]) [2, 3, 4, 5, 6] rfl ?_
    exact next _ _ _ _ _ _ _ _ (cINV.offM (by rw [(hu.2.2 he).1]; exact hI) hm.2.1) (hm.2.2.2 he) (by omega) (by omega)
  ·
    have he := nI0_of (by unfold eNd; (repeat' split) <;> omega) (hu.1.symm.trans c1382)
    obtain ⟨a9, ha, hg1⟩ := hu.2.1 he
    refine r_aload_n C dL_law_1385 6 rfl ?_
    refine r_iconst (v := 0) C dL_law_1386 rfl ?_
    refine r_lald C dL_law_1387 rfl (vp_in_nI (by decide : 0 < 1) (by decide)) ?_
    refine r_iload C dL_law_1388 0 rfl ?_
    refine r_i2l C dL_law_1390 ?_
    refine r_lcmpE (by show g3 117 0 = r2.toInt64; rw [eg3, eg2, hg1, gset_at, (hm.2.2.1 he).1, ha.1]) C dL_law_1391 ?_
    refine r_if_eq (tgt := 1397) C dL_law_1392 (by decide) (fun _ => ?_) (fun h => absurd (by decide) h)
    refine r_goto (tgt := 1744) C dL_law_1397 (by decide) ?_
    refine r_sub (L' := [(4, .int (nI i)), (0, .ref b), (1, .ref (mA G 0)), (2, .ref (mA G 107)), (3, .ref (mA G 117))]) [2, 3, 4, 5, 6] rfl ?_
    exact next _ _ _ _ _ _ _ _ ((show cINV M1 V Hs len T by rw [ha.2]; exact hI).offM hm.2.1) (hm.2.2.1 he).2 (by omega) (by omega)

set_option maxRecDepth 20000 in
set_option maxHeartbeats 1000000 in
theorem lw_case_22 {p : Program} {l : Launch} {e : Env} {s : State} {m : MethodId} {args : Array Value} {below : List Frame} {meth : Method} {c : Code} {G : mG} {Q : State → Prop} {b LL : Nat} {xs : Nat → Int32} (X : lwCtx l p s m args c G b LL xs) (M : Mem) (g : Glo) (V : View) (Hs : List View) (len : Nat) (T : Nat → Int32) (hI : cINV M V Hs len T) (hR : rINV M V Hs len T) (i : Nat) (hi : i + 6 ≤ LL) (kk nn : Nat) (hk : kk + 6 ≤ 601024) (hn : nn + 36 ≤ 7293034) (next : lwNext p l e s m args below meth c G Q b i kk nn) : At p l e room_1 s m args below meth c G 9 kk nn Q M g [(4, .int (nI i)), (0, .ref b), (1, .ref (mA G 0)), (2, .ref (mA G 107)), (3, .ref (mA G 117))] 1507 [] := by
  obtain ⟨hfl, hG, C, hX, hbl, hbA, hLL⟩ := X
  obtain ⟨hC, hW, hH, hHs, hTx, hP0⟩ := id hI
  refine r_aload_n C dL_law_1507 2 rfl ?_
  refine r_aload_n C dL_law_1508 1 rfl ?_
  refine r_iload C dL_law_1509 0 rfl ?_
  refine r_iconst (v := 1) C dL_law_1511 rfl ?_
  refine r_iadd C dL_law_1512 ?_
  refine r_valI (y := nI (i + 1)) (nI_add i 1) ?_
  refine r_sldN (j := i + 1) C hX hbl hbA hLL dL_law_1513 rfl (by omega) ?_
  refine r_aload_n C dL_law_1514 4 rfl ?_
  refine r_lS (As := [.ref (mA G 0), .int (xs (i + 1)), .ref (mA G 117)]) (rest := []) C dL_law_1515 w_L_170 (c_L_saves l G hG M g hfl V Hs len T hI (xs (i + 1))) (Nat.le_of_ble_eq_true rfl) (Nat.le_of_ble_eq_true rfl) rfl rfl (Nat.le_of_ble_eq_true rfl) (show kk + 1 ≤ 601024 by omega) (show nn + 6 ≤ 7293034 by omega) (fun r1 M1 g1 hw => ?_)
  have hu := wr_u hw
  have hO1 : offC M M1 := wr_off hw (fun a9 ha => ha.2.2)
  have hR1 : rINV M1 V Hs len T := hR.offC hO1
  refine r_istore (L' := [(5, .int r1), (4, .int (nI i)), (0, .ref b), (1, .ref (mA G 0)), (2, .ref (mA G 107)), (3, .ref (mA G 117))]) C dL_law_1518 (by decide) rfl ?_
  refine r_aload_n C dL_law_1520 4 rfl ?_
  refine r_aload_n C dL_law_1521 2 rfl ?_
  refine r_iload C dL_law_1522 1 rfl ?_
  refine r_iconst (v := 1) C dL_law_1524 rfl ?_
  refine r_iadd C dL_law_1525 ?_
  refine r_valI (y := nI (i + 1)) (nI_add i 1) ?_
  refine r_sldN (j := i + 1) C hX hbl hbA hLL dL_law_1526 rfl (by omega) ?_
  refine r_lVI (As := [.int (xs (i + 1))]) (rest := []) C dL_law_1527 s_L_172 (c_X8_saves l G hG M1 g1 V Hs len T hW hR1 (xs (i + 1))) (Nat.le_of_ble_eq_true rfl) (Nat.le_of_ble_eq_true rfl) rfl rfl rfl rfl (Nat.le_of_ble_eq_true rfl) (show kk + 1 ≤ 601024 by omega) (show nn + 6 ≤ 7293034 by omega) (fun r2 M2 g2 h2 => ?_)
  obtain ⟨hm, eg2⟩ := h2
  refine r_istore (L' := [(6, .int r2), (5, .int r1), (4, .int (nI i)), (0, .ref b), (1, .ref (mA G 0)), (2, .ref (mA G 107)), (3, .ref (mA G 117))]) C dL_law_1530 (by decide) rfl ?_
  refine r_aload_n C dL_law_1532 5 rfl ?_
  refine r_lVI (As := []) (rest := []) C dL_law_1533 s_L_97 (c_X8_thrown l G hG M2 g2 ) (Nat.le_of_ble_eq_true rfl) (Nat.le_of_ble_eq_true rfl) rfl rfl rfl rfl (Nat.le_of_ble_eq_true rfl) (show kk + 1 ≤ 601024 by omega) (show nn + 6 ≤ 7293034 by omega) (fun r3 M3 g3 h3 => ?_)
  obtain ⟨e3, eM3, eg3⟩ := h3
  rw [eM3]
  refine r_iload C dL_law_1536 1 rfl ?_
  refine r_icmp_eq (tgt := 1543) C dL_law_1538 (by decide) (fun _ => ?_) (fun h => absurd (by rw [e3, hm.1, hu.1]) h)
  refine r_iload C dL_law_1543 1 rfl ?_
  refine r_if_ne (tgt := 1560) C dL_law_1545 (by decide) (fun c1545 => ?_) (fun c1545 => ?_)
  ·
    have he := fun z => c1545 (hu.1.trans (congrArg nI z))
    refine r_goto (tgt := 1744) C dL_law_1560 (by decide) ?_
    refine r_sub (L' := [(4, .int (nI i)), (0, .ref b), (1, .ref (mA G 0)), (2, .ref (mA G 107)), (3, .ref (mA G 117))]) [2, 3, 4, 5, 6] rfl ?_
    exact next _ _ _ _ _ _ _ _ (cINV.offM (by rw [(hu.2.2 he).1]; exact hI) hm.2.1) (hm.2.2.2 he) (by omega) (by omega)
  ·
    have he := nI0_of (by unfold ePp; (repeat' split) <;> omega) (hu.1.symm.trans c1545)
    obtain ⟨a9, ha, hg1⟩ := hu.2.1 he
    refine r_aload_n C dL_law_1548 6 rfl ?_
    refine r_iconst (v := 0) C dL_law_1549 rfl ?_
    refine r_lald C dL_law_1550 rfl (vp_in_nI (by decide : 0 < 1) (by decide)) ?_
    refine r_iload C dL_law_1551 0 rfl ?_
    refine r_i2l C dL_law_1553 ?_
    refine r_lcmpE (by show g3 117 0 = r2.toInt64; rw [eg3, eg2, hg1, gset_at, (hm.2.2.1 he).1, ha.1]) C dL_law_1554 ?_
    refine r_if_eq (tgt := 1560) C dL_law_1555 (by decide) (fun _ => ?_) (fun h => absurd (by decide) h)
    refine r_goto (tgt := 1744) C dL_law_1560 (by decide) ?_
    refine r_sub (L' := [(4, .int (nI i)), (0, .ref b), (1, .ref (mA G 0)), (2, .ref (mA G 107)), (3, .ref (mA G 117))]) [2, 3, 4, 5, 6] rfl ?_
    exact next _ _ _ _ _ _ _ _ ((ha.2.1).offM hm.2.1) (hm.2.2.1 he).2 (by omega) (by omega)

set_option maxRecDepth 20000 in
set_option maxHeartbeats 1000000 in
theorem lw_case_24 {p : Program} {l : Launch} {e : Env} {s : State} {m : MethodId} {args : Array Value} {below : List Frame} {meth : Method} {c : Code} {G : mG} {Q : State → Prop} {b LL : Nat} {xs : Nat → Int32} (X : lwCtx l p s m args c G b LL xs) (M : Mem) (g : Glo) (V : View) (Hs : List View) (len : Nat) (T : Nat → Int32) (hI : cINV M V Hs len T) (hR : rINV M V Hs len T) (i : Nat) (hi : i + 6 ≤ LL) (kk nn : Nat) (hk : kk + 6 ≤ 601024) (hn : nn + 36 ≤ 7293034) (next : lwNext p l e s m args below meth c G Q b i kk nn) : At p l e room_1 s m args below meth c G 9 kk nn Q M g [(4, .int (nI i)), (0, .ref b), (1, .ref (mA G 0)), (2, .ref (mA G 107)), (3, .ref (mA G 117))] 1604 [] := by
  obtain ⟨hfl, hG, C, hX, hbl, hbA, hLL⟩ := X
  obtain ⟨hC, hW, hH, hHs, hTx, hP0⟩ := id hI
  refine r_aload_n C dL_law_1604 2 rfl ?_
  refine r_aload_n C dL_law_1605 1 rfl ?_
  refine r_iload C dL_law_1606 0 rfl ?_
  refine r_iconst (v := 1) C dL_law_1608 rfl ?_
  refine r_iadd C dL_law_1609 ?_
  refine r_valI (y := nI (i + 1)) (nI_add i 1) ?_
  refine r_sldN (j := i + 1) C hX hbl hbA hLL dL_law_1610 rfl (by omega) ?_
  refine r_aload_n C dL_law_1611 4 rfl ?_
  refine r_lS (As := [.ref (mA G 0), .int (xs (i + 1)), .ref (mA G 117)]) (rest := []) C dL_law_1612 w_L_178 (c_L_append l G hG M g hfl V Hs len T hI (xs (i + 1))) (Nat.le_of_ble_eq_true rfl) (Nat.le_of_ble_eq_true rfl) rfl rfl (Nat.le_of_ble_eq_true rfl) (show kk + 2 ≤ 601024 by omega) (show nn + 12 ≤ 7293034 by omega) (fun r1 M1 g1 hw => ?_)
  have hu := wr_u hw
  have hO1 : offC M M1 := wr_off hw (fun a9 ha => ha.2.2)
  have hR1 : rINV M1 V Hs len T := hR.offC hO1
  refine r_istore (L' := [(5, .int r1), (4, .int (nI i)), (0, .ref b), (1, .ref (mA G 0)), (2, .ref (mA G 107)), (3, .ref (mA G 117))]) C dL_law_1615 (by decide) rfl ?_
  refine r_aload_n C dL_law_1617 4 rfl ?_
  refine r_aload_n C dL_law_1618 2 rfl ?_
  refine r_iload C dL_law_1619 1 rfl ?_
  refine r_iconst (v := 1) C dL_law_1621 rfl ?_
  refine r_iadd C dL_law_1622 ?_
  refine r_valI (y := nI (i + 1)) (nI_add i 1) ?_
  refine r_sldN (j := i + 1) C hX hbl hbA hLL dL_law_1623 rfl (by omega) ?_
  refine r_lVI (As := [.int (xs (i + 1))]) (rest := []) C dL_law_1624 s_L_180 (c_X8_append l G hG M1 g1 V Hs len T hW hR1 (xs (i + 1))) (Nat.le_of_ble_eq_true rfl) (Nat.le_of_ble_eq_true rfl) rfl rfl rfl rfl (Nat.le_of_ble_eq_true rfl) (show kk + 2 ≤ 601024 by omega) (show nn + 12 ≤ 7293034 by omega) (fun r2 M2 g2 h2 => ?_)
  obtain ⟨hm, eg2⟩ := h2
  refine r_istore (L' := [(6, .int r2), (5, .int r1), (4, .int (nI i)), (0, .ref b), (1, .ref (mA G 0)), (2, .ref (mA G 107)), (3, .ref (mA G 117))]) C dL_law_1627 (by decide) rfl ?_
  refine r_aload_n C dL_law_1629 5 rfl ?_
  refine r_lVI (As := []) (rest := []) C dL_law_1630 s_L_97 (c_X8_thrown l G hG M2 g2 ) (Nat.le_of_ble_eq_true rfl) (Nat.le_of_ble_eq_true rfl) rfl rfl rfl rfl (Nat.le_of_ble_eq_true rfl) (show kk + 2 ≤ 601024 by omega) (show nn + 12 ≤ 7293034 by omega) (fun r3 M3 g3 h3 => ?_)
  obtain ⟨e3, eM3, eg3⟩ := h3
  rw [eM3]
  refine r_iload C dL_law_1633 1 rfl ?_
  refine r_icmp_eq (tgt := 1640) C dL_law_1635 (by decide) (fun _ => ?_) (fun h => absurd (by rw [e3, hm.1, hu.1]) h)
  refine r_iload C dL_law_1640 1 rfl ?_
  refine r_if_ne (tgt := 1657) C dL_law_1642 (by decide) (fun c1642 => ?_) (fun c1642 => ?_)
  ·
    have he := fun z => c1642 (hu.1.trans (congrArg nI z))
    refine r_goto (tgt := 1744) C dL_law_1657 (by decide) ?_
    refine r_sub (L' := [(4, .int (nI i)), (0, .ref b), (1, .ref (mA G 0)), (2, .ref (mA G 107)), (3, .ref (mA G 117))]) [2, 3, 4, 5, 6] rfl ?_
    exact next _ _ _ _ _ _ _ _ (cINV.offM (by rw [(hu.2.2 he).1]; exact hI) hm.2.1) (hm.2.2.2 he) (by omega) (by omega)
  ·
    have he := nI0_of (by unfold eApp; (repeat' split) <;> omega) (hu.1.symm.trans c1642)
    obtain ⟨a9, ha, hg1⟩ := hu.2.1 he
    refine r_aload_n C dL_law_1645 6 rfl ?_
    refine r_iconst (v := 0) C dL_law_1646 rfl ?_
    refine r_lald C dL_law_1647 rfl (vp_in_nI (by decide : 0 < 1) (by decide)) ?_
    refine r_iload C dL_law_1648 0 rfl ?_
    refine r_i2l C dL_law_1650 ?_
    refine r_lcmpE (by show g3 117 0 = r2.toInt64; rw [eg3, eg2, hg1, gset_at, (hm.2.2.1 he).1, ha.1]) C dL_law_1651 ?_
    refine r_if_eq (tgt := 1657) C dL_law_1652 (by decide) (fun _ => ?_) (fun h => absurd (by decide) h)
    refine r_goto (tgt := 1744) C dL_law_1657 (by decide) ?_
    refine r_sub (L' := [(4, .int (nI i)), (0, .ref b), (1, .ref (mA G 0)), (2, .ref (mA G 107)), (3, .ref (mA G 117))]) [2, 3, 4, 5, 6] rfl ?_
    exact next _ _ _ _ _ _ _ _ ((ha.2.1).offM hm.2.1) (hm.2.2.1 he).2 (by omega) (by omega)

set_option maxRecDepth 20000 in
set_option maxHeartbeats 1000000 in
theorem lw_case_18 {p : Program} {l : Launch} {e : Env} {s : State} {m : MethodId} {args : Array Value} {below : List Frame} {meth : Method} {c : Code} {G : mG} {Q : State → Prop} {b LL : Nat} {xs : Nat → Int32} (X : lwCtx l p s m args c G b LL xs) (M : Mem) (g : Glo) (V : View) (Hs : List View) (len : Nat) (T : Nat → Int32) (hI : cINV M V Hs len T) (hR : rINV M V Hs len T) (i : Nat) (hi : i + 6 ≤ LL) (kk nn : Nat) (hk : kk + 6 ≤ 601024) (hn : nn + 36 ≤ 7293034) (next : lwNext p l e s m args below meth c G Q b i kk nn) : At p l e room_1 s m args below meth c G 9 kk nn Q M g [(4, .int (nI i)), (0, .ref b), (1, .ref (mA G 0)), (2, .ref (mA G 107)), (3, .ref (mA G 117))] 1400 [] := by
  obtain ⟨hfl, hG, C, hX, hbl, hbA, hLL⟩ := X
  obtain ⟨hC, hW, hH, hHs, hTx, hP0⟩ := id hI
  refine r_aload_n C dL_law_1400 2 rfl ?_
  refine r_lVI (As := []) (rest := []) C dL_law_1401 s_L_155 (c_X7_suspects l G hG M g V Hs len T hI) (Nat.le_of_ble_eq_true rfl) (Nat.le_of_ble_eq_true rfl) rfl rfl rfl rfl (Nat.le_of_ble_eq_true rfl) (show kk ≤ 601024 by omega) (show nn ≤ 7293034 by omega) (fun r1 M1 g1 h1 => ?_)
  obtain ⟨e1, eM1, eg1⟩ := h1
  rw [eM1]
  refine r_aload_n C dL_law_1404 3 rfl ?_
  refine r_lVI (As := []) (rest := [.int r1]) C dL_law_1405 s_L_158 (c_X8_suspects l G hG M g1 V Hs len T hW hR) (Nat.le_of_ble_eq_true rfl) (Nat.le_of_ble_eq_true rfl) rfl rfl rfl rfl (Nat.le_of_ble_eq_true rfl) (show kk ≤ 601024 by omega) (show nn ≤ 7293034 by omega) (fun r2 M2 g2 h2 => ?_)
  obtain ⟨hm, eg2⟩ := h2
  refine r_icmp_eq (tgt := 1744) C dL_law_1408 (by decide) (fun _ => ?_) (fun h => absurd (by rw [e1, (hm.2.2.1 rfl).1]) h)
  refine r_sub (L' := [(4, .int (nI i)), (0, .ref b), (1, .ref (mA G 0)), (2, .ref (mA G 107)), (3, .ref (mA G 117))]) [0, 1, 2, 3, 4] rfl ?_
  exact next _ _ _ _ _ _ _ _ (hI.offM hm.2.1) (hm.2.2.1 rfl).2 (by omega) (by omega)

set_option maxRecDepth 20000 in
set_option maxHeartbeats 1000000 in
theorem lw_case_19 {p : Program} {l : Launch} {e : Env} {s : State} {m : MethodId} {args : Array Value} {below : List Frame} {meth : Method} {c : Code} {G : mG} {Q : State → Prop} {b LL : Nat} {xs : Nat → Int32} (X : lwCtx l p s m args c G b LL xs) (M : Mem) (g : Glo) (V : View) (Hs : List View) (len : Nat) (T : Nat → Int32) (hI : cINV M V Hs len T) (hR : rINV M V Hs len T) (i : Nat) (hi : i + 6 ≤ LL) (kk nn : Nat) (hk : kk + 6 ≤ 601024) (hn : nn + 36 ≤ 7293034) (next : lwNext p l e s m args below meth c G Q b i kk nn) : At p l e room_1 s m args below meth c G 9 kk nn Q M g [(4, .int (nI i)), (0, .ref b), (1, .ref (mA G 0)), (2, .ref (mA G 107)), (3, .ref (mA G 117))] 1413 [] := by
  obtain ⟨hfl, hG, C, hX, hbl, hbA, hLL⟩ := X
  obtain ⟨hC, hW, hH, hHs, hTx, hP0⟩ := id hI
  refine r_aload_n C dL_law_1413 2 rfl ?_
  refine r_lVI (As := []) (rest := []) C dL_law_1414 s_L_159 (c_X7_metersToFind l G hG M g V Hs len T hI) (Nat.le_of_ble_eq_true rfl) (Nat.le_of_ble_eq_true rfl) rfl rfl rfl rfl (Nat.le_of_ble_eq_true rfl) (show kk ≤ 601024 by omega) (show nn ≤ 7293034 by omega) (fun r1 M1 g1 h1 => ?_)
  obtain ⟨⟨e1, hI1, ho1⟩, eg1⟩ := h1
  refine r_aload_n C dL_law_1417 3 rfl ?_
  refine r_lVI (As := []) (rest := [.int r1]) C dL_law_1418 s_L_162 (c_X8_metersToFind l G hG M1 g1 V Hs len T hW (hR.offC ho1)) (Nat.le_of_ble_eq_true rfl) (Nat.le_of_ble_eq_true rfl) rfl rfl rfl rfl (Nat.le_of_ble_eq_true rfl) (show kk ≤ 601024 by omega) (show nn ≤ 7293034 by omega) (fun r2 M2 g2 h2 => ?_)
  obtain ⟨hm, eg2⟩ := h2
  refine r_icmp_eq (tgt := 1744) C dL_law_1421 (by decide) (fun _ => ?_) (fun h => absurd (by rw [e1, (hm.2.2.1 rfl).1]) h)
  refine r_sub (L' := [(4, .int (nI i)), (0, .ref b), (1, .ref (mA G 0)), (2, .ref (mA G 107)), (3, .ref (mA G 117))]) [0, 1, 2, 3, 4] rfl ?_
  exact next _ _ _ _ _ _ _ _ (hI1.offM hm.2.1) (hm.2.2.1 rfl).2 (by omega) (by omega)

set_option maxRecDepth 20000 in
set_option maxHeartbeats 1000000 in
theorem lw_case_20 {p : Program} {l : Launch} {e : Env} {s : State} {m : MethodId} {args : Array Value} {below : List Frame} {meth : Method} {c : Code} {G : mG} {Q : State → Prop} {b LL : Nat} {xs : Nat → Int32} (X : lwCtx l p s m args c G b LL xs) (M : Mem) (g : Glo) (V : View) (Hs : List View) (len : Nat) (T : Nat → Int32) (hI : cINV M V Hs len T) (hR : rINV M V Hs len T) (i : Nat) (hi : i + 6 ≤ LL) (kk nn : Nat) (hk : kk + 6 ≤ 601024) (hn : nn + 36 ≤ 7293034) (next : lwNext p l e s m args below meth c G Q b i kk nn) : At p l e room_1 s m args below meth c G 9 kk nn Q M g [(4, .int (nI i)), (0, .ref b), (1, .ref (mA G 0)), (2, .ref (mA G 107)), (3, .ref (mA G 117))] 1426 [] := by
  obtain ⟨hfl, hG, C, hX, hbl, hbA, hLL⟩ := X
  obtain ⟨hC, hW, hH, hHs, hTx, hP0⟩ := id hI
  refine r_aload_n C dL_law_1426 2 rfl ?_
  refine r_aload_n C dL_law_1427 1 rfl ?_
  refine r_iload C dL_law_1428 0 rfl ?_
  refine r_iconst (v := 1) C dL_law_1430 rfl ?_
  refine r_iadd C dL_law_1431 ?_
  refine r_valI (y := nI (i + 1)) (nI_add i 1) ?_
  refine r_sldN (j := i + 1) C hX hbl hbA hLL dL_law_1432 rfl (by omega) ?_
  refine r_aload_n C dL_law_1433 1 rfl ?_
  refine r_iload C dL_law_1434 0 rfl ?_
  refine r_iconst (v := 2) C dL_law_1436 rfl ?_
  refine r_iadd C dL_law_1437 ?_
  refine r_valI (y := nI (i + 2)) (nI_add i 2) ?_
  refine r_sldN (j := i + 2) C hX hbl hbA hLL dL_law_1438 rfl (by omega) ?_
  refine r_aload_n C dL_law_1439 4 rfl ?_
  refine r_lS (As := [.ref (mA G 0), .int (xs (i + 1)), .int (xs (i + 2)), .ref (mA G 117)]) (rest := []) C dL_law_1440 w_L_163 (c_L_supplyFor l G hG M g hfl V Hs len T hI (xs (i + 1)) (xs (i + 2))) (Nat.le_of_ble_eq_true rfl) (Nat.le_of_ble_eq_true rfl) rfl rfl (Nat.le_of_ble_eq_true rfl) (show kk + 2 ≤ 601024 by omega) (show nn + 12 ≤ 7293034 by omega) (fun r1 M1 g1 hw => ?_)
  have hu := wr_u hw
  have hO1 : offC M M1 := wr_off hw (fun a9 ha => ha.2.2)
  have hR1 : rINV M1 V Hs len T := hR.offC hO1
  obtain ⟨an, han⟩ : ∃ an : Int32, eSup V (xs (i + 1)) (xs (i + 2)) = 0 → (lowP V (wisF ((xs (i + 1))).toNatClampNeg (xs (i + 2))) an ∧ cINV M1 V Hs len T ∧ offC M M1) ∧ g1 = gset g 117 0 an.toInt64 := by by_cases z : eSup V (xs (i + 1)) (xs (i + 2)) = 0; (obtain ⟨a8, h8, h7⟩ := hu.2.1 z; exact ⟨a8, fun _ => ⟨h8, h7⟩⟩); exact ⟨0, fun y => absurd y z⟩
  refine r_istore (L' := [(5, .int r1), (4, .int (nI i)), (0, .ref b), (1, .ref (mA G 0)), (2, .ref (mA G 107)), (3, .ref (mA G 117))]) C dL_law_1443 (by decide) rfl ?_
  refine r_aload_n C dL_law_1445 4 rfl ?_
  refine r_aload_n C dL_law_1446 2 rfl ?_
  refine r_iload C dL_law_1447 1 rfl ?_
  refine r_iconst (v := 1) C dL_law_1449 rfl ?_
  refine r_iadd C dL_law_1450 ?_
  refine r_valI (y := nI (i + 1)) (nI_add i 1) ?_
  refine r_sldN (j := i + 1) C hX hbl hbA hLL dL_law_1451 rfl (by omega) ?_
  refine r_aload_n C dL_law_1452 2 rfl ?_
  refine r_iload C dL_law_1453 1 rfl ?_
  refine r_iconst (v := 2) C dL_law_1455 rfl ?_
  refine r_iadd C dL_law_1456 ?_
  refine r_valI (y := nI (i + 2)) (nI_add i 2) ?_
  refine r_sldN (j := i + 2) C hX hbl hbA hLL dL_law_1457 rfl (by omega) ?_
  refine r_lVI (As := [.int (xs (i + 1)), .int (xs (i + 2))]) (rest := []) C dL_law_1458 s_L_165 (c_X8_supplyFor l G hG M1 g1 V Hs len T hW hR1 (xs (i + 1)) (xs (i + 2)) an (fun z => (han z).1.1)) (Nat.le_of_ble_eq_true rfl) (Nat.le_of_ble_eq_true rfl) rfl rfl rfl rfl (Nat.le_of_ble_eq_true rfl) (show kk + 2 ≤ 601024 by omega) (show nn + 12 ≤ 7293034 by omega) (fun r2 M2 g2 h2 => ?_)
  obtain ⟨hm, eg2⟩ := h2
  refine r_istore (L' := [(6, .int r2), (5, .int r1), (4, .int (nI i)), (0, .ref b), (1, .ref (mA G 0)), (2, .ref (mA G 107)), (3, .ref (mA G 117))]) C dL_law_1461 (by decide) rfl ?_
  refine r_aload_n C dL_law_1463 5 rfl ?_
  refine r_lVI (As := []) (rest := []) C dL_law_1464 s_L_97 (c_X8_thrown l G hG M2 g2 ) (Nat.le_of_ble_eq_true rfl) (Nat.le_of_ble_eq_true rfl) rfl rfl rfl rfl (Nat.le_of_ble_eq_true rfl) (show kk + 2 ≤ 601024 by omega) (show nn + 12 ≤ 7293034 by omega) (fun r3 M3 g3 h3 => ?_)
  obtain ⟨e3, eM3, eg3⟩ := h3
  rw [eM3]
  refine r_iload C dL_law_1467 1 rfl ?_
  refine r_icmp_eq (tgt := 1474) C dL_law_1469 (by decide) (fun _ => ?_) (fun h => absurd (by rw [e3, hm.1, hu.1]) h)
  refine r_iload C dL_law_1474 1 rfl ?_
  refine r_if_ne (tgt := 1491) C dL_law_1476 (by decide) (fun c1476 => ?_) (fun c1476 => ?_)
  ·
    have he := fun z => c1476 (hu.1.trans (congrArg nI z))
    refine r_goto (tgt := 1744) C dL_law_1491 (by decide) ?_
    refine r_sub (L' := [(4, .int (nI i)), (0, .ref b), (1, .ref (mA G 0)), (2, .ref (mA G 107)), (3, .ref (mA G 117))]) [2, 3, 4, 5, 6] rfl ?_
    exact next _ _ _ _ _ _ _ _ (cINV.offM (by rw [(hu.2.2 he).1]; exact hI) hm.2.1) (hm.2.2.2 he) (by omega) (by omega)
  ·
    have he := nI0_of (by unfold eSup; (repeat' split) <;> omega) (hu.1.symm.trans c1476)
    refine r_aload_n C dL_law_1479 6 rfl ?_
    refine r_iconst (v := 0) C dL_law_1480 rfl ?_
    refine r_lald C dL_law_1481 rfl (vp_in_nI (by decide : 0 < 1) (by decide)) ?_
    refine r_iload C dL_law_1482 0 rfl ?_
    refine r_i2l C dL_law_1484 ?_
    refine r_lcmpE (by show g3 117 0 = r2.toInt64; rw [eg3, eg2, (han he).2, gset_at, (hm.2.2.1 he).1]) C dL_law_1485 ?_
    refine r_if_eq (tgt := 1491) C dL_law_1486 (by decide) (fun _ => ?_) (fun h => absurd (by decide) h)
    refine r_goto (tgt := 1744) C dL_law_1491 (by decide) ?_
    refine r_sub (L' := [(4, .int (nI i)), (0, .ref b), (1, .ref (mA G 0)), (2, .ref (mA G 107)), (3, .ref (mA G 117))]) [2, 3, 4, 5, 6] rfl ?_
    exact next _ _ _ _ _ _ _ _ ((han he).1.2.1.offM hm.2.1) (hm.2.2.1 he).2 (by omega) (by omega)

set_option maxRecDepth 20000 in
set_option maxHeartbeats 1000000 in
theorem lw_case_21 {p : Program} {l : Launch} {e : Env} {s : State} {m : MethodId} {args : Array Value} {below : List Frame} {meth : Method} {c : Code} {G : mG} {Q : State → Prop} {b LL : Nat} {xs : Nat → Int32} (X : lwCtx l p s m args c G b LL xs) (M : Mem) (g : Glo) (V : View) (Hs : List View) (len : Nat) (T : Nat → Int32) (hI : cINV M V Hs len T) (hR : rINV M V Hs len T) (i : Nat) (hi : i + 6 ≤ LL) (kk nn : Nat) (hk : kk + 6 ≤ 601024) (hn : nn + 36 ≤ 7293034) (next : lwNext p l e s m args below meth c G Q b i kk nn) : At p l e room_1 s m args below meth c G 9 kk nn Q M g [(4, .int (nI i)), (0, .ref b), (1, .ref (mA G 0)), (2, .ref (mA G 107)), (3, .ref (mA G 117))] 1494 [] := by
  obtain ⟨hfl, hG, C, hX, hbl, hbA, hLL⟩ := X
  obtain ⟨hC, hW, hH, hHs, hTx, hP0⟩ := id hI
  refine r_aload_n C dL_law_1494 2 rfl ?_
  refine r_lVI (As := []) (rest := []) C dL_law_1495 s_L_166 (c_X7_cheapestSupply l G hG M g V Hs len T hI) (Nat.le_of_ble_eq_true rfl) (Nat.le_of_ble_eq_true rfl) rfl rfl rfl rfl (Nat.le_of_ble_eq_true rfl) (show kk ≤ 601024 by omega) (show nn ≤ 7293034 by omega) (fun r1 M1 g1 h1 => ?_)
  obtain ⟨⟨⟨q0, hq0, e1⟩, hI1, ho1⟩, eg1⟩ := h1
  refine r_aload_n C dL_law_1498 3 rfl ?_
  refine r_lVI (As := []) (rest := [.int r1]) C dL_law_1499 s_L_169 (c_X8_cheapestSupply l G hG M1 g1 V Hs len T hW (hR.offC ho1) q0 hq0) (Nat.le_of_ble_eq_true rfl) (Nat.le_of_ble_eq_true rfl) rfl rfl rfl rfl (Nat.le_of_ble_eq_true rfl) (show kk ≤ 601024 by omega) (show nn ≤ 7293034 by omega) (fun r2 M2 g2 h2 => ?_)
  obtain ⟨hm, eg2⟩ := h2
  refine r_icmp_eq (tgt := 1744) C dL_law_1502 (by decide) (fun _ => ?_) (fun h => absurd (by rw [e1, (hm.2.2.1 rfl).1]) h)
  refine r_sub (L' := [(4, .int (nI i)), (0, .ref b), (1, .ref (mA G 0)), (2, .ref (mA G 107)), (3, .ref (mA G 117))]) [0, 1, 2, 3, 4] rfl ?_
  exact next _ _ _ _ _ _ _ _ (hI1.offM hm.2.1) (hm.2.2.1 rfl).2 (by omega) (by omega)

set_option maxRecDepth 20000 in
set_option maxHeartbeats 1000000 in
theorem lw_case_23 {p : Program} {l : Launch} {e : Env} {s : State} {m : MethodId} {args : Array Value} {below : List Frame} {meth : Method} {c : Code} {G : mG} {Q : State → Prop} {b LL : Nat} {xs : Nat → Int32} (X : lwCtx l p s m args c G b LL xs) (M : Mem) (g : Glo) (V : View) (Hs : List View) (len : Nat) (T : Nat → Int32) (hI : cINV M V Hs len T) (hR : rINV M V Hs len T) (i : Nat) (hi : i + 6 ≤ LL) (kk nn : Nat) (hk : kk + 6 ≤ 601024) (hn : nn + 36 ≤ 7293034) (next : lwNext p l e s m args below meth c G Q b i kk nn) : At p l e room_1 s m args below meth c G 9 kk nn Q M g [(4, .int (nI i)), (0, .ref b), (1, .ref (mA G 0)), (2, .ref (mA G 107)), (3, .ref (mA G 117))] 1563 [] := by
  obtain ⟨hfl, hG, C, hX, hbl, hbA, hLL⟩ := X
  obtain ⟨hC, hW, hH, hHs, hTx, hP0⟩ := id hI
  refine r_aload_n C dL_law_1563 2 rfl ?_
  refine r_lVD (As := []) (rest := []) C dL_law_1564 s_L_173 (c_X7_efficiency l G hG M g V Hs len T hI) (Nat.le_of_ble_eq_true rfl) (Nat.le_of_ble_eq_true rfl) rfl rfl rfl rfl (Nat.le_of_ble_eq_true rfl) (show kk ≤ 601024 by omega) (show nn ≤ 7293034 by omega) (fun r1 M1 g1 h1 => ?_)
  obtain ⟨e1, eM1, eg1⟩ := h1
  rw [eM1, e1]
  refine r_dstore (L' := [(5, .double (effF V)), (4, .int (nI i)), (0, .ref b), (1, .ref (mA G 0)), (2, .ref (mA G 107)), (3, .ref (mA G 117))]) C dL_law_1567 (by decide) rfl ?_
  refine r_aload_n C dL_law_1569 4 rfl ?_
  refine r_lVD (As := []) (rest := []) C dL_law_1570 s_L_177 (c_X8_efficiency l G hG M g1 V Hs len T hW hR) (Nat.le_of_ble_eq_true rfl) (Nat.le_of_ble_eq_true rfl) rfl rfl rfl rfl (Nat.le_of_ble_eq_true rfl) (show kk ≤ 601024 by omega) (show nn ≤ 7293034 by omega) (fun r2 M2 g2 h2 => ?_)
  obtain ⟨e2, hf2, eg2⟩ := h2
  rw [e2]
  refine r_dstore (L' := [(7, .double (effF V)), (5, .double (effF V)), (4, .int (nI i)), (0, .ref b), (1, .ref (mA G 0)), (2, .ref (mA G 107)), (3, .ref (mA G 117))]) C dL_law_1573 (by decide) rfl ?_
  refine r_dload C dL_law_1575 1 rfl ?_
  refine r_dload C dL_law_1577 0 rfl ?_
  refine r_dcmpE (eff_cmp V) C dL_law_1579 ?_
  refine r_if_eq (tgt := 1601) C dL_law_1580 (by decide) (fun _ => ?_) (fun h => absurd (by decide) h)
  refine r_goto (tgt := 1744) C dL_law_1601 (by decide) ?_
  refine r_sub (L' := [(4, .int (nI i)), (0, .ref b), (1, .ref (mA G 0)), (2, .ref (mA G 107)), (3, .ref (mA G 117))]) [2, 3, 4, 5, 6] rfl ?_
  exact next _ _ _ _ _ _ _ _ (hI.offM hf2.off) (hf2.inv hR) (by omega) (by omega)

set_option maxRecDepth 20000 in
set_option maxHeartbeats 1000000 in
theorem lw_case_25 {p : Program} {l : Launch} {e : Env} {s : State} {m : MethodId} {args : Array Value} {below : List Frame} {meth : Method} {c : Code} {G : mG} {Q : State → Prop} {b LL : Nat} {xs : Nat → Int32} (X : lwCtx l p s m args c G b LL xs) (M : Mem) (g : Glo) (V : View) (Hs : List View) (len : Nat) (T : Nat → Int32) (hI : cINV M V Hs len T) (hR : rINV M V Hs len T) (i : Nat) (hi : i + 6 ≤ LL) (kk nn : Nat) (hk : kk + 6 ≤ 601024) (hn : nn + 36 ≤ 7293034) (next : lwNext p l e s m args below meth c G Q b i kk nn) : At p l e room_1 s m args below meth c G 9 kk nn Q M g [(4, .int (nI i)), (0, .ref b), (1, .ref (mA G 0)), (2, .ref (mA G 107)), (3, .ref (mA G 117))] 1660 [] := by
  obtain ⟨hfl, hG, C, hX, hbl, hbA, hLL⟩ := X
  obtain ⟨hC, hW, hH, hHs, hTx, hP0⟩ := id hI
  refine r_aload_n C dL_law_1660 2 rfl ?_
  refine r_lVI (As := []) (rest := []) C dL_law_1661 s_L_181 (c_X7_clearText l G hG M g V Hs len T hI) (Nat.le_of_ble_eq_true rfl) (Nat.le_of_ble_eq_true rfl) rfl rfl rfl rfl (Nat.le_of_ble_eq_true rfl) (show kk ≤ 601024 by omega) (show nn ≤ 7293034 by omega) (fun r1 M1 g1 h1 => ?_)
  obtain ⟨⟨e1, hI1, ho1⟩, eg1⟩ := h1
  refine r_aload_n C dL_law_1664 3 rfl ?_
  refine r_lVI (As := []) (rest := [.int r1]) C dL_law_1665 s_L_184 (c_X8_clearText l G hG M1 g1 V Hs len T hW (hR.offC ho1)) (Nat.le_of_ble_eq_true rfl) (Nat.le_of_ble_eq_true rfl) rfl rfl rfl rfl (Nat.le_of_ble_eq_true rfl) (show kk ≤ 601024 by omega) (show nn ≤ 7293034 by omega) (fun r2 M2 g2 h2 => ?_)
  obtain ⟨hm, eg2⟩ := h2
  refine r_icmp_eq (tgt := 1744) C dL_law_1668 (by decide) (fun _ => ?_) (fun h => absurd (by rw [e1, (hm.2.2.1 rfl).1]) h)
  refine r_sub (L' := [(4, .int (nI i)), (0, .ref b), (1, .ref (mA G 0)), (2, .ref (mA G 107)), (3, .ref (mA G 117))]) [0, 1, 2, 3, 4] rfl ?_
  exact next _ _ _ _ _ _ _ _ (hI1.offM hm.2.1) (hm.2.2.1 rfl).2 (by omega) (by omega)

set_option maxRecDepth 20000 in
set_option maxHeartbeats 1000000 in
theorem lw_case_26 {p : Program} {l : Launch} {e : Env} {s : State} {m : MethodId} {args : Array Value} {below : List Frame} {meth : Method} {c : Code} {G : mG} {Q : State → Prop} {b LL : Nat} {xs : Nat → Int32} (X : lwCtx l p s m args c G b LL xs) (M : Mem) (g : Glo) (V : View) (Hs : List View) (len : Nat) (T : Nat → Int32) (hI : cINV M V Hs len T) (hR : rINV M V Hs len T) (i : Nat) (hi : i + 6 ≤ LL) (kk nn : Nat) (hk : kk + 6 ≤ 601024) (hn : nn + 36 ≤ 7293034) (next : lwNext p l e s m args below meth c G Q b i kk nn) : At p l e room_1 s m args below meth c G 9 kk nn Q M g [(4, .int (nI i)), (0, .ref b), (1, .ref (mA G 0)), (2, .ref (mA G 107)), (3, .ref (mA G 117))] 1673 [] := by
  obtain ⟨hfl, hG, C, hX, hbl, hbA, hLL⟩ := X
  obtain ⟨hC, hW, hH, hHs, hTx, hP0⟩ := id hI
  refine r_aload_n C dL_law_1673 2 rfl ?_
  refine r_lVI (As := []) (rest := []) C dL_law_1674 s_L_185 (c_X7_parse l G hG M g V Hs len T hI) (Nat.le_of_ble_eq_true rfl) (Nat.le_of_ble_eq_true rfl) rfl rfl rfl rfl (Nat.le_of_ble_eq_true rfl) (show kk ≤ 601024 by omega) (show nn ≤ 7293034 by omega) (fun r1 M1 g1 h1 => ?_)
  obtain ⟨h1, eg1⟩ := h1
  have ho1 : offC M M1 := h1.elim (fun z => z.2.2.2) (fun z => z.2.2.2)
  refine r_aload_n C dL_law_1677 3 rfl ?_
  refine r_lVI (As := []) (rest := [.int r1]) C dL_law_1678 s_L_188 (c_X8_parse l G hG M1 g1 V Hs len T hW (hR.offC ho1) hHs) (Nat.le_of_ble_eq_true rfl) (Nat.le_of_ble_eq_true rfl) rfl rfl rfl rfl (Nat.le_of_ble_eq_true rfl) (show kk ≤ 601024 by omega) (show nn ≤ 7293034 by omega) (fun r2 M2 g2 h2 => ?_)
  obtain ⟨⟨h2, ho2⟩, eg2⟩ := h2
  obtain ⟨V9, Hs9, e12, hI9, hR9⟩ : ∃ (V9 : View) (Hs9 : List View), r1 = r2 ∧ cINV M1 V9 Hs9 len T ∧ rINV M2 V9 Hs9 len T := by rcases h1 with ⟨b1, e1, hI1, _⟩ | ⟨b1, e1, hI1, _⟩ <;> rcases h2 with ⟨b2, e2, hI2⟩ | ⟨b2, e2, hI2⟩; exact ⟨_, _, e1.trans e2.symm, hI1, hI2⟩; (rw [b1] at b2; exact absurd b2 (by decide)); (rw [b1] at b2; exact absurd b2 (by decide)); exact ⟨_, _, e1.trans e2.symm, hI1, hI2⟩
  refine r_icmp_eq (tgt := 1744) C dL_law_1681 (by decide) (fun _ => ?_) (fun h => absurd (e12) h)
  refine r_sub (L' := [(4, .int (nI i)), (0, .ref b), (1, .ref (mA G 0)), (2, .ref (mA G 107)), (3, .ref (mA G 117))]) [0, 1, 2, 3, 4] rfl ?_
  exact next _ _ _ _ _ _ _ _ (hI9.offM ho2) hR9 (by omega) (by omega)

set_option maxRecDepth 20000 in
set_option maxHeartbeats 1000000 in
theorem lw_case_27 {p : Program} {l : Launch} {e : Env} {s : State} {m : MethodId} {args : Array Value} {below : List Frame} {meth : Method} {c : Code} {G : mG} {Q : State → Prop} {b LL : Nat} {xs : Nat → Int32} (X : lwCtx l p s m args c G b LL xs) (M : Mem) (g : Glo) (V : View) (Hs : List View) (len : Nat) (T : Nat → Int32) (hI : cINV M V Hs len T) (hR : rINV M V Hs len T) (i : Nat) (hi : i + 6 ≤ LL) (kk nn : Nat) (hk : kk + 6 ≤ 601024) (hn : nn + 36 ≤ 7293034) (next : lwNext p l e s m args below meth c G Q b i kk nn) : At p l e room_1 s m args below meth c G 9 kk nn Q M g [(4, .int (nI i)), (0, .ref b), (1, .ref (mA G 0)), (2, .ref (mA G 107)), (3, .ref (mA G 117))] 1686 [] := by
  obtain ⟨hfl, hG, C, hX, hbl, hbA, hLL⟩ := X
  obtain ⟨hC, hW, hH, hHs, hTx, hP0⟩ := id hI
  refine r_aload_n C dL_law_1686 2 rfl ?_
  refine r_aload_n C dL_law_1687 4 rfl ?_
  refine r_lS (As := [.ref (mA G 0), .ref (mA G 117)]) (rest := []) C dL_law_1688 w_L_189 (c_L_undo l G hG M g hfl V Hs len T hI ) (Nat.le_of_ble_eq_true rfl) (Nat.le_of_ble_eq_true rfl) rfl rfl (Nat.le_of_ble_eq_true rfl) (show kk + 1 ≤ 601024 by omega) (show nn + 6 ≤ 7293034 by omega) (fun r1 M1 g1 hw => ?_)
  have hu := wr_u hw
  have hO1 : offC M M1 := wr_off hw (fun a9 ha => by obtain ⟨_, _, _, _, _, z⟩ := ha; exact z)
  have hR1 : rINV M1 V Hs len T := hR.offC hO1
  refine r_istore (L' := [(5, .int r1), (4, .int (nI i)), (0, .ref b), (1, .ref (mA G 0)), (2, .ref (mA G 107)), (3, .ref (mA G 117))]) C dL_law_1691 (by decide) rfl ?_
  refine r_aload_n C dL_law_1693 4 rfl ?_
  refine r_lVI (As := []) (rest := []) C dL_law_1694 s_L_192 (c_X8_undo l G hG M1 g1 V Hs len T hW hR1 hHs) (Nat.le_of_ble_eq_true rfl) (Nat.le_of_ble_eq_true rfl) rfl rfl rfl rfl (Nat.le_of_ble_eq_true rfl) (show kk + 1 ≤ 601024 by omega) (show nn + 6 ≤ 7293034 by omega) (fun r2 M2 g2 h2 => ?_)
  obtain ⟨⟨hm1, hm2, hm3, hm4⟩, eg2⟩ := h2
  refine r_istore (L' := [(6, .int r2), (5, .int r1), (4, .int (nI i)), (0, .ref b), (1, .ref (mA G 0)), (2, .ref (mA G 107)), (3, .ref (mA G 117))]) C dL_law_1697 (by decide) rfl ?_
  refine r_aload_n C dL_law_1699 5 rfl ?_
  refine r_lVI (As := []) (rest := []) C dL_law_1700 s_L_97 (c_X8_thrown l G hG M2 g2 ) (Nat.le_of_ble_eq_true rfl) (Nat.le_of_ble_eq_true rfl) rfl rfl rfl rfl (Nat.le_of_ble_eq_true rfl) (show kk + 1 ≤ 601024 by omega) (show nn + 6 ≤ 7293034 by omega) (fun r3 M3 g3 h3 => ?_)
  obtain ⟨e3, eM3, eg3⟩ := h3
  rw [eM3]
  refine r_iload C dL_law_1703 1 rfl ?_
  refine r_icmp_eq (tgt := 1710) C dL_law_1705 (by decide) (fun _ => ?_) (fun h => absurd (by rw [e3, hm1, hu.1]) h)
  refine r_iload C dL_law_1710 1 rfl ?_
  refine r_if_ne (tgt := 1727) C dL_law_1712 (by decide) (fun c1712 => ?_) (fun c1712 => ?_)
  ·
    have he := fun z => c1712 (hu.1.trans (congrArg nI z))
    refine r_goto (tgt := 1744) C dL_law_1727 (by decide) ?_
    refine r_sub (L' := [(4, .int (nI i)), (0, .ref b), (1, .ref (mA G 0)), (2, .ref (mA G 107)), (3, .ref (mA G 117))]) [2, 3, 4, 5, 6] rfl ?_
    exact next _ _ _ _ _ _ _ _ (cINV.offM (by rw [(hu.2.2 he).1]; exact hI) hm2) (hm4 he) (by omega) (by omega)
  ·
    have he := nI0_of (by unfold eUndo; (repeat' split) <;> omega) (hu.1.symm.trans c1712)
    obtain ⟨a9, ⟨H9, V9, hc9, ha, hI9, _⟩, hg1⟩ := hu.2.1 he
    obtain ⟨hb1, hb2⟩ := hm3 H9 V9 hc9
    refine r_aload_n C dL_law_1715 6 rfl ?_
    refine r_iconst (v := 0) C dL_law_1716 rfl ?_
    refine r_lald C dL_law_1717 rfl (vp_in_nI (by decide : 0 < 1) (by decide)) ?_
    refine r_iload C dL_law_1718 0 rfl ?_
    refine r_i2l C dL_law_1720 ?_
    refine r_lcmpE (by show g3 117 0 = r2.toInt64; rw [eg3, eg2, hg1, gset_at, hb1, ha]) C dL_law_1721 ?_
    refine r_if_eq (tgt := 1727) C dL_law_1722 (by decide) (fun _ => ?_) (fun h => absurd (by decide) h)
    refine r_goto (tgt := 1744) C dL_law_1727 (by decide) ?_
    refine r_sub (L' := [(4, .int (nI i)), (0, .ref b), (1, .ref (mA G 0)), (2, .ref (mA G 107)), (3, .ref (mA G 117))]) [2, 3, 4, 5, 6] rfl ?_
    exact next _ _ _ _ _ _ _ _ (hI9.offM hm2) hb2 (by omega) (by omega)

set_option maxRecDepth 20000 in
set_option maxHeartbeats 1000000 in
theorem lw_case_28 {p : Program} {l : Launch} {e : Env} {s : State} {m : MethodId} {args : Array Value} {below : List Frame} {meth : Method} {c : Code} {G : mG} {Q : State → Prop} {b LL : Nat} {xs : Nat → Int32} (X : lwCtx l p s m args c G b LL xs) (M : Mem) (g : Glo) (V : View) (Hs : List View) (len : Nat) (T : Nat → Int32) (hI : cINV M V Hs len T) (hR : rINV M V Hs len T) (i : Nat) (hi : i + 6 ≤ LL) (kk nn : Nat) (hk : kk + 6 ≤ 601024) (hn : nn + 36 ≤ 7293034) (next : lwNext p l e s m args below meth c G Q b i kk nn) : At p l e room_1 s m args below meth c G 9 kk nn Q M g [(4, .int (nI i)), (0, .ref b), (1, .ref (mA G 0)), (2, .ref (mA G 107)), (3, .ref (mA G 117))] 1730 [] := by
  obtain ⟨hfl, hG, C, hX, hbl, hbA, hLL⟩ := X
  obtain ⟨hC, hW, hH, hHs, hTx, hP0⟩ := id hI
  refine r_aload_n C dL_law_1730 2 rfl ?_
  refine r_lVL (As := []) (rest := []) C dL_law_1731 s_L_193 (c_X7_digest l G hG M g V Hs len T hI) (Nat.le_of_ble_eq_true rfl) (Nat.le_of_ble_eq_true rfl) rfl rfl rfl rfl (Nat.le_of_ble_eq_true rfl) (show kk ≤ 601024 by omega) (show nn ≤ 7293034 by omega) (fun r1 M1 g1 h1 => ?_)
  obtain ⟨e1, eM1, eg1⟩ := h1
  rw [eM1]
  refine r_aload_n C dL_law_1734 3 rfl ?_
  refine r_lVL (As := []) (rest := [.long r1]) C dL_law_1735 s_L_197 (c_X8_digest l G hG M g1 V Hs len T hW hR) (Nat.le_of_ble_eq_true rfl) (Nat.le_of_ble_eq_true rfl) rfl rfl rfl rfl (Nat.le_of_ble_eq_true rfl) (show kk ≤ 601024 by omega) (show nn ≤ 7293034 by omega) (fun r2 M2 g2 h2 => ?_)
  obtain ⟨e2, hf2, X9, eg2⟩ := h2
  refine r_lcmpE (e1.trans e2.symm) C dL_law_1738 ?_
  refine r_if_eq (tgt := 1744) C dL_law_1739 (by decide) (fun _ => ?_) (fun h => absurd (by decide) h)
  refine r_sub (L' := [(4, .int (nI i)), (0, .ref b), (1, .ref (mA G 0)), (2, .ref (mA G 107)), (3, .ref (mA G 117))]) [0, 1, 2, 3, 4] rfl ?_
  exact next _ _ _ _ _ _ _ _ (hI.offM hf2.off) (hf2.inv hR) (by omega) (by omega)
