-- the reference's flows, temperatures and returns at places 112 to 115
def rOK (M : Mem) (V : View) : Prop := ∀ j, j < vN V → M 112 j = flowF V j ∧ M 113 j = warmF V (vSup V) j ∧ M 114 j = (if j = 0 then -1 else rF V (vSup V) j) ∧ M 115 j = backF V (vSup V) j
theorem rOK.off {M M' : Mem} {V : View} {a b : Nat} (h : rOK M V) (ho : offR M M' a b) (hB : 115 < a ∨ b < 112) : rOK M' V := fun j hj => by
  rw [ho 112 (by omega), ho 113 (by omega), ho 114 (by omega), ho 115 (by omega)]
  exact h j hj
def dF (V : View) (j : Nat) : Int32 := vD V 3 j * rF V (vSup V) j
theorem work_back {V : View} (hT : wfT V) {h h2 : Nat → Int32} {k : Nat} (hh : ∀ j, j < vN V → h j = 0) (e : addUp (vP V) k (hvF (dF V) k h2) = addUp (vP V) (vN V - 1) (hvF (dF V) (vN V - 1) h)) (hk : k = 0) : ∀ j, j < vN V → h2 j = backF V (vSup V) j := by
  intro j hj
  subst hk
  have e2 : h2 = addUp (vP V) (vN V - 1) (hvF (dF V) (vN V - 1) h) := by
    rw [← e, hv_end]
    rfl
  rw [e2]
  refine addUp_cong (vN V - 1) _ _ (by omega) (fun j h1 h2 => (hT.2.2.2.2 j h1 (by omega)).2) (fun i hi => ?_) j hj
  unfold hvF
  by_cases z : i = 0
  · rw [if_neg (fun y => by omega), hh i hi]
    exact (if_pos z).symm
  · rw [if_pos ⟨by omega, by omega⟩, hh i hi, Int32.zero_add]
    exact (if_neg z).symm
theorem work_fl {V : View} (hT : wfT V) {f f2 : Nat → Int32} {k : Nat} (hh : ∀ j, j < vN V → f j = ownF V j) (e : addUp (vP V) k f2 = addUp (vP V) (vN V - 1) f) (hk : k = 0) : ∀ j, j < vN V → f2 j = flowF V j := by
  intro j hj
  subst hk
  have e2 : f2 = addUp (vP V) (vN V - 1) f := e
  rw [e2]
  exact addUp_cong (vN V - 1) _ _ (by omega) (fun j h1 h2 => (hT.2.2.2.2 j h1 (by omega)).2) (fun i hi => hh i hi) j hj
set_option maxRecDepth 20000 in
set_option maxHeartbeats 1000000 in
theorem c_X8_works (l : Launch) (G : mG) (hG : mInj G) (M : Mem) (g : Glo) (V : View) (hW : wfV V) (hV : rV (M 108) V) : mcV l G yX8_works cX8_works 3 3 [.ref (mA G 107)] M g (fun M' g' => (offR M M' 112 115 ∧ rOK M' V) ∧ g' = g) := by
  refine mcV_of (L0 := [(0, .ref (mA G 107))]) hG (by decide) (Nat.le_of_ble_eq_true rfl) rfl ?_
  intro p e s m args below meth c Q C hend
  have hT := hW.1
  obtain ⟨hn1, hn16, hb4, ⟨hd0, hd3, hd5, hd6⟩, hpar⟩ := id hT
  have hV4 : ∀ f w b h : Nat → Int32, rV (m4 M f w b h 108) V := fun _ _ _ _ => by rw [m4_o (by omega)]; exact hV
  refine r_aload_n C dX8_works_0 0 rfl ?_
  refine r_getr (q2 := 108) C dX8_works_1 0 f_X8_7 rfl rfl ?_
  refine r_iconst (v := 5) C dX8_works_4 rfl ?_
  refine r_ialdN (j := 5) (v := nI (vN V)) C dX8_works_5 rfl (rfl) (by omega) (by decide) (hV.1.1) ?_
  refine r_istore_n (L' := [(1, .int (nI (vN V))), (0, .ref (mA G 107))]) C dX8_works_6 (by decide) rfl ?_
  refine r_iconst (v := nI 0) C dX8_works_7 rfl ?_
  refine r_istore_n (L' := [(2, .int (nI 0)), (1, .int (nI (vN V))), (0, .ref (mA G 107))]) C dX8_works_8 (by decide) rfl ?_
  have lp9 : ∀ (fu : Nat) (k : Nat) (f h : Nat → Int32), (k ≤ vN V) → (∀ j, j < k → f j = ownF V j) → (∀ j, j < k → h j = 0) → (vN V - k) < fu → At p l e (rmD 3 0 0) s m args below meth c G 3 0 0 Q (m4 M f (M 113) (M 114) h) g [(2, .int (nI k)), (1, .int (nI (vN V))), (0, .ref (mA G 107))] 9 [] := by
    intro fu
    induction fu with
    | zero => intro k f h hkn hf hh hfu; exact absurd hfu (Nat.not_lt_zero _)
    | succ fu ih9 =>
      intro k f h hkn hf hh hfu9
      refine r_iload_n C dX8_works_9 0 rfl ?_
      refine r_iload_n C dX8_works_10 1 rfl ?_
      refine r_icmp_ge (tgt := 54) C dX8_works_11 (by decide) (fun c11 => ?_) (fun c11 => ?_)
      ·
        have hkA : k = vN V := by have := le_of_le (by omega) (by omega) c11; omega
        refine r_iload_n C dX8_works_54 1 rfl ?_
        refine r_iconst (v := 1) C dX8_works_55 rfl ?_
        refine r_isub C dX8_works_56 ?_
        refine r_valI (y := nI (vN V - 1)) (pk_sub (by omega)) ?_
        refine r_istore_n (L' := [(2, .int (nI (vN V - 1))), (1, .int (nI (vN V))), (0, .ref (mA G 107))]) C dX8_works_57 (by decide) rfl ?_
        have lp58 : ∀ (fu : Nat) (k2 : Nat) (f2 : Nat → Int32), (k2 < vN V) → (addUp (vP V) k2 f2 = addUp (vP V) (vN V - 1) f) → k2 < fu → At p l e (rmD 3 0 0) s m args below meth c G 3 0 0 Q (m4 M f2 (M 113) (M 114) h) g [(2, .int (nI k2)), (1, .int (nI (vN V))), (0, .ref (mA G 107))] 58 [] := by
          intro fu
          induction fu with
          | zero => intro k2 f2 hkm hf2 hfu; exact absurd hfu (Nat.not_lt_zero _)
          | succ fu ih58 =>
            intro k2 f2 hkm hf2 hfu58
            refine r_iload_n C dX8_works_58 0 rfl ?_
            refine r_if_le (tgt := 88) C dX8_works_59 (by decide) (fun c59 => ?_) (fun c59 => ?_)
            ·
              have hk20 : k2 = 0 := by rcases Nat.eq_zero_or_pos k2 with q | q; exact q; exact absurd c59 (nI_nle q (by omega))
              have hfl : ∀ j, j < vN V → f2 j = flowF V j := work_fl hT (fun j hj => hf j (by omega)) hf2 hk20
              refine r_aload_n C dX8_works_88 2 rfl ?_
              refine r_getr (q2 := 113) C dX8_works_89 8 f_X8_25 rfl rfl ?_
              refine r_iconst (v := 0) C dX8_works_92 rfl ?_
              refine r_aload_n C dX8_works_93 2 rfl ?_
              refine r_getr (q2 := 108) C dX8_works_94 0 f_X8_7 rfl rfl ?_
              refine r_iconst (v := 0) C dX8_works_97 rfl ?_
              refine r_ialdN (j := 0) (v := vS V 0) C dX8_works_98 rfl (rfl) (by omega) (by decide) ((hV4 _ _ _ _).2.1.1) ?_
              refine r_iastN (j := 0) C dX8_works_99 rfl (rfl) (by omega) (by decide) ?_
              refine r_mem (M' := m4 M f2 (upd (M 113) 0 (vS V 0)) (M 114) h) (m4_2) ?_
              refine r_aload_n C dX8_works_100 2 rfl ?_
              refine r_getr (q2 := 114) C dX8_works_101 9 f_X8_28 rfl rfl ?_
              refine r_iconst (v := 0) C dX8_works_104 rfl ?_
              refine r_iconst (v := (-1)) C dX8_works_105 rfl ?_
              refine r_iastN (j := 0) C dX8_works_106 rfl (rfl) (by omega) (by decide) ?_
              refine r_mem (M' := m4 M f2 (upd (M 113) 0 (vS V 0)) (upd (M 114) 0 (-1)) h) (m4_3) ?_
              refine r_iconst (v := nI 1) C dX8_works_107 rfl ?_
              refine r_istore_n (L' := [(2, .int (nI 1)), (1, .int (nI (vN V))), (0, .ref (mA G 107))]) C dX8_works_108 (by decide) rfl ?_
              have lp109 : ∀ (fu : Nat) (k3 : Nat) (w b : Nat → Int32), (0 < k3) → (k3 ≤ vN V) → (∀ j, j < k3 → w j = warmF V (vSup V) j) → (∀ j, j < k3 → b j = (if j = 0 then -1 else rF V (vSup V) j)) → (vN V - k3) < fu → At p l e (rmD 3 0 0) s m args below meth c G 3 0 0 Q (m4 M f2 w b h) g [(2, .int (nI k3)), (1, .int (nI (vN V))), (0, .ref (mA G 107))] 109 [] := by
                intro fu
                induction fu with
                | zero => intro k3 w b hk3 hkn3 hw hb hfu; exact absurd hfu (Nat.not_lt_zero _)
                | succ fu ih109 =>
                  intro k3 w b hk3 hkn3 hw hb hfu109
                  refine r_iload_n C dX8_works_109 0 rfl ?_
                  refine r_iload_n C dX8_works_110 1 rfl ?_
                  refine r_icmp_ge (tgt := 152) C dX8_works_111 (by decide) (fun c111 => ?_) (fun c111 => ?_)
                  ·
                    have hkC : k3 = vN V := by have := le_of_le (by omega) (by omega) c111; omega
                    refine r_iload_n C dX8_works_152 1 rfl ?_
                    refine r_iconst (v := 1) C dX8_works_153 rfl ?_
                    refine r_isub C dX8_works_154 ?_
                    refine r_valI (y := nI (vN V - 1)) (pk_sub (by omega)) ?_
                    refine r_istore_n (L' := [(2, .int (nI (vN V - 1))), (1, .int (nI (vN V))), (0, .ref (mA G 107))]) C dX8_works_155 (by decide) rfl ?_
                    have lp156 : ∀ (fu : Nat) (k4 : Nat) (h2 : Nat → Int32), (k4 < vN V) → (addUp (vP V) k4 (hvF (dF V) k4 h2) = addUp (vP V) (vN V - 1) (hvF (dF V) (vN V - 1) h)) → k4 < fu → At p l e (rmD 3 0 0) s m args below meth c G 3 0 0 Q (m4 M f2 w b h2) g [(2, .int (nI k4)), (1, .int (nI (vN V))), (0, .ref (mA G 107))] 156 [] := by
                      intro fu
                      induction fu with
                      | zero => intro k4 h2 hk4 hh2 hfu; exact absurd hfu (Nat.not_lt_zero _)
                      | succ fu ih156 =>
                        intro k4 h2 hk4 hh2 hfu156
                        refine r_iload_n C dX8_works_156 0 rfl ?_
                        refine r_if_le (tgt := 208) C dX8_works_157 (by decide) (fun c157 => ?_) (fun c157 => ?_)
                        ·
                          have hk40 : k4 = 0 := by rcases Nat.eq_zero_or_pos k4 with q | q; exact q; exact absurd c157 (nI_nle q (by omega))
                          exact hend _ _ _ _ dX8_works_208 (⟨⟨fun q hq => m4_o (by omega), fun j hj => ⟨hfl j hj, hw j (by omega), hb j (by omega), work_back hT (fun j hj => hh j (by omega)) hh2 hk40 j hj⟩⟩, rfl⟩)
                        ·
                          have hk40 : 0 < k4 := by rcases Nat.eq_zero_or_pos k4 with q | q; exact absurd (by subst q; decide) c157; exact q
                          have hpk4 := hpar k4 hk40 hk4
                          refine r_aload_n C dX8_works_160 2 rfl ?_
                          refine r_getr (q2 := 115) C dX8_works_161 10 f_X8_31 rfl rfl ?_
                          refine r_iload_n C dX8_works_164 0 rfl ?_
                          refine r_dup2 C dX8_works_165 rfl rfl ?_
                          refine r_ialdN (j := k4) (v := h2 k4) C dX8_works_166 rfl (rfl) (by omega) (by decide) (rfl) ?_
                          refine r_aload_n C dX8_works_167 2 rfl ?_
                          refine r_iload_n C dX8_works_168 0 rfl ?_
                          refine r_iconst (v := 3) C dX8_works_169 rfl ?_
                          refine r_callVI (As := [.int (nI k4), .int 3]) (rest := [.int (h2 k4), .int (nI k4), .ref (mA G 115)]) C dX8_works_170 s_X8_48 (c_X8_of l G hG (m4 M f2 w b h2) g V hW (hV4 _ _ _ _) k4 hk4 3 (by decide)) (by decide) rfl rfl rfl rfl (Nat.le_of_ble_eq_true rfl) (Nat.le_of_ble_eq_true rfl) (Nat.le_of_ble_eq_true rfl) (pk_I ?_)
                          refine r_aload_n C dX8_works_173 2 rfl ?_
                          refine r_getr (q2 := 114) C dX8_works_174 9 f_X8_28 rfl rfl ?_
                          refine r_iload_n C dX8_works_177 0 rfl ?_
                          refine r_ialdN (j := k4) (v := rF V (vSup V) k4) C dX8_works_178 rfl (rfl) (by omega) (by decide) (by show b k4 = _; rw [hb k4 (by omega), if_neg (by omega)]) ?_
                          refine r_imul C dX8_works_179 ?_
                          refine r_iadd C dX8_works_180 ?_
                          refine r_iastN (j := k4) C dX8_works_181 rfl (rfl) (by omega) (by decide) ?_
                          refine r_mem (M' := m4 M f2 w b (upd h2 k4 (h2 k4 + dF V k4))) (m4_4) ?_
                          refine r_aload_n C dX8_works_182 2 rfl ?_
                          refine r_getr (q2 := 115) C dX8_works_183 10 f_X8_31 rfl rfl ?_
                          refine r_aload_n C dX8_works_186 2 rfl ?_
                          refine r_iload_n C dX8_works_187 0 rfl ?_
                          refine r_iconst (v := 0) C dX8_works_188 rfl ?_
                          refine r_callVI (As := [.int (nI k4), .int 0]) (rest := [.ref (mA G 115)]) C dX8_works_189 s_X8_48 (c_X8_of l G hG (m4 M f2 w b (upd h2 k4 (h2 k4 + dF V k4))) g V hW (hV4 _ _ _ _) k4 hk4 0 (by decide)) (by decide) rfl rfl rfl rfl (Nat.le_of_ble_eq_true rfl) (Nat.le_of_ble_eq_true rfl) (Nat.le_of_ble_eq_true rfl) (pk_I ?_)
                          refine r_valI (y := nI (vP V k4)) (hpk4.1) ?_
                          refine r_dup2 C dX8_works_192 rfl rfl ?_
                          refine r_ialdN (j := vP V k4) (v := h2 (vP V k4)) C dX8_works_193 rfl (rfl) (by omega) (by decide) (by show upd h2 k4 _ (vP V k4) = _; rw [upd_ne (by omega)]) ?_
                          refine r_aload_n C dX8_works_194 2 rfl ?_
                          refine r_getr (q2 := 115) C dX8_works_195 10 f_X8_31 rfl rfl ?_
                          refine r_iload_n C dX8_works_198 0 rfl ?_
                          refine r_ialdN (j := k4) (v := h2 k4 + dF V k4) C dX8_works_199 rfl (rfl) (by omega) (by decide) (by show upd h2 k4 _ k4 = _; rw [upd_at]) ?_
                          refine r_iadd C dX8_works_200 ?_
                          refine r_iastN (j := vP V k4) C dX8_works_201 rfl (rfl) (by omega) (by decide) ?_
                          refine r_mem (M' := m4 M f2 w b (upd (upd h2 k4 (h2 k4 + dF V k4)) (vP V k4) (h2 (vP V k4) + (h2 k4 + dF V k4)))) (m4_4) ?_
                          refine r_iinc (v := nI (k4 - 1)) (L' := [(2, .int (nI (k4 - 1))), (1, .int (nI (vN V))), (0, .ref (mA G 107))]) C dX8_works_202 0 rfl (nI_dec1 (by omega)) (by decide) rfl ?_
                          refine r_goto (tgt := 156) C dX8_works_205 (by decide) ?_
                          refine r_sub (L' := [(2, .int (nI (k4 - 1))), (1, .int (nI (vN V))), (0, .ref (mA G 107))]) [0, 1, 2] rfl ?_
                          exact ih156 (k4 - 1) _ (by omega) (by rw [← hh2, hv_step hk40 hpk4.2]) (by omega)
                    refine r_sub (L' := [(2, .int (nI (vN V - 1))), (1, .int (nI (vN V))), (0, .ref (mA G 107))]) [0, 1, 2] rfl ?_
                    exact lp156 _ (vN V - 1) h (by omega) rfl (Nat.lt_succ_self _)
                  ·
                    have hlt : k3 < vN V := lt_of_nle (by omega) c111
                    refine r_aload_n C dX8_works_114 2 rfl ?_
                    refine r_getr (q2 := 113) C dX8_works_115 8 f_X8_25 rfl rfl ?_
                    refine r_iload_n C dX8_works_118 0 rfl ?_
                    refine r_aload_n C dX8_works_119 2 rfl ?_
                    refine r_iload_n C dX8_works_120 0 rfl ?_
                    refine r_callVI (As := [.int (nI k3)]) (rest := [.int (nI k3), .ref (mA G 113)]) C dX8_works_121 s_X8_55 (c_X8_warmth l G hG (m4 M f2 w b h) g V hW (hV4 _ _ _ _) (vSup V) k3 hk3 hlt (hw _ (hpar k3 hk3 hlt).2) (hfl k3 hlt)) (by decide) rfl rfl rfl rfl (Nat.le_of_ble_eq_true rfl) (Nat.le_of_ble_eq_true rfl) (Nat.le_of_ble_eq_true rfl) (pk_I ?_)
                    refine r_iastN (j := k3) C dX8_works_124 rfl (rfl) (by omega) (by decide) ?_
                    refine r_mem (M' := m4 M f2 (upd w k3 (warmF V (vSup V) k3)) b h) (m4_2) ?_
                    refine r_aload_n C dX8_works_125 2 rfl ?_
                    refine r_getr (q2 := 114) C dX8_works_126 9 f_X8_28 rfl rfl ?_
                    refine r_iload_n C dX8_works_129 0 rfl ?_
                    refine r_aload_n C dX8_works_130 2 rfl ?_
                    refine r_iload_n C dX8_works_131 0 rfl ?_
                    refine r_iconst (v := 4) C dX8_works_132 rfl ?_
                    refine r_callVI (As := [.int (nI k3), .int 4]) (rest := [.int (nI k3), .ref (mA G 114)]) C dX8_works_133 s_X8_48 (c_X8_of l G hG (m4 M f2 (upd w k3 (warmF V (vSup V) k3)) b h) g V hW (hV4 _ _ _ _) k3 hlt 4 (by decide)) (by decide) rfl rfl rfl rfl (Nat.le_of_ble_eq_true rfl) (Nat.le_of_ble_eq_true rfl) (Nat.le_of_ble_eq_true rfl) (pk_I ?_)
                    refine r_aload_n C dX8_works_136 2 rfl ?_
                    refine r_getr (q2 := 113) C dX8_works_137 8 f_X8_25 rfl rfl ?_
                    refine r_iload_n C dX8_works_140 0 rfl ?_
                    refine r_ialdN (j := k3) (v := warmF V (vSup V) k3) C dX8_works_141 rfl (rfl) (by omega) (by decide) (by show upd w k3 (warmF V (vSup V) k3) k3 = _; rw [upd_at]) ?_
                    refine r_callSI (As := [.int (vD V 4 k3), .int (warmF V (vSup V) k3)]) (rest := [.int (nI k3), .ref (mA G 114)]) C dX8_works_142 s_X8_52 (c_X8_less l G hG (m4 M f2 (upd w k3 (warmF V (vSup V) k3)) b h) g (vD V 4 k3) (warmF V (vSup V) k3)) (by decide) rfl rfl (Nat.le_of_ble_eq_true rfl) (Nat.le_of_ble_eq_true rfl) (Nat.le_of_ble_eq_true rfl) (pk_I ?_)
                    refine r_iastN (j := k3) C dX8_works_145 rfl (rfl) (by omega) (by decide) ?_
                    refine r_mem (M' := m4 M f2 (upd w k3 (warmF V (vSup V) k3)) (upd b k3 (rF V (vSup V) k3)) h) (m4_3) ?_
                    refine r_iinc (v := nI (k3 + 1)) (L' := [(2, .int (nI (k3 + 1))), (1, .int (nI (vN V))), (0, .ref (mA G 107))]) C dX8_works_146 0 rfl (nI_inc _) (by decide) rfl ?_
                    refine r_goto (tgt := 109) C dX8_works_149 (by decide) ?_
                    refine r_sub (L' := [(2, .int (nI (k3 + 1))), (1, .int (nI (vN V))), (0, .ref (mA G 107))]) [0, 1, 2] rfl ?_
                    exact ih109 (k3 + 1) _ _ (by omega) (by omega) (fun j hj => by rcases Nat.lt_or_ge j k3 with q | q; (rw [upd_ne (by omega)]; exact hw j q); (have e9 : j = k3 := by omega); subst e9; rw [upd_at]) (fun j hj => by rcases Nat.lt_or_ge j k3 with q | q; (rw [upd_ne (by omega)]; exact hb j q); (have e9 : j = k3 := by omega); subst e9; rw [upd_at]; exact (if_neg (by omega)).symm) (by omega)
              refine r_sub (L' := [(2, .int (nI 1)), (1, .int (nI (vN V))), (0, .ref (mA G 107))]) [0, 1, 2] rfl ?_
              exact lp109 _ 1 (upd (M 113) 0 (vS V 0)) (upd (M 114) 0 (-1)) (by omega) hn1 (fun j hj => by (have e9 : j = 0 := by omega); subst e9; rw [upd_at]; rfl) (fun j hj => by (have e9 : j = 0 := by omega); subst e9; rw [upd_at]; rfl) (Nat.lt_succ_self _)
            ·
              have hk20 : 0 < k2 := by rcases Nat.eq_zero_or_pos k2 with q | q; exact absurd (by subst q; decide) c59; exact q
              have hpk := hpar k2 hk20 hkm
              refine r_aload_n C dX8_works_62 2 rfl ?_
              refine r_getr (q2 := 112) C dX8_works_63 7 f_X8_22 rfl rfl ?_
              refine r_aload_n C dX8_works_66 2 rfl ?_
              refine r_iload_n C dX8_works_67 0 rfl ?_
              refine r_iconst (v := 0) C dX8_works_68 rfl ?_
              refine r_callVI (As := [.int (nI k2), .int 0]) (rest := [.ref (mA G 112)]) C dX8_works_69 s_X8_48 (c_X8_of l G hG (m4 M f2 (M 113) (M 114) h) g V hW (hV4 _ _ _ _) k2 hkm 0 (by decide)) (by decide) rfl rfl rfl rfl (Nat.le_of_ble_eq_true rfl) (Nat.le_of_ble_eq_true rfl) (Nat.le_of_ble_eq_true rfl) (pk_I ?_)
              refine r_valI (y := nI (vP V k2)) (hpk.1) ?_
              refine r_dup2 C dX8_works_72 rfl rfl ?_
              refine r_ialdN (j := vP V k2) (v := f2 (vP V k2)) C dX8_works_73 rfl (rfl) (by omega) (by decide) (rfl) ?_
              refine r_aload_n C dX8_works_74 2 rfl ?_
              refine r_getr (q2 := 112) C dX8_works_75 7 f_X8_22 rfl rfl ?_
              refine r_iload_n C dX8_works_78 0 rfl ?_
              refine r_ialdN (j := k2) (v := f2 k2) C dX8_works_79 rfl (rfl) (by omega) (by decide) (rfl) ?_
              refine r_iadd C dX8_works_80 ?_
              refine r_iastN (j := vP V k2) C dX8_works_81 rfl (rfl) (by omega) (by decide) ?_
              refine r_mem (M' := m4 M (upd f2 (vP V k2) (f2 (vP V k2) + f2 k2)) (M 113) (M 114) h) (m4_1) ?_
              refine r_iinc (v := nI (k2 - 1)) (L' := [(2, .int (nI (k2 - 1))), (1, .int (nI (vN V))), (0, .ref (mA G 107))]) C dX8_works_82 0 rfl (nI_dec1 (by omega)) (by decide) rfl ?_
              refine r_goto (tgt := 58) C dX8_works_85 (by decide) ?_
              refine r_sub (L' := [(2, .int (nI (k2 - 1))), (1, .int (nI (vN V))), (0, .ref (mA G 107))]) [0, 1, 2] rfl ?_
              exact ih58 (k2 - 1) _ (by omega) (by rw [← hf2, addUp_s _ hk20]) (by omega)
        refine r_sub (L' := [(2, .int (nI (vN V - 1))), (1, .int (nI (vN V))), (0, .ref (mA G 107))]) [0, 1, 2] rfl ?_
        exact lp58 _ (vN V - 1) f (by omega) rfl (Nat.lt_succ_self _)
      ·
        have hlt : k < vN V := lt_of_nle (by omega) c11
        refine r_aload_n C dX8_works_14 2 rfl ?_
        refine r_getr (q2 := 112) C dX8_works_15 7 f_X8_22 rfl rfl ?_
        refine r_iload_n C dX8_works_18 0 rfl ?_
        refine r_iload_n C dX8_works_19 0 rfl ?_
        refine r_if_ne (tgt := 27) C dX8_works_20 (by decide) (fun c20 => ?_) (fun c20 => ?_)
        ·
          have hk0 : ¬ k = 0 := fun z => c20 (by rw [z]; rfl)
          refine r_aload_n C dX8_works_27 2 rfl ?_
          refine r_iload_n C dX8_works_28 0 rfl ?_
          refine r_iconst (v := 3) C dX8_works_29 rfl ?_
          refine r_callVI (As := [.int (nI k), .int 3]) (rest := [.int (nI k), .ref (mA G 112)]) C dX8_works_30 s_X8_48 (c_X8_of l G hG (m4 M f (M 113) (M 114) h) g V hW (hV4 _ _ _ _) k hlt 3 (by decide)) (by decide) rfl rfl rfl rfl (Nat.le_of_ble_eq_true rfl) (Nat.le_of_ble_eq_true rfl) (Nat.le_of_ble_eq_true rfl) (pk_I ?_)
          refine r_aload_n C dX8_works_33 2 rfl ?_
          refine r_iload_n C dX8_works_34 0 rfl ?_
          refine r_iconst (v := 5) C dX8_works_35 rfl ?_
          refine r_callVI (As := [.int (nI k), .int 5]) (rest := [.int (vD V 3 k), .int (nI k), .ref (mA G 112)]) C dX8_works_36 s_X8_48 (c_X8_of l G hG (m4 M f (M 113) (M 114) h) g V hW (hV4 _ _ _ _) k hlt 5 (by decide)) (by decide) rfl rfl rfl rfl (Nat.le_of_ble_eq_true rfl) (Nat.le_of_ble_eq_true rfl) (Nat.le_of_ble_eq_true rfl) (pk_I ?_)
          refine r_iadd C dX8_works_39 ?_
          refine r_iastN (j := k) C dX8_works_40 rfl (rfl) (by omega) (by decide) ?_
          refine r_mem (M' := m4 M (upd f k (vD V 3 k + vD V 5 k)) (M 113) (M 114) h) (m4_1) ?_
          refine r_aload_n C dX8_works_41 2 rfl ?_
          refine r_getr (q2 := 115) C dX8_works_42 10 f_X8_31 rfl rfl ?_
          refine r_iload_n C dX8_works_45 0 rfl ?_
          refine r_iconst (v := 0) C dX8_works_46 rfl ?_
          refine r_iastN (j := k) C dX8_works_47 rfl (rfl) (by omega) (by decide) ?_
          refine r_mem (M' := m4 M (upd f k (vD V 3 k + vD V 5 k)) (M 113) (M 114) (upd h k 0)) (m4_4) ?_
          refine r_iinc (v := nI (k + 1)) (L' := [(2, .int (nI (k + 1))), (1, .int (nI (vN V))), (0, .ref (mA G 107))]) C dX8_works_48 0 rfl (nI_inc _) (by decide) rfl ?_
          refine r_goto (tgt := 9) C dX8_works_51 (by decide) ?_
          refine r_sub (L' := [(2, .int (nI (k + 1))), (1, .int (nI (vN V))), (0, .ref (mA G 107))]) [0, 1, 2] rfl ?_
          exact ih9 (k + 1) _ _ (by omega) (fun j hj => by rcases Nat.lt_or_ge j k with q | q; (rw [upd_ne (by omega)]; exact hf j q); (have e9 : j = k := by omega); subst e9; rw [upd_at]; exact (if_neg hk0).symm) (fun j hj => by rcases Nat.lt_or_ge j k with q | q; (rw [upd_ne (by omega)]; exact hh j q); (have e9 : j = k := by omega); subst e9; rw [upd_at]) (by omega)
        ·
          have hk0 : k = 0 := (nI_eq (b := 0) (by omega) (by decide)).mp c20
          refine r_iconst (v := 0) C dX8_works_23 rfl ?_
          refine r_goto (tgt := 40) C dX8_works_24 (by decide) ?_
          refine r_iastN (j := k) C dX8_works_40 rfl (rfl) (by omega) (by decide) ?_
          refine r_mem (M' := m4 M (upd f k 0) (M 113) (M 114) h) (m4_1) ?_
          refine r_aload_n C dX8_works_41 2 rfl ?_
          refine r_getr (q2 := 115) C dX8_works_42 10 f_X8_31 rfl rfl ?_
          refine r_iload_n C dX8_works_45 0 rfl ?_
          refine r_iconst (v := 0) C dX8_works_46 rfl ?_
          refine r_iastN (j := k) C dX8_works_47 rfl (rfl) (by omega) (by decide) ?_
          refine r_mem (M' := m4 M (upd f k 0) (M 113) (M 114) (upd h k 0)) (m4_4) ?_
          refine r_iinc (v := nI (k + 1)) (L' := [(2, .int (nI (k + 1))), (1, .int (nI (vN V))), (0, .ref (mA G 107))]) C dX8_works_48 0 rfl (nI_inc _) (by decide) rfl ?_
          refine r_goto (tgt := 9) C dX8_works_51 (by decide) ?_
          refine r_sub (L' := [(2, .int (nI (k + 1))), (1, .int (nI (vN V))), (0, .ref (mA G 107))]) [0, 1, 2] rfl ?_
          exact ih9 (k + 1) _ _ (by omega) (fun j hj => by rcases Nat.lt_or_ge j k with q | q; (rw [upd_ne (by omega)]; exact hf j q); (have e9 : j = k := by omega); subst e9; rw [upd_at]; exact (if_pos hk0).symm) (fun j hj => by rcases Nat.lt_or_ge j k with q | q; (rw [upd_ne (by omega)]; exact hh j q); (have e9 : j = k := by omega); subst e9; rw [upd_at]) (by omega)
  refine r_mem (M' := m4 M (M 112) (M 113) (M 114) (M 115)) (m4_id M) ?_
  refine r_sub (L' := [(2, .int (nI 0)), (1, .int (nI (vN V))), (0, .ref (mA G 107))]) [0, 1, 2] rfl ?_
  exact lp9 _ 0 (M 112) (M 115) (by omega) (fun j hj => absurd hj (Nat.not_lt_zero j)) (fun j hj => absurd hj (Nat.not_lt_zero j)) (Nat.lt_succ_self _)
