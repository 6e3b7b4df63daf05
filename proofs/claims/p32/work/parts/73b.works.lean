set_option maxRecDepth 20000 in
set_option maxHeartbeats 4000000 in
theorem ws_1 {p : Program} {l : Launch} {e : Env} {s : State} {m : MethodId} {args : Array Value} {below : List Frame} {meth : Method} {c : Code} {G : mG} {Q : State → Prop} {M : Mem} {g : Glo} (hG : mInj G) (C : mCx p s m args c cL_works 8 RL G) (V : View) (hW : wfV V) (hE : eOK M V) (next : ∀ f, (∀ j, j < vN V → f j = flowF V j) → At p l e (rmD 3 0 0) s m args below meth c G 8 0 0 Q (mrow M 110 f) g [(0, .ref (mA G 107)), (1, .ref (mA G 108)), (2, .ref (mA G 109)), (3, .ref (mA G 110))] 80 []) : At p l e (rmD 3 0 0) s m args below meth c G 8 0 0 Q M g [(0, .ref (mA G 107)), (1, .ref (mA G 108)), (2, .ref (mA G 109)), (3, .ref (mA G 110))] 0 [] := by
  have hT := hW.1
  obtain ⟨hn1, hn16, hb4, ⟨hd0, hd3, hd5, hd6⟩, hpar⟩ := id hT
  have h8 := hE.le
  refine r_mem (M' := mrow M 110 (M 110)) ((mrow_self _ _).symm) ?_
  refine r_iconst (v := nI 0) C dL_works_0 rfl ?_
  refine r_istore (L' := [(4, .int (nI 0)), (0, .ref (mA G 107)), (1, .ref (mA G 108)), (2, .ref (mA G 109)), (3, .ref (mA G 110))]) C dL_works_1 (by decide) rfl ?_
  have lp3 : ∀ (fu : Nat) (k : Nat) (f : Nat → Int32), (k ≤ vN V) → (∀ j, j < k → f j = flowF V j) → (vN V - k) < fu → At p l e (rmD 3 0 0) s m args below meth c G 8 0 0 Q (mrow M 110 f) g [(4, .int (nI k)), (0, .ref (mA G 107)), (1, .ref (mA G 108)), (2, .ref (mA G 109)), (3, .ref (mA G 110))] 3 [] := by
    intro fu
    induction fu with
    | zero => intro k f hkn hf hfu; exact absurd hfu (Nat.not_lt_zero _)
    | succ fu ih3 =>
      intro k f hkn hf hfu3
      refine r_iload C dL_works_3 0 rfl ?_
      refine r_aload_n C dL_works_5 1 rfl ?_
      refine r_iconst (v := 5) C dL_works_6 rfl ?_
      refine r_ialdN (j := 5) (v := nI (vN V)) C dL_works_7 rfl (rfl) (by omega) (by decide) ((hE.row _).n) ?_
      refine r_icmp_ge (tgt := 80) C dL_works_8 (by decide) (fun c8 => ?_) (fun c8 => ?_)
      ·
        have hk2 : k = vN V := by have := le_of_le (by omega) (by omega) c8; omega
        refine r_sub (L' := [(0, .ref (mA G 107)), (1, .ref (mA G 108)), (2, .ref (mA G 109)), (3, .ref (mA G 110))]) [1, 2, 3, 4] rfl ?_
        exact next f (fun j hj => hf j (by omega))
      ·
        have hlt : k < vN V := lt_of_nle (by omega) c8
        refine r_aload_n C dL_works_11 4 rfl ?_
        refine r_iload C dL_works_12 0 rfl ?_
        refine r_iconst (v := 0) C dL_works_14 rfl ?_
        refine r_iastN (j := k) C dL_works_15 rfl (rfl) (by omega) (by decide) ?_
        refine r_mem (M' := mrow M 110 (upd f k 0)) (mset_row _ _ _ _ _) ?_
        refine r_iconst (v := nI 1) C dL_works_16 rfl ?_
        refine r_istore (L' := [(5, .int (nI 1)), (4, .int (nI k)), (0, .ref (mA G 107)), (1, .ref (mA G 108)), (2, .ref (mA G 109)), (3, .ref (mA G 110))]) C dL_works_17 (by decide) rfl ?_
        have lp19 : ∀ (fu : Nat) (o : Nat) (f2 : Nat → Int32), (0 < o) → (o ≤ vN V) → (f2 k = brS V (fun o => vD V 3 o + vD V 5 o) k o) → (∀ j, j < k → f2 j = flowF V j) → (vN V - o) < fu → At p l e (rmD 3 0 0) s m args below meth c G 8 0 0 Q (mrow M 110 f2) g [(5, .int (nI o)), (4, .int (nI k)), (0, .ref (mA G 107)), (1, .ref (mA G 108)), (2, .ref (mA G 109)), (3, .ref (mA G 110))] 19 [] := by
          intro fu
          induction fu with
          | zero => intro o f2 ho0 hon hb2 hf2 hfu; exact absurd hfu (Nat.not_lt_zero _)
          | succ fu ih19 =>
            intro o f2 ho0 hon hb2 hf2 hfu19
            refine r_iload C dL_works_19 0 rfl ?_
            refine r_aload_n C dL_works_21 2 rfl ?_
            refine r_iconst (v := 5) C dL_works_22 rfl ?_
            refine r_ialdN (j := 5) (v := nI (vN V)) C dL_works_23 rfl (rfl) (by omega) (by decide) ((hE.row _).n) ?_
            refine r_icmp_ge (tgt := 74) C dL_works_24 (by decide) (fun c24 => ?_) (fun c24 => ?_)
            ·
              have ho2 : o = vN V := by have := le_of_le (by omega) (by omega) c24; omega
              refine r_iinc (v := nI (k + 1)) (L' := [(4, .int (nI (k + 1))), (5, .int (nI o)), (0, .ref (mA G 107)), (1, .ref (mA G 108)), (2, .ref (mA G 109)), (3, .ref (mA G 110))]) C dL_works_74 1 rfl (nI_inc _) (by decide) rfl ?_
              refine r_goto (tgt := 3) C dL_works_77 (by decide) ?_
              refine r_sub (L' := [(4, .int (nI (k + 1))), (0, .ref (mA G 107)), (1, .ref (mA G 108)), (2, .ref (mA G 109)), (3, .ref (mA G 110))]) [0, 2, 3, 4, 5] rfl ?_
              exact ih3 (k + 1) f2 (by omega) (fun j hj => by rcases Nat.lt_or_ge j k with q | q; exact hf2 j q; (have e9 : j = k := by omega); rw [e9, hb2, ho2]; exact flow_br hT hlt) (by omega)
            ·
              have holt : o < vN V := lt_of_nle (by omega) c24
              refine r_aload_n C dL_works_27 5 rfl ?_
              refine r_iload C dL_works_28 1 rfl ?_
              refine r_dup2 C dL_works_30 rfl rfl ?_
              refine r_ialdN (j := k) (v := f2 k) C dL_works_31 rfl (rfl) (by omega) (by decide) (by rw [mrow_at]) ?_
              refine r_aload_n C dL_works_32 3 rfl ?_
              refine r_iload C dL_works_33 0 rfl ?_
              refine r_iload C dL_works_35 1 rfl ?_
              refine r_callSI (As := [.ref (mA G 108), .int (nI o), .int (nI k)]) (rest := [.int (f2 k), .int (nI k), .ref (mA G 110)]) C dL_works_37 s_L_9 (c_L_below l G hG (mrow M 110 f2) g V hW (hE.row _) o k holt hlt) (by decide) rfl rfl (Nat.le_of_ble_eq_true rfl) (Nat.le_of_ble_eq_true rfl) (Nat.le_of_ble_eq_true rfl) (pk_I ?_)
              refine r_if_eq (tgt := 65) C dL_works_40 (by decide) (fun c40 => ?_) (fun c40 => ?_)
              ·
                refine r_iconst (v := 0) C dL_works_65 rfl ?_
                refine r_iadd C dL_works_66 ?_
                refine r_iastN (j := k) C dL_works_67 rfl (rfl) (by omega) (by decide) ?_
                refine r_mem (M' := mrow M 110 (upd f2 k ((f2 k) + 0))) (mset_row _ _ _ _ _) ?_
                refine r_iinc (v := nI (o + 1)) (L' := [(5, .int (nI (o + 1))), (4, .int (nI k)), (0, .ref (mA G 107)), (1, .ref (mA G 108)), (2, .ref (mA G 109)), (3, .ref (mA G 110))]) C dL_works_68 0 rfl (nI_inc _) (by decide) rfl ?_
                refine r_goto (tgt := 19) C dL_works_71 (by decide) ?_
                refine r_sub (L' := [(5, .int (nI (o + 1))), (4, .int (nI k)), (0, .ref (mA G 107)), (1, .ref (mA G 108)), (2, .ref (mA G 109)), (3, .ref (mA G 110))]) [0, 1, 2, 3, 4, 5] rfl ?_
                exact ih19 (o + 1) (upd f2 k ((f2 k) + 0)) (by omega) (by omega) (by rw [upd_at, brS_s _ _ _ ho0, hb2, if_neg (by rw [b2i_0.mp c40]; decide)]) (fun j hj => by rw [upd_ne (by omega)]; exact hf2 j hj) (by omega)
              ·
                refine r_aload_n C dL_works_43 3 rfl ?_
                refine r_bipush (v := 8) C dL_works_44 rfl ?_
                refine r_iload C dL_works_46 0 rfl ?_
                refine r_imul C dL_works_48 ?_
                refine r_valI (y := nI (8 * o)) (pk_mul 8 o) ?_
                refine r_iconst (v := 3) C dL_works_49 rfl ?_
                refine r_iadd C dL_works_50 ?_
                refine r_valI (y := nI (8 * o + 3)) (nI_add (8 * o) 3) ?_
                refine r_ialdN (j := 8 * o + 3) (v := vD V 3 o) C dL_works_51 rfl (rfl) (by omega) (by decide) ((hE.row _).e o 3 holt (by decide) (by omega)) ?_
                refine r_aload_n C dL_works_52 3 rfl ?_
                refine r_bipush (v := 8) C dL_works_53 rfl ?_
                refine r_iload C dL_works_55 0 rfl ?_
                refine r_imul C dL_works_57 ?_
                refine r_valI (y := nI (8 * o)) (pk_mul 8 o) ?_
                refine r_iconst (v := 5) C dL_works_58 rfl ?_
                refine r_iadd C dL_works_59 ?_
                refine r_valI (y := nI (8 * o + 5)) (nI_add (8 * o) 5) ?_
                refine r_ialdN (j := 8 * o + 5) (v := vD V 5 o) C dL_works_60 rfl (rfl) (by omega) (by decide) ((hE.row _).e o 5 holt (by decide) (by omega)) ?_
                refine r_iadd C dL_works_61 ?_
                refine r_goto (tgt := 66) C dL_works_62 (by decide) ?_
                refine r_iadd C dL_works_66 ?_
                refine r_iastN (j := k) C dL_works_67 rfl (rfl) (by omega) (by decide) ?_
                refine r_mem (M' := mrow M 110 (upd f2 k ((f2 k) + (vD V 3 o + vD V 5 o)))) (mset_row _ _ _ _ _) ?_
                refine r_iinc (v := nI (o + 1)) (L' := [(5, .int (nI (o + 1))), (4, .int (nI k)), (0, .ref (mA G 107)), (1, .ref (mA G 108)), (2, .ref (mA G 109)), (3, .ref (mA G 110))]) C dL_works_68 0 rfl (nI_inc _) (by decide) rfl ?_
                refine r_goto (tgt := 19) C dL_works_71 (by decide) ?_
                refine r_sub (L' := [(5, .int (nI (o + 1))), (4, .int (nI k)), (0, .ref (mA G 107)), (1, .ref (mA G 108)), (2, .ref (mA G 109)), (3, .ref (mA G 110))]) [0, 1, 2, 3, 4, 5] rfl ?_
                exact ih19 (o + 1) (upd f2 k ((f2 k) + (vD V 3 o + vD V 5 o))) (by omega) (by omega) (by rw [upd_at, brS_s _ _ _ ho0, hb2, if_pos (b2i_1.mp c40)]) (fun j hj => by rw [upd_ne (by omega)]; exact hf2 j hj) (by omega)
        refine r_sub (L' := [(5, .int (nI 1)), (4, .int (nI k)), (0, .ref (mA G 107)), (1, .ref (mA G 108)), (2, .ref (mA G 109)), (3, .ref (mA G 110))]) [0, 1, 2, 3, 4, 5] rfl ?_
        exact lp19 _ 1 (upd f k 0) (by omega) hn1 (by rw [upd_at, brS_1]) (fun j hj => by rw [upd_ne (by omega)]; exact hf j hj) (Nat.lt_succ_self _)
  refine r_sub (L' := [(4, .int (nI 0)), (0, .ref (mA G 107)), (1, .ref (mA G 108)), (2, .ref (mA G 109)), (3, .ref (mA G 110))]) [0, 1, 2, 3, 4] rfl ?_
  exact lp3 _ 0 (M 110) (by omega) (fun j hj => absurd hj (Nat.not_lt_zero j)) (Nat.lt_succ_self _)

set_option maxRecDepth 20000 in
set_option maxHeartbeats 4000000 in
theorem ws_2 {p : Program} {l : Launch} {e : Env} {s : State} {m : MethodId} {args : Array Value} {below : List Frame} {meth : Method} {c : Code} {G : mG} {Q : State → Prop} {M : Mem} {g : Glo} (hG : mInj G) (C : mCx p s m args c cL_works 8 RL G) (V : View) (hW : wfV V) (hE : eOK M V) (f : Nat → Int32) (hf : ∀ j, j < vN V → f j = flowF V j) (next : ∀ f, tP V f → At p l e (rmD 3 0 0) s m args below meth c G 8 0 0 Q (mrow M 110 f) g [(0, .ref (mA G 107)), (1, .ref (mA G 108)), (2, .ref (mA G 109)), (3, .ref (mA G 110))] 273 []) : At p l e (rmD 3 0 0) s m args below meth c G 8 0 0 Q (mrow M 110 f) g [(0, .ref (mA G 107)), (1, .ref (mA G 108)), (2, .ref (mA G 109)), (3, .ref (mA G 110))] 80 [] := by
  have hT := hW.1
  obtain ⟨hn1, hn16, hb4, ⟨hd0, hd3, hd5, hd6⟩, hpar⟩ := id hT
  have h8 := hE.le
  refine r_aload_n C dL_works_80 3 rfl ?_
  refine r_bipush (v := 8) C dL_works_81 rfl ?_
  refine r_aload_n C dL_works_83 0 rfl ?_
  refine r_iconst (v := 0) C dL_works_84 rfl ?_
  refine r_ialdN (j := 0) (v := vS V 0) C dL_works_85 rfl (rfl) (by omega) (by decide) ((hE.row _).s 0 (by decide)) ?_
  refine r_iastN (j := 8) C dL_works_86 rfl (rfl) (by omega) (by decide) ?_
  refine r_mem (M' := mrow M 110 (upd f 8 (vS V 0))) (mset_row _ _ _ _ _) ?_
  refine r_iconst (v := nI 1) C dL_works_87 rfl ?_
  refine r_istore (L' := [(4, .int (nI 1)), (0, .ref (mA G 107)), (1, .ref (mA G 108)), (2, .ref (mA G 109)), (3, .ref (mA G 110))]) C dL_works_88 (by decide) rfl ?_
  have lp90 : ∀ (fu : Nat) (k : Nat) (f1 : Nat → Int32), (0 < k) → (k ≤ vN V) → (∀ j, j < vN V → f1 j = flowF V j) → (∀ j, j < k → f1 (8 + j) = warmF V (vSup V) j) → (∀ j, 0 < j → j < k → f1 (16 + j) = rF V (vSup V) j) → (vN V - k) < fu → At p l e (rmD 3 0 0) s m args below meth c G 8 0 0 Q (mrow M 110 f1) g [(4, .int (nI k)), (0, .ref (mA G 107)), (1, .ref (mA G 108)), (2, .ref (mA G 109)), (3, .ref (mA G 110))] 90 [] := by
    intro fu
    induction fu with
    | zero => intro k f1 hk0 hkn hfl hw hr hfu; exact absurd hfu (Nat.not_lt_zero _)
    | succ fu ih90 =>
      intro k f1 hk0 hkn hfl hw hr hfu90
      refine r_iload C dL_works_90 0 rfl ?_
      refine r_aload_n C dL_works_92 1 rfl ?_
      refine r_iconst (v := 5) C dL_works_93 rfl ?_
      refine r_ialdN (j := 5) (v := nI (vN V)) C dL_works_94 rfl (rfl) (by omega) (by decide) ((hE.row _).n) ?_
      refine r_icmp_ge (tgt := 273) C dL_works_95 (by decide) (fun c95 => ?_) (fun c95 => ?_)
      ·
        have hk2 : k = vN V := by have := le_of_le (by omega) (by omega) c95; omega
        refine r_sub (L' := [(0, .ref (mA G 107)), (1, .ref (mA G 108)), (2, .ref (mA G 109)), (3, .ref (mA G 110))]) [1, 2, 3, 4] rfl ?_
        exact next f1 (fun j hj => ⟨hfl j hj, hw j (by omega), fun h0 => hr j h0 (by omega)⟩)
      ·
        have hlt : k < vN V := lt_of_nle (by omega) c95
        have hpk := (hpar k hk0 hlt).2
        refine r_aload_n C dL_works_98 4 rfl ?_
        refine r_bipush (v := 8) C dL_works_99 rfl ?_
        refine r_aload_n C dL_works_101 2 rfl ?_
        refine r_bipush (v := 8) C dL_works_102 rfl ?_
        refine r_iload C dL_works_104 0 rfl ?_
        refine r_imul C dL_works_106 ?_
        refine r_valI (y := nI (8 * k)) (pk_mul 8 k) ?_
        refine r_ialdN (j := 8 * k) (v := nI (vP V k)) C dL_works_107 rfl (rfl) (by omega) (by decide) ((hE.row _).par hT k hk0 hlt) ?_
        refine r_iadd C dL_works_108 ?_
        refine r_valI (y := nI (8 + vP V k)) (nI_add 8 (vP V k)) ?_
        refine r_ialdN (j := 8 + (vP V k)) (v := warmF V (vSup V) (vP V k)) C dL_works_109 rfl (rfl) (by omega) (by decide) (by rw [mrow_at]; exact hw _ hpk) ?_
        refine r_istore (L' := [(5, .int (warmF V (vSup V) (vP V k))), (4, .int (nI k)), (0, .ref (mA G 107)), (1, .ref (mA G 108)), (2, .ref (mA G 109)), (3, .ref (mA G 110))]) C dL_works_110 (by decide) rfl ?_
        refine r_iload C dL_works_112 0 rfl ?_
        refine r_aload_n C dL_works_114 2 rfl ?_
        refine r_iconst (v := 1) C dL_works_115 rfl ?_
        refine r_ialdN (j := 1) (v := vS V 1) C dL_works_116 rfl (rfl) (by omega) (by decide) ((hE.row _).s 1 (by decide)) ?_
        refine r_isub C dL_works_117 ?_
        refine r_istore (L' := [(6, .int ((warmF V (vSup V) (vP V k)) - (vS V 1))), (5, .int (warmF V (vSup V) (vP V k))), (4, .int (nI k)), (0, .ref (mA G 107)), (1, .ref (mA G 108)), (2, .ref (mA G 109)), (3, .ref (mA G 110))]) C dL_works_118 (by decide) rfl ?_
        refine r_aload_n C dL_works_120 6 rfl ?_
        refine r_iload C dL_works_121 2 rfl ?_
        refine r_ialdN (j := k) (v := flowF V k) C dL_works_123 rfl (rfl) (by omega) (by decide) (by rw [mrow_at]; exact hfl k hlt) ?_
        refine r_if_ne (tgt := 131) C dL_works_124 (by decide) (fun c124 => ?_) (fun c124 => ?_)
        ·
          refine r_iload C dL_works_131 0 rfl ?_
          refine r_aload_n C dL_works_133 4 rfl ?_
          refine r_bipush (v := 8) C dL_works_134 rfl ?_
          refine r_iload C dL_works_136 2 rfl ?_
          refine r_imul C dL_works_138 ?_
          refine r_valI (y := nI (8 * k)) (pk_mul 8 k) ?_
          refine r_iconst (v := 2) C dL_works_139 rfl ?_
          refine r_iadd C dL_works_140 ?_
          refine r_valI (y := nI (8 * k + 2)) (nI_add (8 * k) 2) ?_
          refine r_ialdN (j := 8 * k + 2) (v := vD V 2 k) C dL_works_141 rfl (rfl) (by omega) (by decide) ((hE.row _).e k 2 hlt (by decide) (by omega)) ?_
          refine r_imul C dL_works_142 ?_
          refine r_aload_n C dL_works_143 4 rfl ?_
          refine r_bipush (v := 8) C dL_works_144 rfl ?_
          refine r_iload C dL_works_146 2 rfl ?_
          refine r_imul C dL_works_148 ?_
          refine r_valI (y := nI (8 * k)) (pk_mul 8 k) ?_
          refine r_iconst (v := 1) C dL_works_149 rfl ?_
          refine r_iadd C dL_works_150 ?_
          refine r_valI (y := nI (8 * k + 1)) (nI_add (8 * k) 1) ?_
          refine r_ialdN (j := 8 * k + 1) (v := vD V 1 k) C dL_works_151 rfl (rfl) (by omega) (by decide) ((hE.row _).e k 1 hlt (by decide) (by omega)) ?_
          refine r_imul C dL_works_152 ?_
          refine r_sipush (v := 1000) C dL_works_153 rfl ?_
          refine r_aload_n C dL_works_156 6 rfl ?_
          refine r_iload C dL_works_157 2 rfl ?_
          refine r_ialdN (j := k) (v := flowF V k) C dL_works_159 rfl (rfl) (by omega) (by decide) (by rw [mrow_at]; exact hfl k hlt) ?_
          refine r_imul C dL_works_160 ?_
          refine r_idiv C dL_works_161 (div_ok hW hk0 hlt c124) ?_
          refine r_istore (L' := [(7, .int (((((warmF V (vSup V) (vP V k)) - (vS V 1)) * (vD V 2 k)) * (vD V 1 k)) / (1000 * (flowF V k)))), (6, .int ((warmF V (vSup V) (vP V k)) - (vS V 1))), (5, .int (warmF V (vSup V) (vP V k))), (4, .int (nI k)), (0, .ref (mA G 107)), (1, .ref (mA G 108)), (2, .ref (mA G 109)), (3, .ref (mA G 110))]) C dL_works_162 (by decide) rfl ?_
          refine r_aload_n C dL_works_164 7 rfl ?_
          refine r_bipush (v := 8) C dL_works_165 rfl ?_
          refine r_iload C dL_works_167 3 rfl ?_
          refine r_iadd C dL_works_169 ?_
          refine r_valI (y := nI (8 + k)) (nI_add 8 k) ?_
          refine r_aload_n C dL_works_170 7 rfl ?_
          refine r_iload C dL_works_171 3 rfl ?_
          refine r_ialdN (j := k) (v := flowF V k) C dL_works_173 rfl (rfl) (by omega) (by decide) (by rw [mrow_at]; exact hfl k hlt) ?_
          refine r_if_ne (tgt := 193) C dL_works_174 (by decide) (fun _ => ?_) (fun h => absurd h (c124))
          refine r_iload C dL_works_193 1 rfl ?_
          refine r_if_gt (tgt := 203) C dL_works_195 (by decide) (fun c195 => ?_) (fun c195 => ?_)
          ·
            refine r_iload C dL_works_203 0 rfl ?_
            refine r_iload C dL_works_205 1 rfl ?_
            refine r_icmp_le (tgt := 216) C dL_works_207 (by decide) (fun c207 => ?_) (fun c207 => ?_)
            ·
              refine r_iload C dL_works_216 2 rfl ?_
              refine r_iload C dL_works_218 0 rfl ?_
              refine r_isub C dL_works_220 ?_
              refine r_valI (y := warmF V (vSup V) k) (by rw [← lawT_warm hW hk0 hlt]; unfold lawT; rw [if_neg c124, if_neg (i32_nle.mpr c195), if_neg (i32_nlt.mpr c207)]) ?_
              refine r_iastN (j := 8 + k) C dL_works_221 rfl (rfl) (by omega) (by decide) ?_
              refine r_mem (M' := mrow M 110 (upd f1 (8 + k) (warmF V (vSup V) k))) (mset_row _ _ _ _ _) ?_
              refine r_aload_n C dL_works_222 7 rfl ?_
              refine r_bipush (v := 16) C dL_works_223 rfl ?_
              refine r_iload C dL_works_225 3 rfl ?_
              refine r_iadd C dL_works_227 ?_
              refine r_valI (y := nI (16 + k)) (nI_add 16 k) ?_
              refine r_aload_n C dL_works_228 7 rfl ?_
              refine r_bipush (v := 8) C dL_works_229 rfl ?_
              refine r_iload C dL_works_231 3 rfl ?_
              refine r_iadd C dL_works_233 ?_
              refine r_valI (y := nI (8 + k)) (nI_add 8 k) ?_
              refine r_ialdN (j := 8 + k) (v := warmF V (vSup V) k) C dL_works_234 rfl (rfl) (by omega) (by decide) (by rw [mrow_at, upd_at]) ?_
              refine r_aload_n C dL_works_235 5 rfl ?_
              refine r_bipush (v := 8) C dL_works_236 rfl ?_
              refine r_iload C dL_works_238 3 rfl ?_
              refine r_imul C dL_works_240 ?_
              refine r_valI (y := nI (8 * k)) (pk_mul 8 k) ?_
              refine r_iconst (v := 4) C dL_works_241 rfl ?_
              refine r_iadd C dL_works_242 ?_
              refine r_valI (y := nI (8 * k + 4)) (nI_add (8 * k) 4) ?_
              refine r_ialdN (j := 8 * k + 4) (v := vD V 4 k) C dL_works_243 rfl (rfl) (by omega) (by decide) ((hE.row _).e k 4 hlt (by decide) (by omega)) ?_
              refine r_icmp_ge (tgt := 257) C dL_works_244 (by decide) (fun c244 => ?_) (fun c244 => ?_)
              ·
                refine r_aload_n C dL_works_257 5 rfl ?_
                refine r_bipush (v := 8) C dL_works_258 rfl ?_
                refine r_iload C dL_works_260 3 rfl ?_
                refine r_imul C dL_works_262 ?_
                refine r_valI (y := nI (8 * k)) (pk_mul 8 k) ?_
                refine r_iconst (v := 4) C dL_works_263 rfl ?_
                refine r_iadd C dL_works_264 ?_
                refine r_valI (y := nI (8 * k + 4)) (nI_add (8 * k) 4) ?_
                refine r_ialdN (j := 8 * k + 4) (v := vD V 4 k) C dL_works_265 rfl (rfl) (by omega) (by decide) ((hE.row _).e k 4 hlt (by decide) (by omega)) ?_
                refine r_valI (y := rF V (vSup V) k) (by unfold rF minI; rw [if_neg (i32_nlt.mpr c244)]) ?_
                refine r_iastN (j := 16 + k) C dL_works_266 rfl (rfl) (by omega) (by decide) ?_
                refine r_mem (M' := mrow M 110 (upd (upd f1 (8 + k) (warmF V (vSup V) k)) (16 + k) (rF V (vSup V) k))) (mset_row _ _ _ _ _) ?_
                refine r_iinc (v := nI (k + 1)) (L' := [(4, .int (nI (k + 1))), (7, .int (((((warmF V (vSup V) (vP V k)) - (vS V 1)) * (vD V 2 k)) * (vD V 1 k)) / (1000 * (flowF V k)))), (6, .int ((warmF V (vSup V) (vP V k)) - (vS V 1))), (5, .int (warmF V (vSup V) (vP V k))), (0, .ref (mA G 107)), (1, .ref (mA G 108)), (2, .ref (mA G 109)), (3, .ref (mA G 110))]) C dL_works_267 3 rfl (nI_inc _) (by decide) rfl ?_
                refine r_goto (tgt := 90) C dL_works_270 (by decide) ?_
                refine r_sub (L' := [(4, .int (nI (k + 1))), (0, .ref (mA G 107)), (1, .ref (mA G 108)), (2, .ref (mA G 109)), (3, .ref (mA G 110))]) [0, 4, 5, 6, 7] rfl ?_
                exact ih90 (k + 1) (upd (upd f1 (8 + k) (warmF V (vSup V) k)) (16 + k) (rF V (vSup V) k)) (by omega) (by omega) (fun j hj => by rw [upd_ne (by omega), upd_ne (by omega)]; exact hfl j hj) (fun j hj => by rw [upd_ne (by omega)]; rcases Nat.lt_or_ge j k with q | q; (rw [upd_ne (by omega)]; exact hw j q); (have e9 : j = k := by omega); rw [e9, upd_at]) (fun j h0 hj => by rcases Nat.lt_or_ge j k with q | q; (rw [upd_ne (by omega), upd_ne (by omega)]; exact hr j h0 q); (have e9 : j = k := by omega); rw [e9, upd_at]) (by omega)
              ·
                refine r_aload_n C dL_works_247 7 rfl ?_
                refine r_bipush (v := 8) C dL_works_248 rfl ?_
                refine r_iload C dL_works_250 3 rfl ?_
                refine r_iadd C dL_works_252 ?_
                refine r_valI (y := nI (8 + k)) (nI_add 8 k) ?_
                refine r_ialdN (j := 8 + k) (v := warmF V (vSup V) k) C dL_works_253 rfl (rfl) (by omega) (by decide) (by rw [mrow_at, upd_at]) ?_
                refine r_goto (tgt := 266) C dL_works_254 (by decide) ?_
                refine r_valI (y := rF V (vSup V) k) (by unfold rF minI; rw [if_pos (i32_nle.mp c244)]) ?_
                refine r_iastN (j := 16 + k) C dL_works_266 rfl (rfl) (by omega) (by decide) ?_
                refine r_mem (M' := mrow M 110 (upd (upd f1 (8 + k) (warmF V (vSup V) k)) (16 + k) (rF V (vSup V) k))) (mset_row _ _ _ _ _) ?_
                refine r_iinc (v := nI (k + 1)) (L' := [(4, .int (nI (k + 1))), (7, .int (((((warmF V (vSup V) (vP V k)) - (vS V 1)) * (vD V 2 k)) * (vD V 1 k)) / (1000 * (flowF V k)))), (6, .int ((warmF V (vSup V) (vP V k)) - (vS V 1))), (5, .int (warmF V (vSup V) (vP V k))), (0, .ref (mA G 107)), (1, .ref (mA G 108)), (2, .ref (mA G 109)), (3, .ref (mA G 110))]) C dL_works_267 3 rfl (nI_inc _) (by decide) rfl ?_
                refine r_goto (tgt := 90) C dL_works_270 (by decide) ?_
                refine r_sub (L' := [(4, .int (nI (k + 1))), (0, .ref (mA G 107)), (1, .ref (mA G 108)), (2, .ref (mA G 109)), (3, .ref (mA G 110))]) [0, 4, 5, 6, 7] rfl ?_
                exact ih90 (k + 1) (upd (upd f1 (8 + k) (warmF V (vSup V) k)) (16 + k) (rF V (vSup V) k)) (by omega) (by omega) (fun j hj => by rw [upd_ne (by omega), upd_ne (by omega)]; exact hfl j hj) (fun j hj => by rw [upd_ne (by omega)]; rcases Nat.lt_or_ge j k with q | q; (rw [upd_ne (by omega)]; exact hw j q); (have e9 : j = k := by omega); rw [e9, upd_at]) (fun j h0 hj => by rcases Nat.lt_or_ge j k with q | q; (rw [upd_ne (by omega), upd_ne (by omega)]; exact hr j h0 q); (have e9 : j = k := by omega); rw [e9, upd_at]) (by omega)
            ·
              refine r_aload_n C dL_works_210 4 rfl ?_
              refine r_iconst (v := 1) C dL_works_211 rfl ?_
              refine r_ialdN (j := 1) (v := vS V 1) C dL_works_212 rfl (rfl) (by omega) (by decide) ((hE.row _).s 1 (by decide)) ?_
              refine r_goto (tgt := 221) C dL_works_213 (by decide) ?_
              refine r_valI (y := warmF V (vSup V) k) (by rw [← lawT_warm hW hk0 hlt]; unfold lawT; rw [if_neg c124, if_neg (i32_nle.mpr c195), if_pos (i32_nle.mp c207)]) ?_
              refine r_iastN (j := 8 + k) C dL_works_221 rfl (rfl) (by omega) (by decide) ?_
              refine r_mem (M' := mrow M 110 (upd f1 (8 + k) (warmF V (vSup V) k))) (mset_row _ _ _ _ _) ?_
              refine r_aload_n C dL_works_222 7 rfl ?_
              refine r_bipush (v := 16) C dL_works_223 rfl ?_
              refine r_iload C dL_works_225 3 rfl ?_
              refine r_iadd C dL_works_227 ?_
              refine r_valI (y := nI (16 + k)) (nI_add 16 k) ?_
              refine r_aload_n C dL_works_228 7 rfl ?_
              refine r_bipush (v := 8) C dL_works_229 rfl ?_
              refine r_iload C dL_works_231 3 rfl ?_
              refine r_iadd C dL_works_233 ?_
              refine r_valI (y := nI (8 + k)) (nI_add 8 k) ?_
              refine r_ialdN (j := 8 + k) (v := warmF V (vSup V) k) C dL_works_234 rfl (rfl) (by omega) (by decide) (by rw [mrow_at, upd_at]) ?_
              refine r_aload_n C dL_works_235 5 rfl ?_
              refine r_bipush (v := 8) C dL_works_236 rfl ?_
              refine r_iload C dL_works_238 3 rfl ?_
              refine r_imul C dL_works_240 ?_
              refine r_valI (y := nI (8 * k)) (pk_mul 8 k) ?_
              refine r_iconst (v := 4) C dL_works_241 rfl ?_
              refine r_iadd C dL_works_242 ?_
              refine r_valI (y := nI (8 * k + 4)) (nI_add (8 * k) 4) ?_
              refine r_ialdN (j := 8 * k + 4) (v := vD V 4 k) C dL_works_243 rfl (rfl) (by omega) (by decide) ((hE.row _).e k 4 hlt (by decide) (by omega)) ?_
              refine r_icmp_ge (tgt := 257) C dL_works_244 (by decide) (fun c244 => ?_) (fun c244 => ?_)
              ·
                refine r_aload_n C dL_works_257 5 rfl ?_
                refine r_bipush (v := 8) C dL_works_258 rfl ?_
                refine r_iload C dL_works_260 3 rfl ?_
                refine r_imul C dL_works_262 ?_
                refine r_valI (y := nI (8 * k)) (pk_mul 8 k) ?_
                refine r_iconst (v := 4) C dL_works_263 rfl ?_
                refine r_iadd C dL_works_264 ?_
                refine r_valI (y := nI (8 * k + 4)) (nI_add (8 * k) 4) ?_
                refine r_ialdN (j := 8 * k + 4) (v := vD V 4 k) C dL_works_265 rfl (rfl) (by omega) (by decide) ((hE.row _).e k 4 hlt (by decide) (by omega)) ?_
                refine r_valI (y := rF V (vSup V) k) (by unfold rF minI; rw [if_neg (i32_nlt.mpr c244)]) ?_
                refine r_iastN (j := 16 + k) C dL_works_266 rfl (rfl) (by omega) (by decide) ?_
                refine r_mem (M' := mrow M 110 (upd (upd f1 (8 + k) (warmF V (vSup V) k)) (16 + k) (rF V (vSup V) k))) (mset_row _ _ _ _ _) ?_
                refine r_iinc (v := nI (k + 1)) (L' := [(4, .int (nI (k + 1))), (7, .int (((((warmF V (vSup V) (vP V k)) - (vS V 1)) * (vD V 2 k)) * (vD V 1 k)) / (1000 * (flowF V k)))), (6, .int ((warmF V (vSup V) (vP V k)) - (vS V 1))), (5, .int (warmF V (vSup V) (vP V k))), (0, .ref (mA G 107)), (1, .ref (mA G 108)), (2, .ref (mA G 109)), (3, .ref (mA G 110))]) C dL_works_267 3 rfl (nI_inc _) (by decide) rfl ?_
                refine r_goto (tgt := 90) C dL_works_270 (by decide) ?_
                refine r_sub (L' := [(4, .int (nI (k + 1))), (0, .ref (mA G 107)), (1, .ref (mA G 108)), (2, .ref (mA G 109)), (3, .ref (mA G 110))]) [0, 4, 5, 6, 7] rfl ?_
                exact ih90 (k + 1) (upd (upd f1 (8 + k) (warmF V (vSup V) k)) (16 + k) (rF V (vSup V) k)) (by omega) (by omega) (fun j hj => by rw [upd_ne (by omega), upd_ne (by omega)]; exact hfl j hj) (fun j hj => by rw [upd_ne (by omega)]; rcases Nat.lt_or_ge j k with q | q; (rw [upd_ne (by omega)]; exact hw j q); (have e9 : j = k := by omega); rw [e9, upd_at]) (fun j h0 hj => by rcases Nat.lt_or_ge j k with q | q; (rw [upd_ne (by omega), upd_ne (by omega)]; exact hr j h0 q); (have e9 : j = k := by omega); rw [e9, upd_at]) (by omega)
              ·
                refine r_aload_n C dL_works_247 7 rfl ?_
                refine r_bipush (v := 8) C dL_works_248 rfl ?_
                refine r_iload C dL_works_250 3 rfl ?_
                refine r_iadd C dL_works_252 ?_
                refine r_valI (y := nI (8 + k)) (nI_add 8 k) ?_
                refine r_ialdN (j := 8 + k) (v := warmF V (vSup V) k) C dL_works_253 rfl (rfl) (by omega) (by decide) (by rw [mrow_at, upd_at]) ?_
                refine r_goto (tgt := 266) C dL_works_254 (by decide) ?_
                refine r_valI (y := rF V (vSup V) k) (by unfold rF minI; rw [if_pos (i32_nle.mp c244)]) ?_
                refine r_iastN (j := 16 + k) C dL_works_266 rfl (rfl) (by omega) (by decide) ?_
                refine r_mem (M' := mrow M 110 (upd (upd f1 (8 + k) (warmF V (vSup V) k)) (16 + k) (rF V (vSup V) k))) (mset_row _ _ _ _ _) ?_
                refine r_iinc (v := nI (k + 1)) (L' := [(4, .int (nI (k + 1))), (7, .int (((((warmF V (vSup V) (vP V k)) - (vS V 1)) * (vD V 2 k)) * (vD V 1 k)) / (1000 * (flowF V k)))), (6, .int ((warmF V (vSup V) (vP V k)) - (vS V 1))), (5, .int (warmF V (vSup V) (vP V k))), (0, .ref (mA G 107)), (1, .ref (mA G 108)), (2, .ref (mA G 109)), (3, .ref (mA G 110))]) C dL_works_267 3 rfl (nI_inc _) (by decide) rfl ?_
                refine r_goto (tgt := 90) C dL_works_270 (by decide) ?_
                refine r_sub (L' := [(4, .int (nI (k + 1))), (0, .ref (mA G 107)), (1, .ref (mA G 108)), (2, .ref (mA G 109)), (3, .ref (mA G 110))]) [0, 4, 5, 6, 7] rfl ?_
                exact ih90 (k + 1) (upd (upd f1 (8 + k) (warmF V (vSup V) k)) (16 + k) (rF V (vSup V) k)) (by omega) (by omega) (fun j hj => by rw [upd_ne (by omega), upd_ne (by omega)]; exact hfl j hj) (fun j hj => by rw [upd_ne (by omega)]; rcases Nat.lt_or_ge j k with q | q; (rw [upd_ne (by omega)]; exact hw j q); (have e9 : j = k := by omega); rw [e9, upd_at]) (fun j h0 hj => by rcases Nat.lt_or_ge j k with q | q; (rw [upd_ne (by omega), upd_ne (by omega)]; exact hr j h0 q); (have e9 : j = k := by omega); rw [e9, upd_at]) (by omega)
          ·
            refine r_iload C dL_works_198 2 rfl ?_
            refine r_goto (tgt := 221) C dL_works_200 (by decide) ?_
            refine r_valI (y := warmF V (vSup V) k) (by rw [← lawT_warm hW hk0 hlt]; unfold lawT; rw [if_neg c124, if_pos (i32_nlt.mp c195)]) ?_
            refine r_iastN (j := 8 + k) C dL_works_221 rfl (rfl) (by omega) (by decide) ?_
            refine r_mem (M' := mrow M 110 (upd f1 (8 + k) (warmF V (vSup V) k))) (mset_row _ _ _ _ _) ?_
            refine r_aload_n C dL_works_222 7 rfl ?_
            refine r_bipush (v := 16) C dL_works_223 rfl ?_
            refine r_iload C dL_works_225 3 rfl ?_
            refine r_iadd C dL_works_227 ?_
            refine r_valI (y := nI (16 + k)) (nI_add 16 k) ?_
            refine r_aload_n C dL_works_228 7 rfl ?_
            refine r_bipush (v := 8) C dL_works_229 rfl ?_
            refine r_iload C dL_works_231 3 rfl ?_
            refine r_iadd C dL_works_233 ?_
            refine r_valI (y := nI (8 + k)) (nI_add 8 k) ?_
            refine r_ialdN (j := 8 + k) (v := warmF V (vSup V) k) C dL_works_234 rfl (rfl) (by omega) (by decide) (by rw [mrow_at, upd_at]) ?_
            refine r_aload_n C dL_works_235 5 rfl ?_
            refine r_bipush (v := 8) C dL_works_236 rfl ?_
            refine r_iload C dL_works_238 3 rfl ?_
            refine r_imul C dL_works_240 ?_
            refine r_valI (y := nI (8 * k)) (pk_mul 8 k) ?_
            refine r_iconst (v := 4) C dL_works_241 rfl ?_
            refine r_iadd C dL_works_242 ?_
            refine r_valI (y := nI (8 * k + 4)) (nI_add (8 * k) 4) ?_
            refine r_ialdN (j := 8 * k + 4) (v := vD V 4 k) C dL_works_243 rfl (rfl) (by omega) (by decide) ((hE.row _).e k 4 hlt (by decide) (by omega)) ?_
            refine r_icmp_ge (tgt := 257) C dL_works_244 (by decide) (fun c244 => ?_) (fun c244 => ?_)
            ·
              refine r_aload_n C dL_works_257 5 rfl ?_
              refine r_bipush (v := 8) C dL_works_258 rfl ?_
              refine r_iload C dL_works_260 3 rfl ?_
              refine r_imul C dL_works_262 ?_
              refine r_valI (y := nI (8 * k)) (pk_mul 8 k) ?_
              refine r_iconst (v := 4) C dL_works_263 rfl ?_
              refine r_iadd C dL_works_264 ?_
              refine r_valI (y := nI (8 * k + 4)) (nI_add (8 * k) 4) ?_
              refine r_ialdN (j := 8 * k + 4) (v := vD V 4 k) C dL_works_265 rfl (rfl) (by omega) (by decide) ((hE.row _).e k 4 hlt (by decide) (by omega)) ?_
              refine r_valI (y := rF V (vSup V) k) (by unfold rF minI; rw [if_neg (i32_nlt.mpr c244)]) ?_
              refine r_iastN (j := 16 + k) C dL_works_266 rfl (rfl) (by omega) (by decide) ?_
              refine r_mem (M' := mrow M 110 (upd (upd f1 (8 + k) (warmF V (vSup V) k)) (16 + k) (rF V (vSup V) k))) (mset_row _ _ _ _ _) ?_
              refine r_iinc (v := nI (k + 1)) (L' := [(4, .int (nI (k + 1))), (7, .int (((((warmF V (vSup V) (vP V k)) - (vS V 1)) * (vD V 2 k)) * (vD V 1 k)) / (1000 * (flowF V k)))), (6, .int ((warmF V (vSup V) (vP V k)) - (vS V 1))), (5, .int (warmF V (vSup V) (vP V k))), (0, .ref (mA G 107)), (1, .ref (mA G 108)), (2, .ref (mA G 109)), (3, .ref (mA G 110))]) C dL_works_267 3 rfl (nI_inc _) (by decide) rfl ?_
              refine r_goto (tgt := 90) C dL_works_270 (by decide) ?_
              refine r_sub (L' := [(4, .int (nI (k + 1))), (0, .ref (mA G 107)), (1, .ref (mA G 108)), (2, .ref (mA G 109)), (3, .ref (mA G 110))]) [0, 4, 5, 6, 7] rfl ?_
              exact ih90 (k + 1) (upd (upd f1 (8 + k) (warmF V (vSup V) k)) (16 + k) (rF V (vSup V) k)) (by omega) (by omega) (fun j hj => by rw [upd_ne (by omega), upd_ne (by omega)]; exact hfl j hj) (fun j hj => by rw [upd_ne (by omega)]; rcases Nat.lt_or_ge j k with q | q; (rw [upd_ne (by omega)]; exact hw j q); (have e9 : j = k := by omega); rw [e9, upd_at]) (fun j h0 hj => by rcases Nat.lt_or_ge j k with q | q; (rw [upd_ne (by omega), upd_ne (by omega)]; exact hr j h0 q); (have e9 : j = k := by omega); rw [e9, upd_at]) (by omega)
            ·
              refine r_aload_n C dL_works_247 7 rfl ?_
              refine r_bipush (v := 8) C dL_works_248 rfl ?_
              refine r_iload C dL_works_250 3 rfl ?_
              refine r_iadd C dL_works_252 ?_
              refine r_valI (y := nI (8 + k)) (nI_add 8 k) ?_
              refine r_ialdN (j := 8 + k) (v := warmF V (vSup V) k) C dL_works_253 rfl (rfl) (by omega) (by decide) (by rw [mrow_at, upd_at]) ?_
              refine r_goto (tgt := 266) C dL_works_254 (by decide) ?_
              refine r_valI (y := rF V (vSup V) k) (by unfold rF minI; rw [if_pos (i32_nle.mp c244)]) ?_
              refine r_iastN (j := 16 + k) C dL_works_266 rfl (rfl) (by omega) (by decide) ?_
              refine r_mem (M' := mrow M 110 (upd (upd f1 (8 + k) (warmF V (vSup V) k)) (16 + k) (rF V (vSup V) k))) (mset_row _ _ _ _ _) ?_
              refine r_iinc (v := nI (k + 1)) (L' := [(4, .int (nI (k + 1))), (7, .int (((((warmF V (vSup V) (vP V k)) - (vS V 1)) * (vD V 2 k)) * (vD V 1 k)) / (1000 * (flowF V k)))), (6, .int ((warmF V (vSup V) (vP V k)) - (vS V 1))), (5, .int (warmF V (vSup V) (vP V k))), (0, .ref (mA G 107)), (1, .ref (mA G 108)), (2, .ref (mA G 109)), (3, .ref (mA G 110))]) C dL_works_267 3 rfl (nI_inc _) (by decide) rfl ?_
              refine r_goto (tgt := 90) C dL_works_270 (by decide) ?_
              refine r_sub (L' := [(4, .int (nI (k + 1))), (0, .ref (mA G 107)), (1, .ref (mA G 108)), (2, .ref (mA G 109)), (3, .ref (mA G 110))]) [0, 4, 5, 6, 7] rfl ?_
              exact ih90 (k + 1) (upd (upd f1 (8 + k) (warmF V (vSup V) k)) (16 + k) (rF V (vSup V) k)) (by omega) (by omega) (fun j hj => by rw [upd_ne (by omega), upd_ne (by omega)]; exact hfl j hj) (fun j hj => by rw [upd_ne (by omega)]; rcases Nat.lt_or_ge j k with q | q; (rw [upd_ne (by omega)]; exact hw j q); (have e9 : j = k := by omega); rw [e9, upd_at]) (fun j h0 hj => by rcases Nat.lt_or_ge j k with q | q; (rw [upd_ne (by omega), upd_ne (by omega)]; exact hr j h0 q); (have e9 : j = k := by omega); rw [e9, upd_at]) (by omega)
        ·
          refine r_iconst (v := 0) C dL_works_127 rfl ?_
          refine r_goto (tgt := 162) C dL_works_128 (by decide) ?_
          refine r_istore (L' := [(7, .int 0), (6, .int ((warmF V (vSup V) (vP V k)) - (vS V 1))), (5, .int (warmF V (vSup V) (vP V k))), (4, .int (nI k)), (0, .ref (mA G 107)), (1, .ref (mA G 108)), (2, .ref (mA G 109)), (3, .ref (mA G 110))]) C dL_works_162 (by decide) rfl ?_
          refine r_aload_n C dL_works_164 7 rfl ?_
          refine r_bipush (v := 8) C dL_works_165 rfl ?_
          refine r_iload C dL_works_167 3 rfl ?_
          refine r_iadd C dL_works_169 ?_
          refine r_valI (y := nI (8 + k)) (nI_add 8 k) ?_
          refine r_aload_n C dL_works_170 7 rfl ?_
          refine r_iload C dL_works_171 3 rfl ?_
          refine r_ialdN (j := k) (v := flowF V k) C dL_works_173 rfl (rfl) (by omega) (by decide) (by rw [mrow_at]; exact hfl k hlt) ?_
          refine r_if_ne (tgt := 193) C dL_works_174 (by decide) (fun h => absurd (c124) h) (fun _ => ?_)
          refine r_iload C dL_works_177 1 rfl ?_
          refine r_if_le (tgt := 188) C dL_works_179 (by decide) (fun c179 => ?_) (fun c179 => ?_)
          ·
            refine r_iload C dL_works_188 2 rfl ?_
            refine r_goto (tgt := 221) C dL_works_190 (by decide) ?_
            refine r_valI (y := warmF V (vSup V) k) (by rw [← lawT_warm hW hk0 hlt]; unfold lawT; rw [if_pos c124, if_neg (i32_nlt.mpr c179)]) ?_
            refine r_iastN (j := 8 + k) C dL_works_221 rfl (rfl) (by omega) (by decide) ?_
            refine r_mem (M' := mrow M 110 (upd f1 (8 + k) (warmF V (vSup V) k))) (mset_row _ _ _ _ _) ?_
            refine r_aload_n C dL_works_222 7 rfl ?_
            refine r_bipush (v := 16) C dL_works_223 rfl ?_
            refine r_iload C dL_works_225 3 rfl ?_
            refine r_iadd C dL_works_227 ?_
            refine r_valI (y := nI (16 + k)) (nI_add 16 k) ?_
            refine r_aload_n C dL_works_228 7 rfl ?_
            refine r_bipush (v := 8) C dL_works_229 rfl ?_
            refine r_iload C dL_works_231 3 rfl ?_
            refine r_iadd C dL_works_233 ?_
            refine r_valI (y := nI (8 + k)) (nI_add 8 k) ?_
            refine r_ialdN (j := 8 + k) (v := warmF V (vSup V) k) C dL_works_234 rfl (rfl) (by omega) (by decide) (by rw [mrow_at, upd_at]) ?_
            refine r_aload_n C dL_works_235 5 rfl ?_
            refine r_bipush (v := 8) C dL_works_236 rfl ?_
            refine r_iload C dL_works_238 3 rfl ?_
            refine r_imul C dL_works_240 ?_
            refine r_valI (y := nI (8 * k)) (pk_mul 8 k) ?_
            refine r_iconst (v := 4) C dL_works_241 rfl ?_
            refine r_iadd C dL_works_242 ?_
            refine r_valI (y := nI (8 * k + 4)) (nI_add (8 * k) 4) ?_
            refine r_ialdN (j := 8 * k + 4) (v := vD V 4 k) C dL_works_243 rfl (rfl) (by omega) (by decide) ((hE.row _).e k 4 hlt (by decide) (by omega)) ?_
            refine r_icmp_ge (tgt := 257) C dL_works_244 (by decide) (fun c244 => ?_) (fun c244 => ?_)
            ·
              refine r_aload_n C dL_works_257 5 rfl ?_
              refine r_bipush (v := 8) C dL_works_258 rfl ?_
              refine r_iload C dL_works_260 3 rfl ?_
              refine r_imul C dL_works_262 ?_
              refine r_valI (y := nI (8 * k)) (pk_mul 8 k) ?_
              refine r_iconst (v := 4) C dL_works_263 rfl ?_
              refine r_iadd C dL_works_264 ?_
              refine r_valI (y := nI (8 * k + 4)) (nI_add (8 * k) 4) ?_
              refine r_ialdN (j := 8 * k + 4) (v := vD V 4 k) C dL_works_265 rfl (rfl) (by omega) (by decide) ((hE.row _).e k 4 hlt (by decide) (by omega)) ?_
              refine r_valI (y := rF V (vSup V) k) (by unfold rF minI; rw [if_neg (i32_nlt.mpr c244)]) ?_
              refine r_iastN (j := 16 + k) C dL_works_266 rfl (rfl) (by omega) (by decide) ?_
              refine r_mem (M' := mrow M 110 (upd (upd f1 (8 + k) (warmF V (vSup V) k)) (16 + k) (rF V (vSup V) k))) (mset_row _ _ _ _ _) ?_
              refine r_iinc (v := nI (k + 1)) (L' := [(4, .int (nI (k + 1))), (7, .int 0), (6, .int ((warmF V (vSup V) (vP V k)) - (vS V 1))), (5, .int (warmF V (vSup V) (vP V k))), (0, .ref (mA G 107)), (1, .ref (mA G 108)), (2, .ref (mA G 109)), (3, .ref (mA G 110))]) C dL_works_267 3 rfl (nI_inc _) (by decide) rfl ?_
              refine r_goto (tgt := 90) C dL_works_270 (by decide) ?_
              refine r_sub (L' := [(4, .int (nI (k + 1))), (0, .ref (mA G 107)), (1, .ref (mA G 108)), (2, .ref (mA G 109)), (3, .ref (mA G 110))]) [0, 4, 5, 6, 7] rfl ?_
              exact ih90 (k + 1) (upd (upd f1 (8 + k) (warmF V (vSup V) k)) (16 + k) (rF V (vSup V) k)) (by omega) (by omega) (fun j hj => by rw [upd_ne (by omega), upd_ne (by omega)]; exact hfl j hj) (fun j hj => by rw [upd_ne (by omega)]; rcases Nat.lt_or_ge j k with q | q; (rw [upd_ne (by omega)]; exact hw j q); (have e9 : j = k := by omega); rw [e9, upd_at]) (fun j h0 hj => by rcases Nat.lt_or_ge j k with q | q; (rw [upd_ne (by omega), upd_ne (by omega)]; exact hr j h0 q); (have e9 : j = k := by omega); rw [e9, upd_at]) (by omega)
            ·
              refine r_aload_n C dL_works_247 7 rfl ?_
              refine r_bipush (v := 8) C dL_works_248 rfl ?_
              refine r_iload C dL_works_250 3 rfl ?_
              refine r_iadd C dL_works_252 ?_
              refine r_valI (y := nI (8 + k)) (nI_add 8 k) ?_
              refine r_ialdN (j := 8 + k) (v := warmF V (vSup V) k) C dL_works_253 rfl (rfl) (by omega) (by decide) (by rw [mrow_at, upd_at]) ?_
              refine r_goto (tgt := 266) C dL_works_254 (by decide) ?_
              refine r_valI (y := rF V (vSup V) k) (by unfold rF minI; rw [if_pos (i32_nle.mp c244)]) ?_
              refine r_iastN (j := 16 + k) C dL_works_266 rfl (rfl) (by omega) (by decide) ?_
              refine r_mem (M' := mrow M 110 (upd (upd f1 (8 + k) (warmF V (vSup V) k)) (16 + k) (rF V (vSup V) k))) (mset_row _ _ _ _ _) ?_
              refine r_iinc (v := nI (k + 1)) (L' := [(4, .int (nI (k + 1))), (7, .int 0), (6, .int ((warmF V (vSup V) (vP V k)) - (vS V 1))), (5, .int (warmF V (vSup V) (vP V k))), (0, .ref (mA G 107)), (1, .ref (mA G 108)), (2, .ref (mA G 109)), (3, .ref (mA G 110))]) C dL_works_267 3 rfl (nI_inc _) (by decide) rfl ?_
              refine r_goto (tgt := 90) C dL_works_270 (by decide) ?_
              refine r_sub (L' := [(4, .int (nI (k + 1))), (0, .ref (mA G 107)), (1, .ref (mA G 108)), (2, .ref (mA G 109)), (3, .ref (mA G 110))]) [0, 4, 5, 6, 7] rfl ?_
              exact ih90 (k + 1) (upd (upd f1 (8 + k) (warmF V (vSup V) k)) (16 + k) (rF V (vSup V) k)) (by omega) (by omega) (fun j hj => by rw [upd_ne (by omega), upd_ne (by omega)]; exact hfl j hj) (fun j hj => by rw [upd_ne (by omega)]; rcases Nat.lt_or_ge j k with q | q; (rw [upd_ne (by omega)]; exact hw j q); (have e9 : j = k := by omega); rw [e9, upd_at]) (fun j h0 hj => by rcases Nat.lt_or_ge j k with q | q; (rw [upd_ne (by omega), upd_ne (by omega)]; exact hr j h0 q); (have e9 : j = k := by omega); rw [e9, upd_at]) (by omega)
          ·
            refine r_aload_n C dL_works_182 4 rfl ?_
            refine r_iconst (v := 1) C dL_works_183 rfl ?_
            refine r_ialdN (j := 1) (v := vS V 1) C dL_works_184 rfl (rfl) (by omega) (by decide) ((hE.row _).s 1 (by decide)) ?_
            refine r_goto (tgt := 221) C dL_works_185 (by decide) ?_
            refine r_valI (y := warmF V (vSup V) k) (by rw [← lawT_warm hW hk0 hlt]; unfold lawT; rw [if_pos c124, if_pos (i32_nle.mp c179)]) ?_
            refine r_iastN (j := 8 + k) C dL_works_221 rfl (rfl) (by omega) (by decide) ?_
            refine r_mem (M' := mrow M 110 (upd f1 (8 + k) (warmF V (vSup V) k))) (mset_row _ _ _ _ _) ?_
            refine r_aload_n C dL_works_222 7 rfl ?_
            refine r_bipush (v := 16) C dL_works_223 rfl ?_
            refine r_iload C dL_works_225 3 rfl ?_
            refine r_iadd C dL_works_227 ?_
            refine r_valI (y := nI (16 + k)) (nI_add 16 k) ?_
            refine r_aload_n C dL_works_228 7 rfl ?_
            refine r_bipush (v := 8) C dL_works_229 rfl ?_
            refine r_iload C dL_works_231 3 rfl ?_
            refine r_iadd C dL_works_233 ?_
            refine r_valI (y := nI (8 + k)) (nI_add 8 k) ?_
            refine r_ialdN (j := 8 + k) (v := warmF V (vSup V) k) C dL_works_234 rfl (rfl) (by omega) (by decide) (by rw [mrow_at, upd_at]) ?_
            refine r_aload_n C dL_works_235 5 rfl ?_
            refine r_bipush (v := 8) C dL_works_236 rfl ?_
            refine r_iload C dL_works_238 3 rfl ?_
            refine r_imul C dL_works_240 ?_
            refine r_valI (y := nI (8 * k)) (pk_mul 8 k) ?_
            refine r_iconst (v := 4) C dL_works_241 rfl ?_
            refine r_iadd C dL_works_242 ?_
            refine r_valI (y := nI (8 * k + 4)) (nI_add (8 * k) 4) ?_
            refine r_ialdN (j := 8 * k + 4) (v := vD V 4 k) C dL_works_243 rfl (rfl) (by omega) (by decide) ((hE.row _).e k 4 hlt (by decide) (by omega)) ?_
            refine r_icmp_ge (tgt := 257) C dL_works_244 (by decide) (fun c244 => ?_) (fun c244 => ?_)
            ·
              refine r_aload_n C dL_works_257 5 rfl ?_
              refine r_bipush (v := 8) C dL_works_258 rfl ?_
              refine r_iload C dL_works_260 3 rfl ?_
              refine r_imul C dL_works_262 ?_
              refine r_valI (y := nI (8 * k)) (pk_mul 8 k) ?_
              refine r_iconst (v := 4) C dL_works_263 rfl ?_
              refine r_iadd C dL_works_264 ?_
              refine r_valI (y := nI (8 * k + 4)) (nI_add (8 * k) 4) ?_
              refine r_ialdN (j := 8 * k + 4) (v := vD V 4 k) C dL_works_265 rfl (rfl) (by omega) (by decide) ((hE.row _).e k 4 hlt (by decide) (by omega)) ?_
              refine r_valI (y := rF V (vSup V) k) (by unfold rF minI; rw [if_neg (i32_nlt.mpr c244)]) ?_
              refine r_iastN (j := 16 + k) C dL_works_266 rfl (rfl) (by omega) (by decide) ?_
              refine r_mem (M' := mrow M 110 (upd (upd f1 (8 + k) (warmF V (vSup V) k)) (16 + k) (rF V (vSup V) k))) (mset_row _ _ _ _ _) ?_
              refine r_iinc (v := nI (k + 1)) (L' := [(4, .int (nI (k + 1))), (7, .int 0), (6, .int ((warmF V (vSup V) (vP V k)) - (vS V 1))), (5, .int (warmF V (vSup V) (vP V k))), (0, .ref (mA G 107)), (1, .ref (mA G 108)), (2, .ref (mA G 109)), (3, .ref (mA G 110))]) C dL_works_267 3 rfl (nI_inc _) (by decide) rfl ?_
              refine r_goto (tgt := 90) C dL_works_270 (by decide) ?_
              refine r_sub (L' := [(4, .int (nI (k + 1))), (0, .ref (mA G 107)), (1, .ref (mA G 108)), (2, .ref (mA G 109)), (3, .ref (mA G 110))]) [0, 4, 5, 6, 7] rfl ?_
              exact ih90 (k + 1) (upd (upd f1 (8 + k) (warmF V (vSup V) k)) (16 + k) (rF V (vSup V) k)) (by omega) (by omega) (fun j hj => by rw [upd_ne (by omega), upd_ne (by omega)]; exact hfl j hj) (fun j hj => by rw [upd_ne (by omega)]; rcases Nat.lt_or_ge j k with q | q; (rw [upd_ne (by omega)]; exact hw j q); (have e9 : j = k := by omega); rw [e9, upd_at]) (fun j h0 hj => by rcases Nat.lt_or_ge j k with q | q; (rw [upd_ne (by omega), upd_ne (by omega)]; exact hr j h0 q); (have e9 : j = k := by omega); rw [e9, upd_at]) (by omega)
            ·
              refine r_aload_n C dL_works_247 7 rfl ?_
              refine r_bipush (v := 8) C dL_works_248 rfl ?_
              refine r_iload C dL_works_250 3 rfl ?_
              refine r_iadd C dL_works_252 ?_
              refine r_valI (y := nI (8 + k)) (nI_add 8 k) ?_
              refine r_ialdN (j := 8 + k) (v := warmF V (vSup V) k) C dL_works_253 rfl (rfl) (by omega) (by decide) (by rw [mrow_at, upd_at]) ?_
              refine r_goto (tgt := 266) C dL_works_254 (by decide) ?_
              refine r_valI (y := rF V (vSup V) k) (by unfold rF minI; rw [if_pos (i32_nle.mp c244)]) ?_
              refine r_iastN (j := 16 + k) C dL_works_266 rfl (rfl) (by omega) (by decide) ?_
              refine r_mem (M' := mrow M 110 (upd (upd f1 (8 + k) (warmF V (vSup V) k)) (16 + k) (rF V (vSup V) k))) (mset_row _ _ _ _ _) ?_
              refine r_iinc (v := nI (k + 1)) (L' := [(4, .int (nI (k + 1))), (7, .int 0), (6, .int ((warmF V (vSup V) (vP V k)) - (vS V 1))), (5, .int (warmF V (vSup V) (vP V k))), (0, .ref (mA G 107)), (1, .ref (mA G 108)), (2, .ref (mA G 109)), (3, .ref (mA G 110))]) C dL_works_267 3 rfl (nI_inc _) (by decide) rfl ?_
              refine r_goto (tgt := 90) C dL_works_270 (by decide) ?_
              refine r_sub (L' := [(4, .int (nI (k + 1))), (0, .ref (mA G 107)), (1, .ref (mA G 108)), (2, .ref (mA G 109)), (3, .ref (mA G 110))]) [0, 4, 5, 6, 7] rfl ?_
              exact ih90 (k + 1) (upd (upd f1 (8 + k) (warmF V (vSup V) k)) (16 + k) (rF V (vSup V) k)) (by omega) (by omega) (fun j hj => by rw [upd_ne (by omega), upd_ne (by omega)]; exact hfl j hj) (fun j hj => by rw [upd_ne (by omega)]; rcases Nat.lt_or_ge j k with q | q; (rw [upd_ne (by omega)]; exact hw j q); (have e9 : j = k := by omega); rw [e9, upd_at]) (fun j h0 hj => by rcases Nat.lt_or_ge j k with q | q; (rw [upd_ne (by omega), upd_ne (by omega)]; exact hr j h0 q); (have e9 : j = k := by omega); rw [e9, upd_at]) (by omega)
  refine r_sub (L' := [(4, .int (nI 1)), (0, .ref (mA G 107)), (1, .ref (mA G 108)), (2, .ref (mA G 109)), (3, .ref (mA G 110))]) [0, 1, 2, 3, 4] rfl ?_
  exact lp90 _ 1 (upd f 8 (vS V 0)) (by omega) hn1 (fun j hj => by rw [upd_ne (by omega)]; exact hf j hj) (fun j hj => by (have e9 : j = 0 := by omega); rw [e9]; exact upd_at f 8 (vS V 0)) (fun j h0 hj => by omega) (Nat.lt_succ_self _)

set_option maxRecDepth 20000 in
set_option maxHeartbeats 4000000 in
theorem ws_3 {p : Program} {l : Launch} {e : Env} {s : State} {m : MethodId} {args : Array Value} {below : List Frame} {meth : Method} {c : Code} {G : mG} {Q : State → Prop} {M : Mem} {g : Glo} (hG : mInj G) (C : mCx p s m args c cL_works 8 RL G) (V : View) (hW : wfV V) (hE : eOK M V) (f : Nat → Int32) (hf : tP V f) (next : ∀ f, tP V f → tBk V f → At p l e (rmD 3 0 0) s m args below meth c G 8 0 0 Q (mrow M 110 f) g [(0, .ref (mA G 107)), (1, .ref (mA G 108)), (2, .ref (mA G 109)), (3, .ref (mA G 110))] 357 []) : At p l e (rmD 3 0 0) s m args below meth c G 8 0 0 Q (mrow M 110 f) g [(0, .ref (mA G 107)), (1, .ref (mA G 108)), (2, .ref (mA G 109)), (3, .ref (mA G 110))] 273 [] := by
  have hT := hW.1
  obtain ⟨hn1, hn16, hb4, ⟨hd0, hd3, hd5, hd6⟩, hpar⟩ := id hT
  have h8 := hE.le
  refine r_iconst (v := nI 0) C dL_works_273 rfl ?_
  refine r_istore (L' := [(4, .int (nI 0)), (0, .ref (mA G 107)), (1, .ref (mA G 108)), (2, .ref (mA G 109)), (3, .ref (mA G 110))]) C dL_works_274 (by decide) rfl ?_
  have lp276 : ∀ (fu : Nat) (k : Nat) (f1 : Nat → Int32), (k ≤ vN V) → (tP V f1) → (∀ j, j < k → f1 (24 + j) = backF V (vSup V) j) → (vN V - k) < fu → At p l e (rmD 3 0 0) s m args below meth c G 8 0 0 Q (mrow M 110 f1) g [(4, .int (nI k)), (0, .ref (mA G 107)), (1, .ref (mA G 108)), (2, .ref (mA G 109)), (3, .ref (mA G 110))] 276 [] := by
    intro fu
    induction fu with
    | zero => intro k f1 hkn hp hk1 hfu; exact absurd hfu (Nat.not_lt_zero _)
    | succ fu ih276 =>
      intro k f1 hkn hp hk1 hfu276
      refine r_iload C dL_works_276 0 rfl ?_
      refine r_aload_n C dL_works_278 1 rfl ?_
      refine r_iconst (v := 5) C dL_works_279 rfl ?_
      refine r_ialdN (j := 5) (v := nI (vN V)) C dL_works_280 rfl (rfl) (by omega) (by decide) ((hE.row _).n) ?_
      refine r_icmp_ge (tgt := 357) C dL_works_281 (by decide) (fun c281 => ?_) (fun c281 => ?_)
      ·
        have hk2 : k = vN V := by have := le_of_le (by omega) (by omega) c281; omega
        refine r_sub (L' := [(0, .ref (mA G 107)), (1, .ref (mA G 108)), (2, .ref (mA G 109)), (3, .ref (mA G 110))]) [1, 2, 3, 4] rfl ?_
        exact next f1 hp (fun j hj => hk1 j (by omega))
      ·
        have hlt : k < vN V := lt_of_nle (by omega) c281
        refine r_aload_n C dL_works_284 4 rfl ?_
        refine r_bipush (v := 24) C dL_works_285 rfl ?_
        refine r_iload C dL_works_287 0 rfl ?_
        refine r_iadd C dL_works_289 ?_
        refine r_valI (y := nI (24 + k)) (nI_add 24 k) ?_
        refine r_iconst (v := 0) C dL_works_290 rfl ?_
        refine r_iastN (j := 24 + k) C dL_works_291 rfl (rfl) (by omega) (by decide) ?_
        refine r_mem (M' := mrow M 110 (upd f1 (24 + k) 0)) (mset_row _ _ _ _ _) ?_
        refine r_iconst (v := nI 1) C dL_works_292 rfl ?_
        refine r_istore (L' := [(5, .int (nI 1)), (4, .int (nI k)), (0, .ref (mA G 107)), (1, .ref (mA G 108)), (2, .ref (mA G 109)), (3, .ref (mA G 110))]) C dL_works_293 (by decide) rfl ?_
        have lp295 : ∀ (fu : Nat) (o : Nat) (f2 : Nat → Int32), (0 < o) → (o ≤ vN V) → (tP V f2) → (f2 (24 + k) = brS V (fun o => vD V 3 o * rF V (vSup V) o) k o) → (∀ j, j < k → f2 (24 + j) = backF V (vSup V) j) → (vN V - o) < fu → At p l e (rmD 3 0 0) s m args below meth c G 8 0 0 Q (mrow M 110 f2) g [(5, .int (nI o)), (4, .int (nI k)), (0, .ref (mA G 107)), (1, .ref (mA G 108)), (2, .ref (mA G 109)), (3, .ref (mA G 110))] 295 [] := by
          intro fu
          induction fu with
          | zero => intro o f2 ho0 hon hp2 hb2 hf2 hfu; exact absurd hfu (Nat.not_lt_zero _)
          | succ fu ih295 =>
            intro o f2 ho0 hon hp2 hb2 hf2 hfu295
            refine r_iload C dL_works_295 0 rfl ?_
            refine r_aload_n C dL_works_297 2 rfl ?_
            refine r_iconst (v := 5) C dL_works_298 rfl ?_
            refine r_ialdN (j := 5) (v := nI (vN V)) C dL_works_299 rfl (rfl) (by omega) (by decide) ((hE.row _).n) ?_
            refine r_icmp_ge (tgt := 351) C dL_works_300 (by decide) (fun c300 => ?_) (fun c300 => ?_)
            ·
              have ho2 : o = vN V := by have := le_of_le (by omega) (by omega) c300; omega
              refine r_iinc (v := nI (k + 1)) (L' := [(4, .int (nI (k + 1))), (5, .int (nI o)), (0, .ref (mA G 107)), (1, .ref (mA G 108)), (2, .ref (mA G 109)), (3, .ref (mA G 110))]) C dL_works_351 1 rfl (nI_inc _) (by decide) rfl ?_
              refine r_goto (tgt := 276) C dL_works_354 (by decide) ?_
              refine r_sub (L' := [(4, .int (nI (k + 1))), (0, .ref (mA G 107)), (1, .ref (mA G 108)), (2, .ref (mA G 109)), (3, .ref (mA G 110))]) [0, 2, 3, 4, 5] rfl ?_
              exact ih276 (k + 1) f2 (by omega) hp2 (fun j hj => by rcases Nat.lt_or_ge j k with q | q; exact hf2 j q; (have e9 : j = k := by omega); rw [e9, hb2, ho2]; exact back_br hT hlt (vSup V)) (by omega)
            ·
              have holt : o < vN V := lt_of_nle (by omega) c300
              refine r_aload_n C dL_works_303 5 rfl ?_
              refine r_bipush (v := 24) C dL_works_304 rfl ?_
              refine r_iload C dL_works_306 1 rfl ?_
              refine r_iadd C dL_works_308 ?_
              refine r_valI (y := nI (24 + k)) (nI_add 24 k) ?_
              refine r_dup2 C dL_works_309 rfl rfl ?_
              refine r_ialdN (j := 24 + k) (v := f2 (24 + k)) C dL_works_310 rfl (rfl) (by omega) (by decide) (by rw [mrow_at]) ?_
              refine r_aload_n C dL_works_311 3 rfl ?_
              refine r_iload C dL_works_312 0 rfl ?_
              refine r_iload C dL_works_314 1 rfl ?_
              refine r_callSI (As := [.ref (mA G 108), .int (nI o), .int (nI k)]) (rest := [.int (f2 (24 + k)), .int (nI (24 + k)), .ref (mA G 110)]) C dL_works_316 s_L_9 (c_L_below l G hG (mrow M 110 f2) g V hW (hE.row _) o k holt hlt) (by decide) rfl rfl (Nat.le_of_ble_eq_true rfl) (Nat.le_of_ble_eq_true rfl) (Nat.le_of_ble_eq_true rfl) (pk_I ?_)
              refine r_if_eq (tgt := 342) C dL_works_319 (by decide) (fun c319 => ?_) (fun c319 => ?_)
              ·
                refine r_iconst (v := 0) C dL_works_342 rfl ?_
                refine r_iadd C dL_works_343 ?_
                refine r_iastN (j := 24 + k) C dL_works_344 rfl (rfl) (by omega) (by decide) ?_
                refine r_mem (M' := mrow M 110 (upd f2 (24 + k) ((f2 (24 + k)) + 0))) (mset_row _ _ _ _ _) ?_
                refine r_iinc (v := nI (o + 1)) (L' := [(5, .int (nI (o + 1))), (4, .int (nI k)), (0, .ref (mA G 107)), (1, .ref (mA G 108)), (2, .ref (mA G 109)), (3, .ref (mA G 110))]) C dL_works_345 0 rfl (nI_inc _) (by decide) rfl ?_
                refine r_goto (tgt := 295) C dL_works_348 (by decide) ?_
                refine r_sub (L' := [(5, .int (nI (o + 1))), (4, .int (nI k)), (0, .ref (mA G 107)), (1, .ref (mA G 108)), (2, .ref (mA G 109)), (3, .ref (mA G 110))]) [0, 1, 2, 3, 4, 5] rfl ?_
                exact ih295 (o + 1) (upd f2 (24 + k) ((f2 (24 + k)) + 0)) (by omega) (by omega) (hp2.upd h8 (by omega)) (by rw [upd_at, brS_s _ _ _ ho0, hb2, if_neg (by rw [b2i_0.mp c319]; decide)]) (fun j hj => by rw [upd_ne (by omega)]; exact hf2 j hj) (by omega)
              ·
                refine r_aload_n C dL_works_322 3 rfl ?_
                refine r_bipush (v := 8) C dL_works_323 rfl ?_
                refine r_iload C dL_works_325 0 rfl ?_
                refine r_imul C dL_works_327 ?_
                refine r_valI (y := nI (8 * o)) (pk_mul 8 o) ?_
                refine r_iconst (v := 3) C dL_works_328 rfl ?_
                refine r_iadd C dL_works_329 ?_
                refine r_valI (y := nI (8 * o + 3)) (nI_add (8 * o) 3) ?_
                refine r_ialdN (j := 8 * o + 3) (v := vD V 3 o) C dL_works_330 rfl (rfl) (by omega) (by decide) ((hE.row _).e o 3 holt (by decide) (by omega)) ?_
                refine r_aload_n C dL_works_331 5 rfl ?_
                refine r_bipush (v := 16) C dL_works_332 rfl ?_
                refine r_iload C dL_works_334 0 rfl ?_
                refine r_iadd C dL_works_336 ?_
                refine r_valI (y := nI (16 + o)) (nI_add 16 o) ?_
                refine r_ialdN (j := 16 + o) (v := rF V (vSup V) o) C dL_works_337 rfl (rfl) (by omega) (by decide) (by rw [mrow_at]; exact (hp2 o holt).2.2 ho0) ?_
                refine r_imul C dL_works_338 ?_
                refine r_goto (tgt := 343) C dL_works_339 (by decide) ?_
                refine r_iadd C dL_works_343 ?_
                refine r_iastN (j := 24 + k) C dL_works_344 rfl (rfl) (by omega) (by decide) ?_
                refine r_mem (M' := mrow M 110 (upd f2 (24 + k) ((f2 (24 + k)) + (vD V 3 o * rF V (vSup V) o)))) (mset_row _ _ _ _ _) ?_
                refine r_iinc (v := nI (o + 1)) (L' := [(5, .int (nI (o + 1))), (4, .int (nI k)), (0, .ref (mA G 107)), (1, .ref (mA G 108)), (2, .ref (mA G 109)), (3, .ref (mA G 110))]) C dL_works_345 0 rfl (nI_inc _) (by decide) rfl ?_
                refine r_goto (tgt := 295) C dL_works_348 (by decide) ?_
                refine r_sub (L' := [(5, .int (nI (o + 1))), (4, .int (nI k)), (0, .ref (mA G 107)), (1, .ref (mA G 108)), (2, .ref (mA G 109)), (3, .ref (mA G 110))]) [0, 1, 2, 3, 4, 5] rfl ?_
                exact ih295 (o + 1) (upd f2 (24 + k) ((f2 (24 + k)) + (vD V 3 o * rF V (vSup V) o))) (by omega) (by omega) (hp2.upd h8 (by omega)) (by rw [upd_at, brS_s _ _ _ ho0, hb2, if_pos (b2i_1.mp c319)]) (fun j hj => by rw [upd_ne (by omega)]; exact hf2 j hj) (by omega)
        refine r_sub (L' := [(5, .int (nI 1)), (4, .int (nI k)), (0, .ref (mA G 107)), (1, .ref (mA G 108)), (2, .ref (mA G 109)), (3, .ref (mA G 110))]) [0, 1, 2, 3, 4, 5] rfl ?_
        exact lp295 _ 1 (upd f1 (24 + k) 0) (by omega) hn1 (hp.upd h8 (by omega)) (by rw [upd_at, brS_1]) (fun j hj => by rw [upd_ne (by omega)]; exact hk1 j hj) (Nat.lt_succ_self _)
  refine r_sub (L' := [(4, .int (nI 0)), (0, .ref (mA G 107)), (1, .ref (mA G 108)), (2, .ref (mA G 109)), (3, .ref (mA G 110))]) [0, 1, 2, 3, 4] rfl ?_
  exact lp276 _ 0 f (by omega) hf (fun j hj => absurd hj (Nat.not_lt_zero j)) (Nat.lt_succ_self _)

set_option maxRecDepth 20000 in
set_option maxHeartbeats 4000000 in
theorem ws_4 {p : Program} {l : Launch} {e : Env} {s : State} {m : MethodId} {args : Array Value} {below : List Frame} {meth : Method} {c : Code} {G : mG} {Q : State → Prop} {M : Mem} {g : Glo} (hG : mInj G) (C : mCx p s m args c cL_works 8 RL G) (V : View) (hW : wfV V) (hE : eOK M V) (f : Nat → Int32) (hf : tP V f) (hbk : tBk V f) (next : ∀ f, tOK f V → At p l e (rmD 3 0 0) s m args below meth c G 8 0 0 Q (mrow M 110 f) g [(0, .ref (mA G 107)), (1, .ref (mA G 108)), (2, .ref (mA G 109)), (3, .ref (mA G 110))] 564 []) : At p l e (rmD 3 0 0) s m args below meth c G 8 0 0 Q (mrow M 110 f) g [(0, .ref (mA G 107)), (1, .ref (mA G 108)), (2, .ref (mA G 109)), (3, .ref (mA G 110))] 357 [] := by
  have hT := hW.1
  obtain ⟨hn1, hn16, hb4, ⟨hd0, hd3, hd5, hd6⟩, hpar⟩ := id hT
  have h8 := hE.le
  refine r_aload_n C dL_works_357 3 rfl ?_
  refine r_iconst (v := 0) C dL_works_358 rfl ?_
  refine r_ialdN (j := 0) (v := flowF V 0) C dL_works_359 rfl (rfl) (by omega) (by decide) (by rw [mrow_at]; exact (hf 0 (by omega)).1) ?_
  refine r_aload_n C dL_works_360 0 rfl ?_
  refine r_iconst (v := 0) C dL_works_361 rfl ?_
  refine r_ialdN (j := 0) (v := vS V 0) C dL_works_362 rfl (rfl) (by omega) (by decide) ((hE.row _).s 0 (by decide)) ?_
  refine r_imul C dL_works_363 ?_
  refine r_aload_n C dL_works_364 3 rfl ?_
  refine r_bipush (v := 24) C dL_works_365 rfl ?_
  refine r_ialdN (j := 24) (v := backF V (vSup V) 0) C dL_works_367 rfl (rfl) (by omega) (by decide) (by rw [mrow_at]; exact hbk 0 (by omega)) ?_
  refine r_isub C dL_works_368 ?_
  refine r_istore (L' := [(4, .int (((flowF V 0) * (vS V 0)) - (backF V (vSup V) 0))), (0, .ref (mA G 107)), (1, .ref (mA G 108)), (2, .ref (mA G 109)), (3, .ref (mA G 110))]) C dL_works_369 (by decide) rfl ?_
  refine r_aload_n C dL_works_371 4 rfl ?_
  refine r_bipush (v := 38) C dL_works_372 rfl ?_
  refine r_iload C dL_works_374 0 rfl ?_
  refine r_if_ge (tgt := 383) C dL_works_376 (by decide) (fun c376 => ?_) (fun c376 => ?_)
  ·
    refine r_iload C dL_works_383 0 rfl ?_
    refine r_valI (y := ndF V) (Eq.trans (if_neg (i32_nlt.mpr c376)).symm (need_eq V (vSup V))) ?_
    refine r_iastN (j := 38) C dL_works_385 rfl (rfl) (by omega) (by decide) ?_
    refine r_mem (M' := mrow M 110 (upd f 38 (ndF V))) (mset_row _ _ _ _ _) ?_
    refine r_aload_n C dL_works_386 4 rfl ?_
    refine r_bipush (v := 36) C dL_works_387 rfl ?_
    refine r_aload_n C dL_works_389 4 rfl ?_
    refine r_bipush (v := 38) C dL_works_390 rfl ?_
    refine r_ialdN (j := 38) (v := ndF V) C dL_works_392 rfl (rfl) (by omega) (by decide) (by rw [mrow_at, upd_at]) ?_
    refine r_iastN (j := 36) C dL_works_393 rfl (rfl) (by omega) (by decide) ?_
    refine r_mem (M' := mrow M 110 (upd (upd f 38 (ndF V)) 36 (ndF V))) (mset_row _ _ _ _ _) ?_
    refine r_aload_n C dL_works_394 4 rfl ?_
    refine r_bipush (v := 37) C dL_works_395 rfl ?_
    refine r_iconst (v := 0) C dL_works_397 rfl ?_
    refine r_iastN (j := 37) C dL_works_398 rfl (rfl) (by omega) (by decide) ?_
    refine r_mem (M' := mrow M 110 (upd (upd (upd f 38 (ndF V)) 36 (ndF V)) 37 0)) (mset_row _ _ _ _ _) ?_
    refine r_iconst (v := nI 0) C dL_works_399 rfl ?_
    refine r_istore (L' := [(5, .int (nI 0)), (4, .int (((flowF V 0) * (vS V 0)) - (backF V (vSup V) 0))), (0, .ref (mA G 107)), (1, .ref (mA G 108)), (2, .ref (mA G 109)), (3, .ref (mA G 110))]) C dL_works_400 (by decide) rfl ?_
    have lp402 : ∀ (fu : Nat) (i : Nat) (f3 : Nat → Int32), (i ≤ 4) → (tP V f3) → (tBk V f3) → (f3 38 = ndF V) → (f3 36 = ndF V) → (f3 37 = 0) → (4 - i) < fu → At p l e (rmD 3 0 0) s m args below meth c G 8 0 0 Q (mrow M 110 f3) g [(5, .int (nI i)), (0, .ref (mA G 107)), (1, .ref (mA G 108)), (2, .ref (mA G 109)), (3, .ref (mA G 110))] 402 [] := by
      intro fu
      induction fu with
      | zero => intro i f3 hi4 hp3 hb3 h38 h36 h37 hfu; exact absurd hfu (Nat.not_lt_zero _)
      | succ fu ih402 =>
        intro i f3 hi4 hp3 hb3 h38 h36 h37 hfu402
        refine r_iload C dL_works_402 0 rfl ?_
        refine r_iconst (v := 4) C dL_works_404 rfl ?_
        refine r_icmp_ge (tgt := 422) C dL_works_405 (by decide) (fun c405 => ?_) (fun c405 => ?_)
        ·
          have hi2 : i = 4 := by have := le_of_le (a := 4) (by decide) (by omega) c405; omega
          refine r_iconst (v := nI 0) C dL_works_422 rfl ?_
          refine r_istore (L' := [(5, .int (nI 0)), (0, .ref (mA G 107)), (1, .ref (mA G 108)), (2, .ref (mA G 109)), (3, .ref (mA G 110))]) C dL_works_423 (by decide) rfl ?_
          have lp425 : ∀ (fu : Nat) (y : Nat) (f4 : Nat → Int32), (y ≤ 100) → (tB V f4 y 0) → (100 - y) < fu → At p l e (rmD 3 0 0) s m args below meth c G 8 0 0 Q (mrow M 110 f4) g [(5, .int (nI y)), (0, .ref (mA G 107)), (1, .ref (mA G 108)), (2, .ref (mA G 109)), (3, .ref (mA G 110))] 425 [] := by
            intro fu
            induction fu with
            | zero => intro y f4 hc100 hq hfu; exact absurd hfu (Nat.not_lt_zero _)
            | succ fu ih425 =>
              intro y f4 hc100 hq hfu425
              refine r_iload C dL_works_425 0 rfl ?_
              refine r_bipush (v := 100) C dL_works_427 rfl ?_
              refine r_icmp_ge (tgt := 564) C dL_works_429 (by decide) (fun c429 => ?_) (fun c429 => ?_)
              ·
                have hc2 : y = 100 := by have := le_of_le (a := 100) (by decide) (by omega) c429; omega
                refine r_sub (L' := [(0, .ref (mA G 107)), (1, .ref (mA G 108)), (2, .ref (mA G 109)), (3, .ref (mA G 110))]) [1, 2, 3, 4] rfl ?_
                exact next f4 (tB_end hW (by rw [hc2] at hq; exact hq))
              ·
                have hclt : y < 100 := lt_of_nle (b := 100) (by omega) c429
                refine r_iconst (v := nI 0) C dL_works_432 rfl ?_
                refine r_istore (L' := [(6, .int (nI 0)), (5, .int (nI y)), (0, .ref (mA G 107)), (1, .ref (mA G 108)), (2, .ref (mA G 109)), (3, .ref (mA G 110))]) C dL_works_433 (by decide) rfl ?_
                have lp435 : ∀ (fu : Nat) (k : Nat) (f5 : Nat → Int32), (k ≤ vB V) → (tB V f5 y k) → (vB V - k) < fu → At p l e (rmD 3 0 0) s m args below meth c G 8 0 0 Q (mrow M 110 f5) g [(6, .int (nI k)), (5, .int (nI y)), (0, .ref (mA G 107)), (1, .ref (mA G 108)), (2, .ref (mA G 109)), (3, .ref (mA G 110))] 435 [] := by
                  intro fu
                  induction fu with
                  | zero => intro k f5 hkn hq5 hfu; exact absurd hfu (Nat.not_lt_zero _)
                  | succ fu ih435 =>
                    intro k f5 hkn hq5 hfu435
                    refine r_iload C dL_works_435 0 rfl ?_
                    refine r_aload_n C dL_works_437 2 rfl ?_
                    refine r_bipush (v := 6) C dL_works_438 rfl ?_
                    refine r_ialdN (j := 6) (v := nI (vB V)) C dL_works_440 rfl (rfl) (by omega) (by decide) ((hE.row _).b) ?_
                    refine r_icmp_ge (tgt := 558) C dL_works_441 (by decide) (fun c441 => ?_) (fun c441 => ?_)
                    ·
                      have hk2 : k = vB V := by have := le_of_le (by omega) (by omega) c441; omega
                      refine r_iinc (v := nI (y + 1)) (L' := [(5, .int (nI (y + 1))), (6, .int (nI k)), (0, .ref (mA G 107)), (1, .ref (mA G 108)), (2, .ref (mA G 109)), (3, .ref (mA G 110))]) C dL_works_558 1 rfl (nI_inc _) (by decide) rfl ?_
                      refine r_goto (tgt := 425) C dL_works_561 (by decide) ?_
                      refine r_sub (L' := [(5, .int (nI (y + 1))), (0, .ref (mA G 107)), (1, .ref (mA G 108)), (2, .ref (mA G 109)), (3, .ref (mA G 110))]) [0, 2, 3, 4, 5] rfl ?_
                      exact ih425 (y + 1) f5 (by omega) (tB_next (by rw [hk2] at hq5; exact hq5)) (by omega)
                    ·
                      have hlt : k < vB V := lt_of_nle (by omega) c441
                      refine r_aload_n C dL_works_444 4 rfl ?_
                      refine r_iconst (v := 3) C dL_works_445 rfl ?_
                      refine r_iload C dL_works_446 0 rfl ?_
                      refine r_imul C dL_works_448 ?_
                      refine r_valI (y := nI (3 * k)) (pk_mul 3 k) ?_
                      refine r_iconst (v := 2) C dL_works_449 rfl ?_
                      refine r_iadd C dL_works_450 ?_
                      refine r_valI (y := nI (3 * k + 2)) (nI_add (3 * k) 2) ?_
                      refine r_ialdN (j := 3 * k + 2) (v := vO V 2 k) C dL_works_451 rfl (rfl) (by omega) (by decide) ((hE.row _).o k 2 hlt (by decide)) ?_
                      refine r_iload C dL_works_452 1 rfl ?_
                      refine r_icmp_ne (tgt := 552) C dL_works_454 (by decide) (fun c454 => ?_) (fun c454 => ?_)
                      ·
                        refine r_mem (M' := mrow M 110 f5) (rfl) ?_
                        refine r_iinc (v := nI (k + 1)) (L' := [(6, .int (nI (k + 1))), (5, .int (nI y)), (0, .ref (mA G 107)), (1, .ref (mA G 108)), (2, .ref (mA G 109)), (3, .ref (mA G 110))]) C dL_works_552 0 rfl (nI_inc _) (by decide) rfl ?_
                        refine r_goto (tgt := 435) C dL_works_555 (by decide) ?_
                        refine r_sub (L' := [(6, .int (nI (k + 1))), (5, .int (nI y)), (0, .ref (mA G 107)), (1, .ref (mA G 108)), (2, .ref (mA G 109)), (3, .ref (mA G 110))]) [0, 1, 2, 3, 4, 5] rfl ?_
                        exact ih435 (k + 1) f5 (by omega) (tB_skip hq5 (fun z => c454 ((cst_eq (by omega)).mpr z))) (by omega)
                      ·
                        refine r_aload_n C dL_works_457 5 rfl ?_
                        refine r_bipush (v := 36) C dL_works_458 rfl ?_
                        refine r_ialdN (j := 36) (v := lfF V (ndF V) (cntC V y k)) C dL_works_460 rfl (rfl) (by omega) (by decide) (by rw [mrow_at]; exact hq5.2.2.2.1) ?_
                        refine r_aload_n C dL_works_461 4 rfl ?_
                        refine r_iconst (v := 3) C dL_works_462 rfl ?_
                        refine r_iload C dL_works_463 0 rfl ?_
                        refine r_imul C dL_works_465 ?_
                        refine r_valI (y := nI (3 * k)) (pk_mul 3 k) ?_
                        refine r_ialdN (j := 3 * k) (v := vO V 0 k) C dL_works_466 rfl (rfl) (by omega) (by decide) ((hE.row _).o0 k hlt) ?_
                        refine r_icmp_le (tgt := 479) C dL_works_467 (by decide) (fun c467 => ?_) (fun c467 => ?_)
                        ·
                          refine r_aload_n C dL_works_479 5 rfl ?_
                          refine r_bipush (v := 36) C dL_works_480 rfl ?_
                          refine r_ialdN (j := 36) (v := lfF V (ndF V) (cntC V y k)) C dL_works_482 rfl (rfl) (by omega) (by decide) (by rw [mrow_at]; exact hq5.2.2.2.1) ?_
                          refine r_valI (y := minI (vO V 0 k) (lfF V (ndF V) (cntC V y k))) ((minI_le c467).symm) ?_
                          refine r_istore (L' := [(7, .int (minI (vO V 0 k) (lfF V (ndF V) (cntC V y k)))), (6, .int (nI k)), (5, .int (nI y)), (0, .ref (mA G 107)), (1, .ref (mA G 108)), (2, .ref (mA G 109)), (3, .ref (mA G 110))]) C dL_works_483 (by decide) rfl ?_
                          refine r_aload_n C dL_works_485 6 rfl ?_
                          refine r_bipush (v := 36) C dL_works_486 rfl ?_
                          refine r_dup2 C dL_works_488 rfl rfl ?_
                          refine r_ialdN (j := 36) (v := lfF V (ndF V) (cntC V y k)) C dL_works_489 rfl (rfl) (by omega) (by decide) (by rw [mrow_at]; exact hq5.2.2.2.1) ?_
                          refine r_iload C dL_works_490 0 rfl ?_
                          refine r_isub C dL_works_492 ?_
                          refine r_iastN (j := 36) C dL_works_493 rfl (rfl) (by omega) (by decide) ?_
                          refine r_mem (M' := mrow M 110 (upd f5 36 ((lfF V (ndF V) (cntC V y k)) - (minI (vO V 0 k) (lfF V (ndF V) (cntC V y k)))))) (mset_row _ _ _ _ _) ?_
                          refine r_iload C dL_works_494 0 rfl ?_
                          refine r_if_le (tgt := 527) C dL_works_496 (by decide) (fun c496 => ?_) (fun c496 => ?_)
                          ·
                            refine r_mem (M' := mrow M 110 (upd f5 36 ((lfF V (ndF V) (cntC V y k)) - (minI (vO V 0 k) (lfF V (ndF V) (cntC V y k)))))) (rfl) ?_
                            refine r_aload_n C dL_works_527 6 rfl ?_
                            refine r_bipush (v := 32) C dL_works_528 rfl ?_
                            refine r_iload C dL_works_530 1 rfl ?_
                            refine r_iadd C dL_works_532 ?_
                            refine r_valI (y := nI (32 + k)) (nI_add 32 k) ?_
                            refine r_iload C dL_works_533 0 rfl ?_
                            refine r_iastN (j := 32 + k) C dL_works_535 rfl (rfl) (by omega) (by decide) ?_
                            refine r_mem (M' := mrow M 110 (upd (upd f5 36 ((lfF V (ndF V) (cntC V y k)) - (minI (vO V 0 k) (lfF V (ndF V) (cntC V y k))))) (32 + k) (minI (vO V 0 k) (lfF V (ndF V) (cntC V y k))))) (mset_row _ _ _ _ _) ?_
                            refine r_aload_n C dL_works_536 6 rfl ?_
                            refine r_bipush (v := 37) C dL_works_537 rfl ?_
                            refine r_dup2 C dL_works_539 rfl rfl ?_
                            refine r_ialdN (j := 37) (v := csF V (ndF V) (cntC V y k)) C dL_works_540 rfl (rfl) (by omega) (by decide) (by rw [mrow_at, upd_ne (by omega), upd_ne (by omega)]; exact hq5.2.2.2.2.1) ?_
                            refine r_iload C dL_works_541 0 rfl ?_
                            refine r_iload C dL_works_543 2 rfl ?_
                            refine r_imul C dL_works_545 ?_
                            refine r_valI (y := (minI (vO V 0 k) (lfF V (ndF V) (cntC V y k))) * (vO V 2 k)) (by rw [c454]) ?_
                            refine r_sipush (v := 1000) C dL_works_546 rfl ?_
                            refine r_idiv C dL_works_549 (by decide) ?_
                            refine r_iadd C dL_works_550 ?_
                            refine r_iastN (j := 37) C dL_works_551 rfl (rfl) (by omega) (by decide) ?_
                            refine r_mem (M' := mrow M 110 (upd (upd (upd f5 36 ((lfF V (ndF V) (cntC V y k)) - (minI (vO V 0 k) (lfF V (ndF V) (cntC V y k))))) (32 + k) (minI (vO V 0 k) (lfF V (ndF V) (cntC V y k)))) 37 ((csF V (ndF V) (cntC V y k)) + (minI (vO V 0 k) (lfF V (ndF V) (cntC V y k))) * (vO V 2 k) / 1000))) (mset_row _ _ _ _ _) ?_
                            refine r_iinc (v := nI (k + 1)) (L' := [(6, .int (nI (k + 1))), (7, .int (minI (vO V 0 k) (lfF V (ndF V) (cntC V y k)))), (5, .int (nI y)), (0, .ref (mA G 107)), (1, .ref (mA G 108)), (2, .ref (mA G 109)), (3, .ref (mA G 110))]) C dL_works_552 1 rfl (nI_inc _) (by decide) rfl ?_
                            refine r_goto (tgt := 435) C dL_works_555 (by decide) ?_
                            refine r_sub (L' := [(6, .int (nI (k + 1))), (5, .int (nI y)), (0, .ref (mA G 107)), (1, .ref (mA G 108)), (2, .ref (mA G 109)), (3, .ref (mA G 110))]) [0, 2, 3, 4, 5, 6] rfl ?_
                            exact ih435 (k + 1) (upd (upd (upd f5 36 ((lfF V (ndF V) (cntC V y k)) - (minI (vO V 0 k) (lfF V (ndF V) (cntC V y k))))) (32 + k) (minI (vO V 0 k) (lfF V (ndF V) (cntC V y k)))) 37 ((csF V (ndF V) (cntC V y k)) + (minI (vO V 0 k) (lfF V (ndF V) (cntC V y k))) * (vO V 2 k) / 1000)) (by omega) (tB_take h8 hb4 hq5 hlt ((cst_eq (by omega)).mp c454) (by unfold nxL; rw [if_neg (fun z => i32_nlt.mpr c496 z.1)]) (by unfold ldV; rw [if_neg (fun z => i32_nlt.mpr c496 z.1)])) (by omega)
                          ·
                            refine r_iload C dL_works_499 0 rfl ?_
                            refine r_aload_n C dL_works_501 5 rfl ?_
                            refine r_iconst (v := 3) C dL_works_502 rfl ?_
                            refine r_iload C dL_works_503 1 rfl ?_
                            refine r_imul C dL_works_505 ?_
                            refine r_valI (y := nI (3 * k)) (pk_mul 3 k) ?_
                            refine r_iconst (v := 1) C dL_works_506 rfl ?_
                            refine r_iadd C dL_works_507 ?_
                            refine r_valI (y := nI (3 * k + 1)) (nI_add (3 * k) 1) ?_
                            refine r_ialdN (j := 3 * k + 1) (v := vO V 1 k) C dL_works_508 rfl (rfl) (by omega) (by decide) ((hE.row _).o k 1 hlt (by decide)) ?_
                            refine r_icmp_ge (tgt := 527) C dL_works_509 (by decide) (fun c509 => ?_) (fun c509 => ?_)
                            ·
                              refine r_mem (M' := mrow M 110 (upd f5 36 ((lfF V (ndF V) (cntC V y k)) - (minI (vO V 0 k) (lfF V (ndF V) (cntC V y k)))))) (rfl) ?_
                              refine r_aload_n C dL_works_527 6 rfl ?_
                              refine r_bipush (v := 32) C dL_works_528 rfl ?_
                              refine r_iload C dL_works_530 1 rfl ?_
                              refine r_iadd C dL_works_532 ?_
                              refine r_valI (y := nI (32 + k)) (nI_add 32 k) ?_
                              refine r_iload C dL_works_533 0 rfl ?_
                              refine r_iastN (j := 32 + k) C dL_works_535 rfl (rfl) (by omega) (by decide) ?_
                              refine r_mem (M' := mrow M 110 (upd (upd f5 36 ((lfF V (ndF V) (cntC V y k)) - (minI (vO V 0 k) (lfF V (ndF V) (cntC V y k))))) (32 + k) (minI (vO V 0 k) (lfF V (ndF V) (cntC V y k))))) (mset_row _ _ _ _ _) ?_
                              refine r_aload_n C dL_works_536 6 rfl ?_
                              refine r_bipush (v := 37) C dL_works_537 rfl ?_
                              refine r_dup2 C dL_works_539 rfl rfl ?_
                              refine r_ialdN (j := 37) (v := csF V (ndF V) (cntC V y k)) C dL_works_540 rfl (rfl) (by omega) (by decide) (by rw [mrow_at, upd_ne (by omega), upd_ne (by omega)]; exact hq5.2.2.2.2.1) ?_
                              refine r_iload C dL_works_541 0 rfl ?_
                              refine r_iload C dL_works_543 2 rfl ?_
                              refine r_imul C dL_works_545 ?_
                              refine r_valI (y := (minI (vO V 0 k) (lfF V (ndF V) (cntC V y k))) * (vO V 2 k)) (by rw [c454]) ?_
                              refine r_sipush (v := 1000) C dL_works_546 rfl ?_
                              refine r_idiv C dL_works_549 (by decide) ?_
                              refine r_iadd C dL_works_550 ?_
                              refine r_iastN (j := 37) C dL_works_551 rfl (rfl) (by omega) (by decide) ?_
                              refine r_mem (M' := mrow M 110 (upd (upd (upd f5 36 ((lfF V (ndF V) (cntC V y k)) - (minI (vO V 0 k) (lfF V (ndF V) (cntC V y k))))) (32 + k) (minI (vO V 0 k) (lfF V (ndF V) (cntC V y k)))) 37 ((csF V (ndF V) (cntC V y k)) + (minI (vO V 0 k) (lfF V (ndF V) (cntC V y k))) * (vO V 2 k) / 1000))) (mset_row _ _ _ _ _) ?_
                              refine r_iinc (v := nI (k + 1)) (L' := [(6, .int (nI (k + 1))), (7, .int (minI (vO V 0 k) (lfF V (ndF V) (cntC V y k)))), (5, .int (nI y)), (0, .ref (mA G 107)), (1, .ref (mA G 108)), (2, .ref (mA G 109)), (3, .ref (mA G 110))]) C dL_works_552 1 rfl (nI_inc _) (by decide) rfl ?_
                              refine r_goto (tgt := 435) C dL_works_555 (by decide) ?_
                              refine r_sub (L' := [(6, .int (nI (k + 1))), (5, .int (nI y)), (0, .ref (mA G 107)), (1, .ref (mA G 108)), (2, .ref (mA G 109)), (3, .ref (mA G 110))]) [0, 2, 3, 4, 5, 6] rfl ?_
                              exact ih435 (k + 1) (upd (upd (upd f5 36 ((lfF V (ndF V) (cntC V y k)) - (minI (vO V 0 k) (lfF V (ndF V) (cntC V y k))))) (32 + k) (minI (vO V 0 k) (lfF V (ndF V) (cntC V y k)))) 37 ((csF V (ndF V) (cntC V y k)) + (minI (vO V 0 k) (lfF V (ndF V) (cntC V y k))) * (vO V 2 k) / 1000)) (by omega) (tB_take h8 hb4 hq5 hlt ((cst_eq (by omega)).mp c454) (by unfold nxL; rw [if_neg (fun z => i32_nlt.mpr c509 z.2)]) (by unfold ldV; rw [if_neg (fun z => i32_nlt.mpr c509 z.2)])) (by omega)
                            ·
                              refine r_aload_n C dL_works_512 5 rfl ?_
                              refine r_iconst (v := 3) C dL_works_513 rfl ?_
                              refine r_iload C dL_works_514 1 rfl ?_
                              refine r_imul C dL_works_516 ?_
                              refine r_valI (y := nI (3 * k)) (pk_mul 3 k) ?_
                              refine r_iconst (v := 1) C dL_works_517 rfl ?_
                              refine r_iadd C dL_works_518 ?_
                              refine r_valI (y := nI (3 * k + 1)) (nI_add (3 * k) 1) ?_
                              refine r_ialdN (j := 3 * k + 1) (v := vO V 1 k) C dL_works_519 rfl (rfl) (by omega) (by decide) ((hE.row _).o k 1 hlt (by decide)) ?_
                              refine r_istore (L' := [(7, .int (vO V 1 k)), (6, .int (nI k)), (5, .int (nI y)), (0, .ref (mA G 107)), (1, .ref (mA G 108)), (2, .ref (mA G 109)), (3, .ref (mA G 110))]) C dL_works_520 (by decide) rfl ?_
                              refine r_aload_n C dL_works_522 6 rfl ?_
                              refine r_bipush (v := 36) C dL_works_523 rfl ?_
                              refine r_iconst (v := 0) C dL_works_525 rfl ?_
                              refine r_iastN (j := 36) C dL_works_526 rfl (rfl) (by omega) (by decide) ?_
                              refine r_mem (M' := mrow M 110 (upd f5 36 0)) (by rw [mset_row, upd_upd]) ?_
                              refine r_aload_n C dL_works_527 6 rfl ?_
                              refine r_bipush (v := 32) C dL_works_528 rfl ?_
                              refine r_iload C dL_works_530 1 rfl ?_
                              refine r_iadd C dL_works_532 ?_
                              refine r_valI (y := nI (32 + k)) (nI_add 32 k) ?_
                              refine r_iload C dL_works_533 0 rfl ?_
                              refine r_iastN (j := 32 + k) C dL_works_535 rfl (rfl) (by omega) (by decide) ?_
                              refine r_mem (M' := mrow M 110 (upd (upd f5 36 0) (32 + k) (vO V 1 k))) (mset_row _ _ _ _ _) ?_
                              refine r_aload_n C dL_works_536 6 rfl ?_
                              refine r_bipush (v := 37) C dL_works_537 rfl ?_
                              refine r_dup2 C dL_works_539 rfl rfl ?_
                              refine r_ialdN (j := 37) (v := csF V (ndF V) (cntC V y k)) C dL_works_540 rfl (rfl) (by omega) (by decide) (by rw [mrow_at, upd_ne (by omega), upd_ne (by omega)]; exact hq5.2.2.2.2.1) ?_
                              refine r_iload C dL_works_541 0 rfl ?_
                              refine r_iload C dL_works_543 2 rfl ?_
                              refine r_imul C dL_works_545 ?_
                              refine r_valI (y := (vO V 1 k) * (vO V 2 k)) (by rw [c454]) ?_
                              refine r_sipush (v := 1000) C dL_works_546 rfl ?_
                              refine r_idiv C dL_works_549 (by decide) ?_
                              refine r_iadd C dL_works_550 ?_
                              refine r_iastN (j := 37) C dL_works_551 rfl (rfl) (by omega) (by decide) ?_
                              refine r_mem (M' := mrow M 110 (upd (upd (upd f5 36 0) (32 + k) (vO V 1 k)) 37 ((csF V (ndF V) (cntC V y k)) + (vO V 1 k) * (vO V 2 k) / 1000))) (mset_row _ _ _ _ _) ?_
                              refine r_iinc (v := nI (k + 1)) (L' := [(6, .int (nI (k + 1))), (7, .int (vO V 1 k)), (5, .int (nI y)), (0, .ref (mA G 107)), (1, .ref (mA G 108)), (2, .ref (mA G 109)), (3, .ref (mA G 110))]) C dL_works_552 1 rfl (nI_inc _) (by decide) rfl ?_
                              refine r_goto (tgt := 435) C dL_works_555 (by decide) ?_
                              refine r_sub (L' := [(6, .int (nI (k + 1))), (5, .int (nI y)), (0, .ref (mA G 107)), (1, .ref (mA G 108)), (2, .ref (mA G 109)), (3, .ref (mA G 110))]) [0, 2, 3, 4, 5, 6] rfl ?_
                              exact ih435 (k + 1) (upd (upd (upd f5 36 0) (32 + k) (vO V 1 k)) 37 ((csF V (ndF V) (cntC V y k)) + (vO V 1 k) * (vO V 2 k) / 1000)) (by omega) (tB_take h8 hb4 hq5 hlt ((cst_eq (by omega)).mp c454) (by unfold nxL; rw [if_pos ⟨i32_nle.mp c496, i32_nle.mp c509⟩]) (by unfold ldV; rw [if_pos ⟨i32_nle.mp c496, i32_nle.mp c509⟩])) (by omega)
                        ·
                          refine r_aload_n C dL_works_470 4 rfl ?_
                          refine r_iconst (v := 3) C dL_works_471 rfl ?_
                          refine r_iload C dL_works_472 0 rfl ?_
                          refine r_imul C dL_works_474 ?_
                          refine r_valI (y := nI (3 * k)) (pk_mul 3 k) ?_
                          refine r_ialdN (j := 3 * k) (v := vO V 0 k) C dL_works_475 rfl (rfl) (by omega) (by decide) ((hE.row _).o0 k hlt) ?_
                          refine r_goto (tgt := 483) C dL_works_476 (by decide) ?_
                          refine r_valI (y := minI (vO V 0 k) (lfF V (ndF V) (cntC V y k))) ((minI_gt c467).symm) ?_
                          refine r_istore (L' := [(7, .int (minI (vO V 0 k) (lfF V (ndF V) (cntC V y k)))), (6, .int (nI k)), (5, .int (nI y)), (0, .ref (mA G 107)), (1, .ref (mA G 108)), (2, .ref (mA G 109)), (3, .ref (mA G 110))]) C dL_works_483 (by decide) rfl ?_
                          refine r_aload_n C dL_works_485 6 rfl ?_
                          refine r_bipush (v := 36) C dL_works_486 rfl ?_
                          refine r_dup2 C dL_works_488 rfl rfl ?_
                          refine r_ialdN (j := 36) (v := lfF V (ndF V) (cntC V y k)) C dL_works_489 rfl (rfl) (by omega) (by decide) (by rw [mrow_at]; exact hq5.2.2.2.1) ?_
                          refine r_iload C dL_works_490 0 rfl ?_
                          refine r_isub C dL_works_492 ?_
                          refine r_iastN (j := 36) C dL_works_493 rfl (rfl) (by omega) (by decide) ?_
                          refine r_mem (M' := mrow M 110 (upd f5 36 ((lfF V (ndF V) (cntC V y k)) - (minI (vO V 0 k) (lfF V (ndF V) (cntC V y k)))))) (mset_row _ _ _ _ _) ?_
                          refine r_iload C dL_works_494 0 rfl ?_
                          refine r_if_le (tgt := 527) C dL_works_496 (by decide) (fun c496 => ?_) (fun c496 => ?_)
                          ·
                            refine r_mem (M' := mrow M 110 (upd f5 36 ((lfF V (ndF V) (cntC V y k)) - (minI (vO V 0 k) (lfF V (ndF V) (cntC V y k)))))) (rfl) ?_
                            refine r_aload_n C dL_works_527 6 rfl ?_
                            refine r_bipush (v := 32) C dL_works_528 rfl ?_
                            refine r_iload C dL_works_530 1 rfl ?_
                            refine r_iadd C dL_works_532 ?_
                            refine r_valI (y := nI (32 + k)) (nI_add 32 k) ?_
                            refine r_iload C dL_works_533 0 rfl ?_
                            refine r_iastN (j := 32 + k) C dL_works_535 rfl (rfl) (by omega) (by decide) ?_
                            refine r_mem (M' := mrow M 110 (upd (upd f5 36 ((lfF V (ndF V) (cntC V y k)) - (minI (vO V 0 k) (lfF V (ndF V) (cntC V y k))))) (32 + k) (minI (vO V 0 k) (lfF V (ndF V) (cntC V y k))))) (mset_row _ _ _ _ _) ?_
                            refine r_aload_n C dL_works_536 6 rfl ?_
                            refine r_bipush (v := 37) C dL_works_537 rfl ?_
                            refine r_dup2 C dL_works_539 rfl rfl ?_
                            refine r_ialdN (j := 37) (v := csF V (ndF V) (cntC V y k)) C dL_works_540 rfl (rfl) (by omega) (by decide) (by rw [mrow_at, upd_ne (by omega), upd_ne (by omega)]; exact hq5.2.2.2.2.1) ?_
                            refine r_iload C dL_works_541 0 rfl ?_
                            refine r_iload C dL_works_543 2 rfl ?_
                            refine r_imul C dL_works_545 ?_
                            refine r_valI (y := (minI (vO V 0 k) (lfF V (ndF V) (cntC V y k))) * (vO V 2 k)) (by rw [c454]) ?_
                            refine r_sipush (v := 1000) C dL_works_546 rfl ?_
                            refine r_idiv C dL_works_549 (by decide) ?_
                            refine r_iadd C dL_works_550 ?_
                            refine r_iastN (j := 37) C dL_works_551 rfl (rfl) (by omega) (by decide) ?_
                            refine r_mem (M' := mrow M 110 (upd (upd (upd f5 36 ((lfF V (ndF V) (cntC V y k)) - (minI (vO V 0 k) (lfF V (ndF V) (cntC V y k))))) (32 + k) (minI (vO V 0 k) (lfF V (ndF V) (cntC V y k)))) 37 ((csF V (ndF V) (cntC V y k)) + (minI (vO V 0 k) (lfF V (ndF V) (cntC V y k))) * (vO V 2 k) / 1000))) (mset_row _ _ _ _ _) ?_
                            refine r_iinc (v := nI (k + 1)) (L' := [(6, .int (nI (k + 1))), (7, .int (minI (vO V 0 k) (lfF V (ndF V) (cntC V y k)))), (5, .int (nI y)), (0, .ref (mA G 107)), (1, .ref (mA G 108)), (2, .ref (mA G 109)), (3, .ref (mA G 110))]) C dL_works_552 1 rfl (nI_inc _) (by decide) rfl ?_
                            refine r_goto (tgt := 435) C dL_works_555 (by decide) ?_
                            refine r_sub (L' := [(6, .int (nI (k + 1))), (5, .int (nI y)), (0, .ref (mA G 107)), (1, .ref (mA G 108)), (2, .ref (mA G 109)), (3, .ref (mA G 110))]) [0, 2, 3, 4, 5, 6] rfl ?_
                            exact ih435 (k + 1) (upd (upd (upd f5 36 ((lfF V (ndF V) (cntC V y k)) - (minI (vO V 0 k) (lfF V (ndF V) (cntC V y k))))) (32 + k) (minI (vO V 0 k) (lfF V (ndF V) (cntC V y k)))) 37 ((csF V (ndF V) (cntC V y k)) + (minI (vO V 0 k) (lfF V (ndF V) (cntC V y k))) * (vO V 2 k) / 1000)) (by omega) (tB_take h8 hb4 hq5 hlt ((cst_eq (by omega)).mp c454) (by unfold nxL; rw [if_neg (fun z => i32_nlt.mpr c496 z.1)]) (by unfold ldV; rw [if_neg (fun z => i32_nlt.mpr c496 z.1)])) (by omega)
                          ·
                            refine r_iload C dL_works_499 0 rfl ?_
                            refine r_aload_n C dL_works_501 5 rfl ?_
                            refine r_iconst (v := 3) C dL_works_502 rfl ?_
                            refine r_iload C dL_works_503 1 rfl ?_
                            refine r_imul C dL_works_505 ?_
                            refine r_valI (y := nI (3 * k)) (pk_mul 3 k) ?_
                            refine r_iconst (v := 1) C dL_works_506 rfl ?_
                            refine r_iadd C dL_works_507 ?_
                            refine r_valI (y := nI (3 * k + 1)) (nI_add (3 * k) 1) ?_
                            refine r_ialdN (j := 3 * k + 1) (v := vO V 1 k) C dL_works_508 rfl (rfl) (by omega) (by decide) ((hE.row _).o k 1 hlt (by decide)) ?_
                            refine r_icmp_ge (tgt := 527) C dL_works_509 (by decide) (fun c509 => ?_) (fun c509 => ?_)
                            ·
                              refine r_mem (M' := mrow M 110 (upd f5 36 ((lfF V (ndF V) (cntC V y k)) - (minI (vO V 0 k) (lfF V (ndF V) (cntC V y k)))))) (rfl) ?_
                              refine r_aload_n C dL_works_527 6 rfl ?_
                              refine r_bipush (v := 32) C dL_works_528 rfl ?_
                              refine r_iload C dL_works_530 1 rfl ?_
                              refine r_iadd C dL_works_532 ?_
                              refine r_valI (y := nI (32 + k)) (nI_add 32 k) ?_
                              refine r_iload C dL_works_533 0 rfl ?_
                              refine r_iastN (j := 32 + k) C dL_works_535 rfl (rfl) (by omega) (by decide) ?_
                              refine r_mem (M' := mrow M 110 (upd (upd f5 36 ((lfF V (ndF V) (cntC V y k)) - (minI (vO V 0 k) (lfF V (ndF V) (cntC V y k))))) (32 + k) (minI (vO V 0 k) (lfF V (ndF V) (cntC V y k))))) (mset_row _ _ _ _ _) ?_
                              refine r_aload_n C dL_works_536 6 rfl ?_
                              refine r_bipush (v := 37) C dL_works_537 rfl ?_
                              refine r_dup2 C dL_works_539 rfl rfl ?_
                              refine r_ialdN (j := 37) (v := csF V (ndF V) (cntC V y k)) C dL_works_540 rfl (rfl) (by omega) (by decide) (by rw [mrow_at, upd_ne (by omega), upd_ne (by omega)]; exact hq5.2.2.2.2.1) ?_
                              refine r_iload C dL_works_541 0 rfl ?_
                              refine r_iload C dL_works_543 2 rfl ?_
                              refine r_imul C dL_works_545 ?_
                              refine r_valI (y := (minI (vO V 0 k) (lfF V (ndF V) (cntC V y k))) * (vO V 2 k)) (by rw [c454]) ?_
                              refine r_sipush (v := 1000) C dL_works_546 rfl ?_
                              refine r_idiv C dL_works_549 (by decide) ?_
                              refine r_iadd C dL_works_550 ?_
                              refine r_iastN (j := 37) C dL_works_551 rfl (rfl) (by omega) (by decide) ?_
                              refine r_mem (M' := mrow M 110 (upd (upd (upd f5 36 ((lfF V (ndF V) (cntC V y k)) - (minI (vO V 0 k) (lfF V (ndF V) (cntC V y k))))) (32 + k) (minI (vO V 0 k) (lfF V (ndF V) (cntC V y k)))) 37 ((csF V (ndF V) (cntC V y k)) + (minI (vO V 0 k) (lfF V (ndF V) (cntC V y k))) * (vO V 2 k) / 1000))) (mset_row _ _ _ _ _) ?_
                              refine r_iinc (v := nI (k + 1)) (L' := [(6, .int (nI (k + 1))), (7, .int (minI (vO V 0 k) (lfF V (ndF V) (cntC V y k)))), (5, .int (nI y)), (0, .ref (mA G 107)), (1, .ref (mA G 108)), (2, .ref (mA G 109)), (3, .ref (mA G 110))]) C dL_works_552 1 rfl (nI_inc _) (by decide) rfl ?_
                              refine r_goto (tgt := 435) C dL_works_555 (by decide) ?_
                              refine r_sub (L' := [(6, .int (nI (k + 1))), (5, .int (nI y)), (0, .ref (mA G 107)), (1, .ref (mA G 108)), (2, .ref (mA G 109)), (3, .ref (mA G 110))]) [0, 2, 3, 4, 5, 6] rfl ?_
                              exact ih435 (k + 1) (upd (upd (upd f5 36 ((lfF V (ndF V) (cntC V y k)) - (minI (vO V 0 k) (lfF V (ndF V) (cntC V y k))))) (32 + k) (minI (vO V 0 k) (lfF V (ndF V) (cntC V y k)))) 37 ((csF V (ndF V) (cntC V y k)) + (minI (vO V 0 k) (lfF V (ndF V) (cntC V y k))) * (vO V 2 k) / 1000)) (by omega) (tB_take h8 hb4 hq5 hlt ((cst_eq (by omega)).mp c454) (by unfold nxL; rw [if_neg (fun z => i32_nlt.mpr c509 z.2)]) (by unfold ldV; rw [if_neg (fun z => i32_nlt.mpr c509 z.2)])) (by omega)
                            ·
                              refine r_aload_n C dL_works_512 5 rfl ?_
                              refine r_iconst (v := 3) C dL_works_513 rfl ?_
                              refine r_iload C dL_works_514 1 rfl ?_
                              refine r_imul C dL_works_516 ?_
                              refine r_valI (y := nI (3 * k)) (pk_mul 3 k) ?_
                              refine r_iconst (v := 1) C dL_works_517 rfl ?_
                              refine r_iadd C dL_works_518 ?_
                              refine r_valI (y := nI (3 * k + 1)) (nI_add (3 * k) 1) ?_
                              refine r_ialdN (j := 3 * k + 1) (v := vO V 1 k) C dL_works_519 rfl (rfl) (by omega) (by decide) ((hE.row _).o k 1 hlt (by decide)) ?_
                              refine r_istore (L' := [(7, .int (vO V 1 k)), (6, .int (nI k)), (5, .int (nI y)), (0, .ref (mA G 107)), (1, .ref (mA G 108)), (2, .ref (mA G 109)), (3, .ref (mA G 110))]) C dL_works_520 (by decide) rfl ?_
                              refine r_aload_n C dL_works_522 6 rfl ?_
                              refine r_bipush (v := 36) C dL_works_523 rfl ?_
                              refine r_iconst (v := 0) C dL_works_525 rfl ?_
                              refine r_iastN (j := 36) C dL_works_526 rfl (rfl) (by omega) (by decide) ?_
                              refine r_mem (M' := mrow M 110 (upd f5 36 0)) (by rw [mset_row, upd_upd]) ?_
                              refine r_aload_n C dL_works_527 6 rfl ?_
                              refine r_bipush (v := 32) C dL_works_528 rfl ?_
                              refine r_iload C dL_works_530 1 rfl ?_
                              refine r_iadd C dL_works_532 ?_
                              refine r_valI (y := nI (32 + k)) (nI_add 32 k) ?_
                              refine r_iload C dL_works_533 0 rfl ?_
                              refine r_iastN (j := 32 + k) C dL_works_535 rfl (rfl) (by omega) (by decide) ?_
                              refine r_mem (M' := mrow M 110 (upd (upd f5 36 0) (32 + k) (vO V 1 k))) (mset_row _ _ _ _ _) ?_
                              refine r_aload_n C dL_works_536 6 rfl ?_
                              refine r_bipush (v := 37) C dL_works_537 rfl ?_
                              refine r_dup2 C dL_works_539 rfl rfl ?_
                              refine r_ialdN (j := 37) (v := csF V (ndF V) (cntC V y k)) C dL_works_540 rfl (rfl) (by omega) (by decide) (by rw [mrow_at, upd_ne (by omega), upd_ne (by omega)]; exact hq5.2.2.2.2.1) ?_
                              refine r_iload C dL_works_541 0 rfl ?_
                              refine r_iload C dL_works_543 2 rfl ?_
                              refine r_imul C dL_works_545 ?_
                              refine r_valI (y := (vO V 1 k) * (vO V 2 k)) (by rw [c454]) ?_
                              refine r_sipush (v := 1000) C dL_works_546 rfl ?_
                              refine r_idiv C dL_works_549 (by decide) ?_
                              refine r_iadd C dL_works_550 ?_
                              refine r_iastN (j := 37) C dL_works_551 rfl (rfl) (by omega) (by decide) ?_
                              refine r_mem (M' := mrow M 110 (upd (upd (upd f5 36 0) (32 + k) (vO V 1 k)) 37 ((csF V (ndF V) (cntC V y k)) + (vO V 1 k) * (vO V 2 k) / 1000))) (mset_row _ _ _ _ _) ?_
                              refine r_iinc (v := nI (k + 1)) (L' := [(6, .int (nI (k + 1))), (7, .int (vO V 1 k)), (5, .int (nI y)), (0, .ref (mA G 107)), (1, .ref (mA G 108)), (2, .ref (mA G 109)), (3, .ref (mA G 110))]) C dL_works_552 1 rfl (nI_inc _) (by decide) rfl ?_
                              refine r_goto (tgt := 435) C dL_works_555 (by decide) ?_
                              refine r_sub (L' := [(6, .int (nI (k + 1))), (5, .int (nI y)), (0, .ref (mA G 107)), (1, .ref (mA G 108)), (2, .ref (mA G 109)), (3, .ref (mA G 110))]) [0, 2, 3, 4, 5, 6] rfl ?_
                              exact ih435 (k + 1) (upd (upd (upd f5 36 0) (32 + k) (vO V 1 k)) 37 ((csF V (ndF V) (cntC V y k)) + (vO V 1 k) * (vO V 2 k) / 1000)) (by omega) (tB_take h8 hb4 hq5 hlt ((cst_eq (by omega)).mp c454) (by unfold nxL; rw [if_pos ⟨i32_nle.mp c496, i32_nle.mp c509⟩]) (by unfold ldV; rw [if_pos ⟨i32_nle.mp c496, i32_nle.mp c509⟩])) (by omega)
                refine r_sub (L' := [(6, .int (nI 0)), (5, .int (nI y)), (0, .ref (mA G 107)), (1, .ref (mA G 108)), (2, .ref (mA G 109)), (3, .ref (mA G 110))]) [0, 1, 2, 3, 4, 5] rfl ?_
                exact lp435 _ 0 f4 (by omega) hq (Nat.lt_succ_self _)
          refine r_sub (L' := [(5, .int (nI 0)), (0, .ref (mA G 107)), (1, .ref (mA G 108)), (2, .ref (mA G 109)), (3, .ref (mA G 110))]) [0, 1, 2, 3, 4] rfl ?_
          exact lp425 _ 0 f3 (by omega) (tB_0 hW hp3 hb3 h38 h36 h37) (Nat.lt_succ_self _)
        ·
          have hilt : i < 4 := lt_of_nle (b := 4) (by omega) c405
          refine r_aload_n C dL_works_408 4 rfl ?_
          refine r_bipush (v := 32) C dL_works_409 rfl ?_
          refine r_iload C dL_works_411 0 rfl ?_
          refine r_iadd C dL_works_413 ?_
          refine r_valI (y := nI (32 + i)) (nI_add 32 i) ?_
          refine r_iconst (v := 0) C dL_works_414 rfl ?_
          refine r_iastN (j := 32 + i) C dL_works_415 rfl (rfl) (by omega) (by decide) ?_
          refine r_mem (M' := mrow M 110 (upd f3 (32 + i) 0)) (mset_row _ _ _ _ _) ?_
          refine r_iinc (v := nI (i + 1)) (L' := [(5, .int (nI (i + 1))), (0, .ref (mA G 107)), (1, .ref (mA G 108)), (2, .ref (mA G 109)), (3, .ref (mA G 110))]) C dL_works_416 0 rfl (nI_inc _) (by decide) rfl ?_
          refine r_goto (tgt := 402) C dL_works_419 (by decide) ?_
          refine r_sub (L' := [(5, .int (nI (i + 1))), (0, .ref (mA G 107)), (1, .ref (mA G 108)), (2, .ref (mA G 109)), (3, .ref (mA G 110))]) [0, 1, 2, 3, 4] rfl ?_
          exact ih402 (i + 1) (upd f3 (32 + i) 0) (by omega) (hp3.upd h8 (by omega)) (hb3.upd h8 (by omega)) (by rw [upd_ne (by omega)]; exact h38) (by rw [upd_ne (by omega)]; exact h36) (by rw [upd_ne (by omega)]; exact h37) (by omega)
    refine r_sub (L' := [(5, .int (nI 0)), (0, .ref (mA G 107)), (1, .ref (mA G 108)), (2, .ref (mA G 109)), (3, .ref (mA G 110))]) [0, 2, 3, 4, 5] rfl ?_
    exact lp402 _ 0 (upd (upd (upd f 38 (ndF V)) 36 (ndF V)) 37 0) (by omega) (((hf.upd h8 (by omega)).upd h8 (by omega)).upd h8 (by omega)) (((hbk.upd h8 (by omega)).upd h8 (by omega)).upd h8 (by omega)) (by rw [upd_ne (by omega), upd_ne (by omega), upd_at]) (by rw [upd_ne (by omega), upd_at]) (by rw [upd_at]) (Nat.lt_succ_self _)
  ·
    refine r_iconst (v := 0) C dL_works_379 rfl ?_
    refine r_goto (tgt := 385) C dL_works_380 (by decide) ?_
    refine r_valI (y := ndF V) (Eq.trans (if_pos (i32_nle.mp c376)).symm (need_eq V (vSup V))) ?_
    refine r_iastN (j := 38) C dL_works_385 rfl (rfl) (by omega) (by decide) ?_
    refine r_mem (M' := mrow M 110 (upd f 38 (ndF V))) (mset_row _ _ _ _ _) ?_
    refine r_aload_n C dL_works_386 4 rfl ?_
    refine r_bipush (v := 36) C dL_works_387 rfl ?_
    refine r_aload_n C dL_works_389 4 rfl ?_
    refine r_bipush (v := 38) C dL_works_390 rfl ?_
    refine r_ialdN (j := 38) (v := ndF V) C dL_works_392 rfl (rfl) (by omega) (by decide) (by rw [mrow_at, upd_at]) ?_
    refine r_iastN (j := 36) C dL_works_393 rfl (rfl) (by omega) (by decide) ?_
    refine r_mem (M' := mrow M 110 (upd (upd f 38 (ndF V)) 36 (ndF V))) (mset_row _ _ _ _ _) ?_
    refine r_aload_n C dL_works_394 4 rfl ?_
    refine r_bipush (v := 37) C dL_works_395 rfl ?_
    refine r_iconst (v := 0) C dL_works_397 rfl ?_
    refine r_iastN (j := 37) C dL_works_398 rfl (rfl) (by omega) (by decide) ?_
    refine r_mem (M' := mrow M 110 (upd (upd (upd f 38 (ndF V)) 36 (ndF V)) 37 0)) (mset_row _ _ _ _ _) ?_
    refine r_iconst (v := nI 0) C dL_works_399 rfl ?_
    refine r_istore (L' := [(5, .int (nI 0)), (4, .int (((flowF V 0) * (vS V 0)) - (backF V (vSup V) 0))), (0, .ref (mA G 107)), (1, .ref (mA G 108)), (2, .ref (mA G 109)), (3, .ref (mA G 110))]) C dL_works_400 (by decide) rfl ?_
    have lp402 : ∀ (fu : Nat) (i : Nat) (f3 : Nat → Int32), (i ≤ 4) → (tP V f3) → (tBk V f3) → (f3 38 = ndF V) → (f3 36 = ndF V) → (f3 37 = 0) → (4 - i) < fu → At p l e (rmD 3 0 0) s m args below meth c G 8 0 0 Q (mrow M 110 f3) g [(5, .int (nI i)), (0, .ref (mA G 107)), (1, .ref (mA G 108)), (2, .ref (mA G 109)), (3, .ref (mA G 110))] 402 [] := by
      intro fu
      induction fu with
      | zero => intro i f3 hi4 hp3 hb3 h38 h36 h37 hfu; exact absurd hfu (Nat.not_lt_zero _)
      | succ fu ih402 =>
        intro i f3 hi4 hp3 hb3 h38 h36 h37 hfu402
        refine r_iload C dL_works_402 0 rfl ?_
        refine r_iconst (v := 4) C dL_works_404 rfl ?_
        refine r_icmp_ge (tgt := 422) C dL_works_405 (by decide) (fun c405 => ?_) (fun c405 => ?_)
        ·
          have hi2 : i = 4 := by have := le_of_le (a := 4) (by decide) (by omega) c405; omega
          refine r_iconst (v := nI 0) C dL_works_422 rfl ?_
          refine r_istore (L' := [(5, .int (nI 0)), (0, .ref (mA G 107)), (1, .ref (mA G 108)), (2, .ref (mA G 109)), (3, .ref (mA G 110))]) C dL_works_423 (by decide) rfl ?_
          have lp425 : ∀ (fu : Nat) (y : Nat) (f4 : Nat → Int32), (y ≤ 100) → (tB V f4 y 0) → (100 - y) < fu → At p l e (rmD 3 0 0) s m args below meth c G 8 0 0 Q (mrow M 110 f4) g [(5, .int (nI y)), (0, .ref (mA G 107)), (1, .ref (mA G 108)), (2, .ref (mA G 109)), (3, .ref (mA G 110))] 425 [] := by
            intro fu
            induction fu with
            | zero => intro y f4 hc100 hq hfu; exact absurd hfu (Nat.not_lt_zero _)
            | succ fu ih425 =>
              intro y f4 hc100 hq hfu425
              refine r_iload C dL_works_425 0 rfl ?_
              refine r_bipush (v := 100) C dL_works_427 rfl ?_
              refine r_icmp_ge (tgt := 564) C dL_works_429 (by decide) (fun c429 => ?_) (fun c429 => ?_)
              ·
                have hc2 : y = 100 := by have := le_of_le (a := 100) (by decide) (by omega) c429; omega
                refine r_sub (L' := [(0, .ref (mA G 107)), (1, .ref (mA G 108)), (2, .ref (mA G 109)), (3, .ref (mA G 110))]) [1, 2, 3, 4] rfl ?_
                exact next f4 (tB_end hW (by rw [hc2] at hq; exact hq))
              ·
                have hclt : y < 100 := lt_of_nle (b := 100) (by omega) c429
                refine r_iconst (v := nI 0) C dL_works_432 rfl ?_
                refine r_istore (L' := [(6, .int (nI 0)), (5, .int (nI y)), (0, .ref (mA G 107)), (1, .ref (mA G 108)), (2, .ref (mA G 109)), (3, .ref (mA G 110))]) C dL_works_433 (by decide) rfl ?_
                have lp435 : ∀ (fu : Nat) (k : Nat) (f5 : Nat → Int32), (k ≤ vB V) → (tB V f5 y k) → (vB V - k) < fu → At p l e (rmD 3 0 0) s m args below meth c G 8 0 0 Q (mrow M 110 f5) g [(6, .int (nI k)), (5, .int (nI y)), (0, .ref (mA G 107)), (1, .ref (mA G 108)), (2, .ref (mA G 109)), (3, .ref (mA G 110))] 435 [] := by
                  intro fu
                  induction fu with
                  | zero => intro k f5 hkn hq5 hfu; exact absurd hfu (Nat.not_lt_zero _)
                  | succ fu ih435 =>
                    intro k f5 hkn hq5 hfu435
                    refine r_iload C dL_works_435 0 rfl ?_
                    refine r_aload_n C dL_works_437 2 rfl ?_
                    refine r_bipush (v := 6) C dL_works_438 rfl ?_
                    refine r_ialdN (j := 6) (v := nI (vB V)) C dL_works_440 rfl (rfl) (by omega) (by decide) ((hE.row _).b) ?_
                    refine r_icmp_ge (tgt := 558) C dL_works_441 (by decide) (fun c441 => ?_) (fun c441 => ?_)
                    ·
                      have hk2 : k = vB V := by have := le_of_le (by omega) (by omega) c441; omega
                      refine r_iinc (v := nI (y + 1)) (L' := [(5, .int (nI (y + 1))), (6, .int (nI k)), (0, .ref (mA G 107)), (1, .ref (mA G 108)), (2, .ref (mA G 109)), (3, .ref (mA G 110))]) C dL_works_558 1 rfl (nI_inc _) (by decide) rfl ?_
                      refine r_goto (tgt := 425) C dL_works_561 (by decide) ?_
                      refine r_sub (L' := [(5, .int (nI (y + 1))), (0, .ref (mA G 107)), (1, .ref (mA G 108)), (2, .ref (mA G 109)), (3, .ref (mA G 110))]) [0, 2, 3, 4, 5] rfl ?_
                      exact ih425 (y + 1) f5 (by omega) (tB_next (by rw [hk2] at hq5; exact hq5)) (by omega)
                    ·
                      have hlt : k < vB V := lt_of_nle (by omega) c441
                      refine r_aload_n C dL_works_444 4 rfl ?_
                      refine r_iconst (v := 3) C dL_works_445 rfl ?_
                      refine r_iload C dL_works_446 0 rfl ?_
                      refine r_imul C dL_works_448 ?_
                      refine r_valI (y := nI (3 * k)) (pk_mul 3 k) ?_
                      refine r_iconst (v := 2) C dL_works_449 rfl ?_
                      refine r_iadd C dL_works_450 ?_
                      refine r_valI (y := nI (3 * k + 2)) (nI_add (3 * k) 2) ?_
                      refine r_ialdN (j := 3 * k + 2) (v := vO V 2 k) C dL_works_451 rfl (rfl) (by omega) (by decide) ((hE.row _).o k 2 hlt (by decide)) ?_
                      refine r_iload C dL_works_452 1 rfl ?_
                      refine r_icmp_ne (tgt := 552) C dL_works_454 (by decide) (fun c454 => ?_) (fun c454 => ?_)
                      ·
                        refine r_mem (M' := mrow M 110 f5) (rfl) ?_
                        refine r_iinc (v := nI (k + 1)) (L' := [(6, .int (nI (k + 1))), (5, .int (nI y)), (0, .ref (mA G 107)), (1, .ref (mA G 108)), (2, .ref (mA G 109)), (3, .ref (mA G 110))]) C dL_works_552 0 rfl (nI_inc _) (by decide) rfl ?_
                        refine r_goto (tgt := 435) C dL_works_555 (by decide) ?_
                        refine r_sub (L' := [(6, .int (nI (k + 1))), (5, .int (nI y)), (0, .ref (mA G 107)), (1, .ref (mA G 108)), (2, .ref (mA G 109)), (3, .ref (mA G 110))]) [0, 1, 2, 3, 4, 5] rfl ?_
                        exact ih435 (k + 1) f5 (by omega) (tB_skip hq5 (fun z => c454 ((cst_eq (by omega)).mpr z))) (by omega)
                      ·
                        refine r_aload_n C dL_works_457 5 rfl ?_
                        refine r_bipush (v := 36) C dL_works_458 rfl ?_
                        refine r_ialdN (j := 36) (v := lfF V (ndF V) (cntC V y k)) C dL_works_460 rfl (rfl) (by omega) (by decide) (by rw [mrow_at]; exact hq5.2.2.2.1) ?_
                        refine r_aload_n C dL_works_461 4 rfl ?_
                        refine r_iconst (v := 3) C dL_works_462 rfl ?_
                        refine r_iload C dL_works_463 0 rfl ?_
                        refine r_imul C dL_works_465 ?_
                        refine r_valI (y := nI (3 * k)) (pk_mul 3 k) ?_
                        refine r_ialdN (j := 3 * k) (v := vO V 0 k) C dL_works_466 rfl (rfl) (by omega) (by decide) ((hE.row _).o0 k hlt) ?_
                        refine r_icmp_le (tgt := 479) C dL_works_467 (by decide) (fun c467 => ?_) (fun c467 => ?_)
                        ·
                          refine r_aload_n C dL_works_479 5 rfl ?_
                          refine r_bipush (v := 36) C dL_works_480 rfl ?_
                          refine r_ialdN (j := 36) (v := lfF V (ndF V) (cntC V y k)) C dL_works_482 rfl (rfl) (by omega) (by decide) (by rw [mrow_at]; exact hq5.2.2.2.1) ?_
                          refine r_valI (y := minI (vO V 0 k) (lfF V (ndF V) (cntC V y k))) ((minI_le c467).symm) ?_
                          refine r_istore (L' := [(7, .int (minI (vO V 0 k) (lfF V (ndF V) (cntC V y k)))), (6, .int (nI k)), (5, .int (nI y)), (0, .ref (mA G 107)), (1, .ref (mA G 108)), (2, .ref (mA G 109)), (3, .ref (mA G 110))]) C dL_works_483 (by decide) rfl ?_
                          refine r_aload_n C dL_works_485 6 rfl ?_
                          refine r_bipush (v := 36) C dL_works_486 rfl ?_
                          refine r_dup2 C dL_works_488 rfl rfl ?_
                          refine r_ialdN (j := 36) (v := lfF V (ndF V) (cntC V y k)) C dL_works_489 rfl (rfl) (by omega) (by decide) (by rw [mrow_at]; exact hq5.2.2.2.1) ?_
                          refine r_iload C dL_works_490 0 rfl ?_
                          refine r_isub C dL_works_492 ?_
                          refine r_iastN (j := 36) C dL_works_493 rfl (rfl) (by omega) (by decide) ?_
                          refine r_mem (M' := mrow M 110 (upd f5 36 ((lfF V (ndF V) (cntC V y k)) - (minI (vO V 0 k) (lfF V (ndF V) (cntC V y k)))))) (mset_row _ _ _ _ _) ?_
                          refine r_iload C dL_works_494 0 rfl ?_
                          refine r_if_le (tgt := 527) C dL_works_496 (by decide) (fun c496 => ?_) (fun c496 => ?_)
                          ·
                            refine r_mem (M' := mrow M 110 (upd f5 36 ((lfF V (ndF V) (cntC V y k)) - (minI (vO V 0 k) (lfF V (ndF V) (cntC V y k)))))) (rfl) ?_
                            refine r_aload_n C dL_works_527 6 rfl ?_
                            refine r_bipush (v := 32) C dL_works_528 rfl ?_
                            refine r_iload C dL_works_530 1 rfl ?_
                            refine r_iadd C dL_works_532 ?_
                            refine r_valI (y := nI (32 + k)) (nI_add 32 k) ?_
                            refine r_iload C dL_works_533 0 rfl ?_
                            refine r_iastN (j := 32 + k) C dL_works_535 rfl (rfl) (by omega) (by decide) ?_
                            refine r_mem (M' := mrow M 110 (upd (upd f5 36 ((lfF V (ndF V) (cntC V y k)) - (minI (vO V 0 k) (lfF V (ndF V) (cntC V y k))))) (32 + k) (minI (vO V 0 k) (lfF V (ndF V) (cntC V y k))))) (mset_row _ _ _ _ _) ?_
                            refine r_aload_n C dL_works_536 6 rfl ?_
                            refine r_bipush (v := 37) C dL_works_537 rfl ?_
                            refine r_dup2 C dL_works_539 rfl rfl ?_
                            refine r_ialdN (j := 37) (v := csF V (ndF V) (cntC V y k)) C dL_works_540 rfl (rfl) (by omega) (by decide) (by rw [mrow_at, upd_ne (by omega), upd_ne (by omega)]; exact hq5.2.2.2.2.1) ?_
                            refine r_iload C dL_works_541 0 rfl ?_
                            refine r_iload C dL_works_543 2 rfl ?_
                            refine r_imul C dL_works_545 ?_
                            refine r_valI (y := (minI (vO V 0 k) (lfF V (ndF V) (cntC V y k))) * (vO V 2 k)) (by rw [c454]) ?_
                            refine r_sipush (v := 1000) C dL_works_546 rfl ?_
                            refine r_idiv C dL_works_549 (by decide) ?_
                            refine r_iadd C dL_works_550 ?_
                            refine r_iastN (j := 37) C dL_works_551 rfl (rfl) (by omega) (by decide) ?_
                            refine r_mem (M' := mrow M 110 (upd (upd (upd f5 36 ((lfF V (ndF V) (cntC V y k)) - (minI (vO V 0 k) (lfF V (ndF V) (cntC V y k))))) (32 + k) (minI (vO V 0 k) (lfF V (ndF V) (cntC V y k)))) 37 ((csF V (ndF V) (cntC V y k)) + (minI (vO V 0 k) (lfF V (ndF V) (cntC V y k))) * (vO V 2 k) / 1000))) (mset_row _ _ _ _ _) ?_
                            refine r_iinc (v := nI (k + 1)) (L' := [(6, .int (nI (k + 1))), (7, .int (minI (vO V 0 k) (lfF V (ndF V) (cntC V y k)))), (5, .int (nI y)), (0, .ref (mA G 107)), (1, .ref (mA G 108)), (2, .ref (mA G 109)), (3, .ref (mA G 110))]) C dL_works_552 1 rfl (nI_inc _) (by decide) rfl ?_
                            refine r_goto (tgt := 435) C dL_works_555 (by decide) ?_
                            refine r_sub (L' := [(6, .int (nI (k + 1))), (5, .int (nI y)), (0, .ref (mA G 107)), (1, .ref (mA G 108)), (2, .ref (mA G 109)), (3, .ref (mA G 110))]) [0, 2, 3, 4, 5, 6] rfl ?_
                            exact ih435 (k + 1) (upd (upd (upd f5 36 ((lfF V (ndF V) (cntC V y k)) - (minI (vO V 0 k) (lfF V (ndF V) (cntC V y k))))) (32 + k) (minI (vO V 0 k) (lfF V (ndF V) (cntC V y k)))) 37 ((csF V (ndF V) (cntC V y k)) + (minI (vO V 0 k) (lfF V (ndF V) (cntC V y k))) * (vO V 2 k) / 1000)) (by omega) (tB_take h8 hb4 hq5 hlt ((cst_eq (by omega)).mp c454) (by unfold nxL; rw [if_neg (fun z => i32_nlt.mpr c496 z.1)]) (by unfold ldV; rw [if_neg (fun z => i32_nlt.mpr c496 z.1)])) (by omega)
                          ·
                            refine r_iload C dL_works_499 0 rfl ?_
                            refine r_aload_n C dL_works_501 5 rfl ?_
                            refine r_iconst (v := 3) C dL_works_502 rfl ?_
                            refine r_iload C dL_works_503 1 rfl ?_
                            refine r_imul C dL_works_505 ?_
                            refine r_valI (y := nI (3 * k)) (pk_mul 3 k) ?_
                            refine r_iconst (v := 1) C dL_works_506 rfl ?_
                            refine r_iadd C dL_works_507 ?_
                            refine r_valI (y := nI (3 * k + 1)) (nI_add (3 * k) 1) ?_
                            refine r_ialdN (j := 3 * k + 1) (v := vO V 1 k) C dL_works_508 rfl (rfl) (by omega) (by decide) ((hE.row _).o k 1 hlt (by decide)) ?_
                            refine r_icmp_ge (tgt := 527) C dL_works_509 (by decide) (fun c509 => ?_) (fun c509 => ?_)
                            ·
                              refine r_mem (M' := mrow M 110 (upd f5 36 ((lfF V (ndF V) (cntC V y k)) - (minI (vO V 0 k) (lfF V (ndF V) (cntC V y k)))))) (rfl) ?_
                              refine r_aload_n C dL_works_527 6 rfl ?_
                              refine r_bipush (v := 32) C dL_works_528 rfl ?_
                              refine r_iload C dL_works_530 1 rfl ?_
                              refine r_iadd C dL_works_532 ?_
                              refine r_valI (y := nI (32 + k)) (nI_add 32 k) ?_
                              refine r_iload C dL_works_533 0 rfl ?_
                              refine r_iastN (j := 32 + k) C dL_works_535 rfl (rfl) (by omega) (by decide) ?_
                              refine r_mem (M' := mrow M 110 (upd (upd f5 36 ((lfF V (ndF V) (cntC V y k)) - (minI (vO V 0 k) (lfF V (ndF V) (cntC V y k))))) (32 + k) (minI (vO V 0 k) (lfF V (ndF V) (cntC V y k))))) (mset_row _ _ _ _ _) ?_
                              refine r_aload_n C dL_works_536 6 rfl ?_
                              refine r_bipush (v := 37) C dL_works_537 rfl ?_
                              refine r_dup2 C dL_works_539 rfl rfl ?_
                              refine r_ialdN (j := 37) (v := csF V (ndF V) (cntC V y k)) C dL_works_540 rfl (rfl) (by omega) (by decide) (by rw [mrow_at, upd_ne (by omega), upd_ne (by omega)]; exact hq5.2.2.2.2.1) ?_
                              refine r_iload C dL_works_541 0 rfl ?_
                              refine r_iload C dL_works_543 2 rfl ?_
                              refine r_imul C dL_works_545 ?_
                              refine r_valI (y := (minI (vO V 0 k) (lfF V (ndF V) (cntC V y k))) * (vO V 2 k)) (by rw [c454]) ?_
                              refine r_sipush (v := 1000) C dL_works_546 rfl ?_
                              refine r_idiv C dL_works_549 (by decide) ?_
                              refine r_iadd C dL_works_550 ?_
                              refine r_iastN (j := 37) C dL_works_551 rfl (rfl) (by omega) (by decide) ?_
                              refine r_mem (M' := mrow M 110 (upd (upd (upd f5 36 ((lfF V (ndF V) (cntC V y k)) - (minI (vO V 0 k) (lfF V (ndF V) (cntC V y k))))) (32 + k) (minI (vO V 0 k) (lfF V (ndF V) (cntC V y k)))) 37 ((csF V (ndF V) (cntC V y k)) + (minI (vO V 0 k) (lfF V (ndF V) (cntC V y k))) * (vO V 2 k) / 1000))) (mset_row _ _ _ _ _) ?_
                              refine r_iinc (v := nI (k + 1)) (L' := [(6, .int (nI (k + 1))), (7, .int (minI (vO V 0 k) (lfF V (ndF V) (cntC V y k)))), (5, .int (nI y)), (0, .ref (mA G 107)), (1, .ref (mA G 108)), (2, .ref (mA G 109)), (3, .ref (mA G 110))]) C dL_works_552 1 rfl (nI_inc _) (by decide) rfl ?_
                              refine r_goto (tgt := 435) C dL_works_555 (by decide) ?_
                              refine r_sub (L' := [(6, .int (nI (k + 1))), (5, .int (nI y)), (0, .ref (mA G 107)), (1, .ref (mA G 108)), (2, .ref (mA G 109)), (3, .ref (mA G 110))]) [0, 2, 3, 4, 5, 6] rfl ?_
                              exact ih435 (k + 1) (upd (upd (upd f5 36 ((lfF V (ndF V) (cntC V y k)) - (minI (vO V 0 k) (lfF V (ndF V) (cntC V y k))))) (32 + k) (minI (vO V 0 k) (lfF V (ndF V) (cntC V y k)))) 37 ((csF V (ndF V) (cntC V y k)) + (minI (vO V 0 k) (lfF V (ndF V) (cntC V y k))) * (vO V 2 k) / 1000)) (by omega) (tB_take h8 hb4 hq5 hlt ((cst_eq (by omega)).mp c454) (by unfold nxL; rw [if_neg (fun z => i32_nlt.mpr c509 z.2)]) (by unfold ldV; rw [if_neg (fun z => i32_nlt.mpr c509 z.2)])) (by omega)
                            ·
                              refine r_aload_n C dL_works_512 5 rfl ?_
                              refine r_iconst (v := 3) C dL_works_513 rfl ?_
                              refine r_iload C dL_works_514 1 rfl ?_
                              refine r_imul C dL_works_516 ?_
                              refine r_valI (y := nI (3 * k)) (pk_mul 3 k) ?_
                              refine r_iconst (v := 1) C dL_works_517 rfl ?_
                              refine r_iadd C dL_works_518 ?_
                              refine r_valI (y := nI (3 * k + 1)) (nI_add (3 * k) 1) ?_
                              refine r_ialdN (j := 3 * k + 1) (v := vO V 1 k) C dL_works_519 rfl (rfl) (by omega) (by decide) ((hE.row _).o k 1 hlt (by decide)) ?_
                              refine r_istore (L' := [(7, .int (vO V 1 k)), (6, .int (nI k)), (5, .int (nI y)), (0, .ref (mA G 107)), (1, .ref (mA G 108)), (2, .ref (mA G 109)), (3, .ref (mA G 110))]) C dL_works_520 (by decide) rfl ?_
                              refine r_aload_n C dL_works_522 6 rfl ?_
                              refine r_bipush (v := 36) C dL_works_523 rfl ?_
                              refine r_iconst (v := 0) C dL_works_525 rfl ?_
                              refine r_iastN (j := 36) C dL_works_526 rfl (rfl) (by omega) (by decide) ?_
                              refine r_mem (M' := mrow M 110 (upd f5 36 0)) (by rw [mset_row, upd_upd]) ?_
                              refine r_aload_n C dL_works_527 6 rfl ?_
                              refine r_bipush (v := 32) C dL_works_528 rfl ?_
                              refine r_iload C dL_works_530 1 rfl ?_
                              refine r_iadd C dL_works_532 ?_
                              refine r_valI (y := nI (32 + k)) (nI_add 32 k) ?_
                              refine r_iload C dL_works_533 0 rfl ?_
                              refine r_iastN (j := 32 + k) C dL_works_535 rfl (rfl) (by omega) (by decide) ?_
                              refine r_mem (M' := mrow M 110 (upd (upd f5 36 0) (32 + k) (vO V 1 k))) (mset_row _ _ _ _ _) ?_
                              refine r_aload_n C dL_works_536 6 rfl ?_
                              refine r_bipush (v := 37) C dL_works_537 rfl ?_
                              refine r_dup2 C dL_works_539 rfl rfl ?_
                              refine r_ialdN (j := 37) (v := csF V (ndF V) (cntC V y k)) C dL_works_540 rfl (rfl) (by omega) (by decide) (by rw [mrow_at, upd_ne (by omega), upd_ne (by omega)]; exact hq5.2.2.2.2.1) ?_
                              refine r_iload C dL_works_541 0 rfl ?_
                              refine r_iload C dL_works_543 2 rfl ?_
                              refine r_imul C dL_works_545 ?_
                              refine r_valI (y := (vO V 1 k) * (vO V 2 k)) (by rw [c454]) ?_
                              refine r_sipush (v := 1000) C dL_works_546 rfl ?_
                              refine r_idiv C dL_works_549 (by decide) ?_
                              refine r_iadd C dL_works_550 ?_
                              refine r_iastN (j := 37) C dL_works_551 rfl (rfl) (by omega) (by decide) ?_
                              refine r_mem (M' := mrow M 110 (upd (upd (upd f5 36 0) (32 + k) (vO V 1 k)) 37 ((csF V (ndF V) (cntC V y k)) + (vO V 1 k) * (vO V 2 k) / 1000))) (mset_row _ _ _ _ _) ?_
                              refine r_iinc (v := nI (k + 1)) (L' := [(6, .int (nI (k + 1))), (7, .int (vO V 1 k)), (5, .int (nI y)), (0, .ref (mA G 107)), (1, .ref (mA G 108)), (2, .ref (mA G 109)), (3, .ref (mA G 110))]) C dL_works_552 1 rfl (nI_inc _) (by decide) rfl ?_
                              refine r_goto (tgt := 435) C dL_works_555 (by decide) ?_
                              refine r_sub (L' := [(6, .int (nI (k + 1))), (5, .int (nI y)), (0, .ref (mA G 107)), (1, .ref (mA G 108)), (2, .ref (mA G 109)), (3, .ref (mA G 110))]) [0, 2, 3, 4, 5, 6] rfl ?_
                              exact ih435 (k + 1) (upd (upd (upd f5 36 0) (32 + k) (vO V 1 k)) 37 ((csF V (ndF V) (cntC V y k)) + (vO V 1 k) * (vO V 2 k) / 1000)) (by omega) (tB_take h8 hb4 hq5 hlt ((cst_eq (by omega)).mp c454) (by unfold nxL; rw [if_pos ⟨i32_nle.mp c496, i32_nle.mp c509⟩]) (by unfold ldV; rw [if_pos ⟨i32_nle.mp c496, i32_nle.mp c509⟩])) (by omega)
                        ·
                          refine r_aload_n C dL_works_470 4 rfl ?_
                          refine r_iconst (v := 3) C dL_works_471 rfl ?_
                          refine r_iload C dL_works_472 0 rfl ?_
                          refine r_imul C dL_works_474 ?_
                          refine r_valI (y := nI (3 * k)) (pk_mul 3 k) ?_
                          refine r_ialdN (j := 3 * k) (v := vO V 0 k) C dL_works_475 rfl (rfl) (by omega) (by decide) ((hE.row _).o0 k hlt) ?_
                          refine r_goto (tgt := 483) C dL_works_476 (by decide) ?_
                          refine r_valI (y := minI (vO V 0 k) (lfF V (ndF V) (cntC V y k))) ((minI_gt c467).symm) ?_
                          refine r_istore (L' := [(7, .int (minI (vO V 0 k) (lfF V (ndF V) (cntC V y k)))), (6, .int (nI k)), (5, .int (nI y)), (0, .ref (mA G 107)), (1, .ref (mA G 108)), (2, .ref (mA G 109)), (3, .ref (mA G 110))]) C dL_works_483 (by decide) rfl ?_
                          refine r_aload_n C dL_works_485 6 rfl ?_
                          refine r_bipush (v := 36) C dL_works_486 rfl ?_
                          refine r_dup2 C dL_works_488 rfl rfl ?_
                          refine r_ialdN (j := 36) (v := lfF V (ndF V) (cntC V y k)) C dL_works_489 rfl (rfl) (by omega) (by decide) (by rw [mrow_at]; exact hq5.2.2.2.1) ?_
                          refine r_iload C dL_works_490 0 rfl ?_
                          refine r_isub C dL_works_492 ?_
                          refine r_iastN (j := 36) C dL_works_493 rfl (rfl) (by omega) (by decide) ?_
                          refine r_mem (M' := mrow M 110 (upd f5 36 ((lfF V (ndF V) (cntC V y k)) - (minI (vO V 0 k) (lfF V (ndF V) (cntC V y k)))))) (mset_row _ _ _ _ _) ?_
                          refine r_iload C dL_works_494 0 rfl ?_
                          refine r_if_le (tgt := 527) C dL_works_496 (by decide) (fun c496 => ?_) (fun c496 => ?_)
                          ·
                            refine r_mem (M' := mrow M 110 (upd f5 36 ((lfF V (ndF V) (cntC V y k)) - (minI (vO V 0 k) (lfF V (ndF V) (cntC V y k)))))) (rfl) ?_
                            refine r_aload_n C dL_works_527 6 rfl ?_
                            refine r_bipush (v := 32) C dL_works_528 rfl ?_
                            refine r_iload C dL_works_530 1 rfl ?_
                            refine r_iadd C dL_works_532 ?_
                            refine r_valI (y := nI (32 + k)) (nI_add 32 k) ?_
                            refine r_iload C dL_works_533 0 rfl ?_
                            refine r_iastN (j := 32 + k) C dL_works_535 rfl (rfl) (by omega) (by decide) ?_
                            refine r_mem (M' := mrow M 110 (upd (upd f5 36 ((lfF V (ndF V) (cntC V y k)) - (minI (vO V 0 k) (lfF V (ndF V) (cntC V y k))))) (32 + k) (minI (vO V 0 k) (lfF V (ndF V) (cntC V y k))))) (mset_row _ _ _ _ _) ?_
                            refine r_aload_n C dL_works_536 6 rfl ?_
                            refine r_bipush (v := 37) C dL_works_537 rfl ?_
                            refine r_dup2 C dL_works_539 rfl rfl ?_
                            refine r_ialdN (j := 37) (v := csF V (ndF V) (cntC V y k)) C dL_works_540 rfl (rfl) (by omega) (by decide) (by rw [mrow_at, upd_ne (by omega), upd_ne (by omega)]; exact hq5.2.2.2.2.1) ?_
                            refine r_iload C dL_works_541 0 rfl ?_
                            refine r_iload C dL_works_543 2 rfl ?_
                            refine r_imul C dL_works_545 ?_
                            refine r_valI (y := (minI (vO V 0 k) (lfF V (ndF V) (cntC V y k))) * (vO V 2 k)) (by rw [c454]) ?_
                            refine r_sipush (v := 1000) C dL_works_546 rfl ?_
                            refine r_idiv C dL_works_549 (by decide) ?_
                            refine r_iadd C dL_works_550 ?_
                            refine r_iastN (j := 37) C dL_works_551 rfl (rfl) (by omega) (by decide) ?_
                            refine r_mem (M' := mrow M 110 (upd (upd (upd f5 36 ((lfF V (ndF V) (cntC V y k)) - (minI (vO V 0 k) (lfF V (ndF V) (cntC V y k))))) (32 + k) (minI (vO V 0 k) (lfF V (ndF V) (cntC V y k)))) 37 ((csF V (ndF V) (cntC V y k)) + (minI (vO V 0 k) (lfF V (ndF V) (cntC V y k))) * (vO V 2 k) / 1000))) (mset_row _ _ _ _ _) ?_
                            refine r_iinc (v := nI (k + 1)) (L' := [(6, .int (nI (k + 1))), (7, .int (minI (vO V 0 k) (lfF V (ndF V) (cntC V y k)))), (5, .int (nI y)), (0, .ref (mA G 107)), (1, .ref (mA G 108)), (2, .ref (mA G 109)), (3, .ref (mA G 110))]) C dL_works_552 1 rfl (nI_inc _) (by decide) rfl ?_
                            refine r_goto (tgt := 435) C dL_works_555 (by decide) ?_
                            refine r_sub (L' := [(6, .int (nI (k + 1))), (5, .int (nI y)), (0, .ref (mA G 107)), (1, .ref (mA G 108)), (2, .ref (mA G 109)), (3, .ref (mA G 110))]) [0, 2, 3, 4, 5, 6] rfl ?_
                            exact ih435 (k + 1) (upd (upd (upd f5 36 ((lfF V (ndF V) (cntC V y k)) - (minI (vO V 0 k) (lfF V (ndF V) (cntC V y k))))) (32 + k) (minI (vO V 0 k) (lfF V (ndF V) (cntC V y k)))) 37 ((csF V (ndF V) (cntC V y k)) + (minI (vO V 0 k) (lfF V (ndF V) (cntC V y k))) * (vO V 2 k) / 1000)) (by omega) (tB_take h8 hb4 hq5 hlt ((cst_eq (by omega)).mp c454) (by unfold nxL; rw [if_neg (fun z => i32_nlt.mpr c496 z.1)]) (by unfold ldV; rw [if_neg (fun z => i32_nlt.mpr c496 z.1)])) (by omega)
                          ·
                            refine r_iload C dL_works_499 0 rfl ?_
                            refine r_aload_n C dL_works_501 5 rfl ?_
                            refine r_iconst (v := 3) C dL_works_502 rfl ?_
                            refine r_iload C dL_works_503 1 rfl ?_
                            refine r_imul C dL_works_505 ?_
                            refine r_valI (y := nI (3 * k)) (pk_mul 3 k) ?_
                            refine r_iconst (v := 1) C dL_works_506 rfl ?_
                            refine r_iadd C dL_works_507 ?_
                            refine r_valI (y := nI (3 * k + 1)) (nI_add (3 * k) 1) ?_
                            refine r_ialdN (j := 3 * k + 1) (v := vO V 1 k) C dL_works_508 rfl (rfl) (by omega) (by decide) ((hE.row _).o k 1 hlt (by decide)) ?_
                            refine r_icmp_ge (tgt := 527) C dL_works_509 (by decide) (fun c509 => ?_) (fun c509 => ?_)
                            ·
                              refine r_mem (M' := mrow M 110 (upd f5 36 ((lfF V (ndF V) (cntC V y k)) - (minI (vO V 0 k) (lfF V (ndF V) (cntC V y k)))))) (rfl) ?_
                              refine r_aload_n C dL_works_527 6 rfl ?_
                              refine r_bipush (v := 32) C dL_works_528 rfl ?_
                              refine r_iload C dL_works_530 1 rfl ?_
                              refine r_iadd C dL_works_532 ?_
                              refine r_valI (y := nI (32 + k)) (nI_add 32 k) ?_
                              refine r_iload C dL_works_533 0 rfl ?_
                              refine r_iastN (j := 32 + k) C dL_works_535 rfl (rfl) (by omega) (by decide) ?_
                              refine r_mem (M' := mrow M 110 (upd (upd f5 36 ((lfF V (ndF V) (cntC V y k)) - (minI (vO V 0 k) (lfF V (ndF V) (cntC V y k))))) (32 + k) (minI (vO V 0 k) (lfF V (ndF V) (cntC V y k))))) (mset_row _ _ _ _ _) ?_
                              refine r_aload_n C dL_works_536 6 rfl ?_
                              refine r_bipush (v := 37) C dL_works_537 rfl ?_
                              refine r_dup2 C dL_works_539 rfl rfl ?_
                              refine r_ialdN (j := 37) (v := csF V (ndF V) (cntC V y k)) C dL_works_540 rfl (rfl) (by omega) (by decide) (by rw [mrow_at, upd_ne (by omega), upd_ne (by omega)]; exact hq5.2.2.2.2.1) ?_
                              refine r_iload C dL_works_541 0 rfl ?_
                              refine r_iload C dL_works_543 2 rfl ?_
                              refine r_imul C dL_works_545 ?_
                              refine r_valI (y := (minI (vO V 0 k) (lfF V (ndF V) (cntC V y k))) * (vO V 2 k)) (by rw [c454]) ?_
                              refine r_sipush (v := 1000) C dL_works_546 rfl ?_
                              refine r_idiv C dL_works_549 (by decide) ?_
                              refine r_iadd C dL_works_550 ?_
                              refine r_iastN (j := 37) C dL_works_551 rfl (rfl) (by omega) (by decide) ?_
                              refine r_mem (M' := mrow M 110 (upd (upd (upd f5 36 ((lfF V (ndF V) (cntC V y k)) - (minI (vO V 0 k) (lfF V (ndF V) (cntC V y k))))) (32 + k) (minI (vO V 0 k) (lfF V (ndF V) (cntC V y k)))) 37 ((csF V (ndF V) (cntC V y k)) + (minI (vO V 0 k) (lfF V (ndF V) (cntC V y k))) * (vO V 2 k) / 1000))) (mset_row _ _ _ _ _) ?_
                              refine r_iinc (v := nI (k + 1)) (L' := [(6, .int (nI (k + 1))), (7, .int (minI (vO V 0 k) (lfF V (ndF V) (cntC V y k)))), (5, .int (nI y)), (0, .ref (mA G 107)), (1, .ref (mA G 108)), (2, .ref (mA G 109)), (3, .ref (mA G 110))]) C dL_works_552 1 rfl (nI_inc _) (by decide) rfl ?_
                              refine r_goto (tgt := 435) C dL_works_555 (by decide) ?_
                              refine r_sub (L' := [(6, .int (nI (k + 1))), (5, .int (nI y)), (0, .ref (mA G 107)), (1, .ref (mA G 108)), (2, .ref (mA G 109)), (3, .ref (mA G 110))]) [0, 2, 3, 4, 5, 6] rfl ?_
                              exact ih435 (k + 1) (upd (upd (upd f5 36 ((lfF V (ndF V) (cntC V y k)) - (minI (vO V 0 k) (lfF V (ndF V) (cntC V y k))))) (32 + k) (minI (vO V 0 k) (lfF V (ndF V) (cntC V y k)))) 37 ((csF V (ndF V) (cntC V y k)) + (minI (vO V 0 k) (lfF V (ndF V) (cntC V y k))) * (vO V 2 k) / 1000)) (by omega) (tB_take h8 hb4 hq5 hlt ((cst_eq (by omega)).mp c454) (by unfold nxL; rw [if_neg (fun z => i32_nlt.mpr c509 z.2)]) (by unfold ldV; rw [if_neg (fun z => i32_nlt.mpr c509 z.2)])) (by omega)
                            ·
                              refine r_aload_n C dL_works_512 5 rfl ?_
                              refine r_iconst (v := 3) C dL_works_513 rfl ?_
                              refine r_iload C dL_works_514 1 rfl ?_
                              refine r_imul C dL_works_516 ?_
                              refine r_valI (y := nI (3 * k)) (pk_mul 3 k) ?_
                              refine r_iconst (v := 1) C dL_works_517 rfl ?_
                              refine r_iadd C dL_works_518 ?_
                              refine r_valI (y := nI (3 * k + 1)) (nI_add (3 * k) 1) ?_
                              refine r_ialdN (j := 3 * k + 1) (v := vO V 1 k) C dL_works_519 rfl (rfl) (by omega) (by decide) ((hE.row _).o k 1 hlt (by decide)) ?_
                              refine r_istore (L' := [(7, .int (vO V 1 k)), (6, .int (nI k)), (5, .int (nI y)), (0, .ref (mA G 107)), (1, .ref (mA G 108)), (2, .ref (mA G 109)), (3, .ref (mA G 110))]) C dL_works_520 (by decide) rfl ?_
                              refine r_aload_n C dL_works_522 6 rfl ?_
                              refine r_bipush (v := 36) C dL_works_523 rfl ?_
                              refine r_iconst (v := 0) C dL_works_525 rfl ?_
                              refine r_iastN (j := 36) C dL_works_526 rfl (rfl) (by omega) (by decide) ?_
                              refine r_mem (M' := mrow M 110 (upd f5 36 0)) (by rw [mset_row, upd_upd]) ?_
                              refine r_aload_n C dL_works_527 6 rfl ?_
                              refine r_bipush (v := 32) C dL_works_528 rfl ?_
                              refine r_iload C dL_works_530 1 rfl ?_
                              refine r_iadd C dL_works_532 ?_
                              refine r_valI (y := nI (32 + k)) (nI_add 32 k) ?_
                              refine r_iload C dL_works_533 0 rfl ?_
                              refine r_iastN (j := 32 + k) C dL_works_535 rfl (rfl) (by omega) (by decide) ?_
                              refine r_mem (M' := mrow M 110 (upd (upd f5 36 0) (32 + k) (vO V 1 k))) (mset_row _ _ _ _ _) ?_
                              refine r_aload_n C dL_works_536 6 rfl ?_
                              refine r_bipush (v := 37) C dL_works_537 rfl ?_
                              refine r_dup2 C dL_works_539 rfl rfl ?_
                              refine r_ialdN (j := 37) (v := csF V (ndF V) (cntC V y k)) C dL_works_540 rfl (rfl) (by omega) (by decide) (by rw [mrow_at, upd_ne (by omega), upd_ne (by omega)]; exact hq5.2.2.2.2.1) ?_
                              refine r_iload C dL_works_541 0 rfl ?_
                              refine r_iload C dL_works_543 2 rfl ?_
                              refine r_imul C dL_works_545 ?_
                              refine r_valI (y := (vO V 1 k) * (vO V 2 k)) (by rw [c454]) ?_
                              refine r_sipush (v := 1000) C dL_works_546 rfl ?_
                              refine r_idiv C dL_works_549 (by decide) ?_
                              refine r_iadd C dL_works_550 ?_
                              refine r_iastN (j := 37) C dL_works_551 rfl (rfl) (by omega) (by decide) ?_
                              refine r_mem (M' := mrow M 110 (upd (upd (upd f5 36 0) (32 + k) (vO V 1 k)) 37 ((csF V (ndF V) (cntC V y k)) + (vO V 1 k) * (vO V 2 k) / 1000))) (mset_row _ _ _ _ _) ?_
                              refine r_iinc (v := nI (k + 1)) (L' := [(6, .int (nI (k + 1))), (7, .int (vO V 1 k)), (5, .int (nI y)), (0, .ref (mA G 107)), (1, .ref (mA G 108)), (2, .ref (mA G 109)), (3, .ref (mA G 110))]) C dL_works_552 1 rfl (nI_inc _) (by decide) rfl ?_
                              refine r_goto (tgt := 435) C dL_works_555 (by decide) ?_
                              refine r_sub (L' := [(6, .int (nI (k + 1))), (5, .int (nI y)), (0, .ref (mA G 107)), (1, .ref (mA G 108)), (2, .ref (mA G 109)), (3, .ref (mA G 110))]) [0, 2, 3, 4, 5, 6] rfl ?_
                              exact ih435 (k + 1) (upd (upd (upd f5 36 0) (32 + k) (vO V 1 k)) 37 ((csF V (ndF V) (cntC V y k)) + (vO V 1 k) * (vO V 2 k) / 1000)) (by omega) (tB_take h8 hb4 hq5 hlt ((cst_eq (by omega)).mp c454) (by unfold nxL; rw [if_pos ⟨i32_nle.mp c496, i32_nle.mp c509⟩]) (by unfold ldV; rw [if_pos ⟨i32_nle.mp c496, i32_nle.mp c509⟩])) (by omega)
                refine r_sub (L' := [(6, .int (nI 0)), (5, .int (nI y)), (0, .ref (mA G 107)), (1, .ref (mA G 108)), (2, .ref (mA G 109)), (3, .ref (mA G 110))]) [0, 1, 2, 3, 4, 5] rfl ?_
                exact lp435 _ 0 f4 (by omega) hq (Nat.lt_succ_self _)
          refine r_sub (L' := [(5, .int (nI 0)), (0, .ref (mA G 107)), (1, .ref (mA G 108)), (2, .ref (mA G 109)), (3, .ref (mA G 110))]) [0, 1, 2, 3, 4] rfl ?_
          exact lp425 _ 0 f3 (by omega) (tB_0 hW hp3 hb3 h38 h36 h37) (Nat.lt_succ_self _)
        ·
          have hilt : i < 4 := lt_of_nle (b := 4) (by omega) c405
          refine r_aload_n C dL_works_408 4 rfl ?_
          refine r_bipush (v := 32) C dL_works_409 rfl ?_
          refine r_iload C dL_works_411 0 rfl ?_
          refine r_iadd C dL_works_413 ?_
          refine r_valI (y := nI (32 + i)) (nI_add 32 i) ?_
          refine r_iconst (v := 0) C dL_works_414 rfl ?_
          refine r_iastN (j := 32 + i) C dL_works_415 rfl (rfl) (by omega) (by decide) ?_
          refine r_mem (M' := mrow M 110 (upd f3 (32 + i) 0)) (mset_row _ _ _ _ _) ?_
          refine r_iinc (v := nI (i + 1)) (L' := [(5, .int (nI (i + 1))), (0, .ref (mA G 107)), (1, .ref (mA G 108)), (2, .ref (mA G 109)), (3, .ref (mA G 110))]) C dL_works_416 0 rfl (nI_inc _) (by decide) rfl ?_
          refine r_goto (tgt := 402) C dL_works_419 (by decide) ?_
          refine r_sub (L' := [(5, .int (nI (i + 1))), (0, .ref (mA G 107)), (1, .ref (mA G 108)), (2, .ref (mA G 109)), (3, .ref (mA G 110))]) [0, 1, 2, 3, 4] rfl ?_
          exact ih402 (i + 1) (upd f3 (32 + i) 0) (by omega) (hp3.upd h8 (by omega)) (hb3.upd h8 (by omega)) (by rw [upd_ne (by omega)]; exact h38) (by rw [upd_ne (by omega)]; exact h36) (by rw [upd_ne (by omega)]; exact h37) (by omega)
    refine r_sub (L' := [(5, .int (nI 0)), (0, .ref (mA G 107)), (1, .ref (mA G 108)), (2, .ref (mA G 109)), (3, .ref (mA G 110))]) [0, 2, 3, 4, 5] rfl ?_
    exact lp402 _ 0 (upd (upd (upd f 38 (ndF V)) 36 (ndF V)) 37 0) (by omega) (((hf.upd h8 (by omega)).upd h8 (by omega)).upd h8 (by omega)) (((hbk.upd h8 (by omega)).upd h8 (by omega)).upd h8 (by omega)) (by rw [upd_ne (by omega), upd_ne (by omega), upd_at]) (by rw [upd_ne (by omega), upd_at]) (by rw [upd_at]) (Nat.lt_succ_self _)

theorem c_L_works (l : Launch) (G : mG) (hG : mInj G) (M : Mem) (g : Glo) (V : View) (hW : wfV V) (hE : eOK M V) : mcV l G yL_works cL_works 8 3 [.ref (mA G 107), .ref (mA G 108), .ref (mA G 109), .ref (mA G 110)] M g (fun M' g' => (∃ f, M' = mrow M 110 f ∧ tOK f V) ∧ g' = g) := by
  refine mcV_of (L0 := [(0, .ref (mA G 107)), (1, .ref (mA G 108)), (2, .ref (mA G 109)), (3, .ref (mA G 110))]) hG (by decide) (Nat.le_of_ble_eq_true rfl) rfl ?_
  intro p e s m args below meth c Q C hend
  refine ws_1 hG C V hW hE (fun f1 h1 => ?_)
  refine ws_2 hG C V hW hE f1 h1 (fun f2 h2 => ?_)
  refine ws_3 hG C V hW hE f2 h2 (fun f3 h3 h4 => ?_)
  refine ws_4 hG C V hW hE f3 h3 h4 (fun f4 h5 => ?_)
  exact hend _ _ _ _ dL_works_564 ⟨⟨f4, rfl, h5⟩, rfl⟩
