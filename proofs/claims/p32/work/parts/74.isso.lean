set_option maxRecDepth 20000 in
set_option maxHeartbeats 8000000 in
theorem is_a {p : Program} {l : Launch} {e : Env} {s : State} {m : MethodId} {args : Array Value} {below : List Frame} {meth : Method} {c : Code} {G : mG} {Q : State → Prop} {M : Mem} {g : Glo} (hG : mInj G) (C : mCx p s m args c cL_isSo 14 RL G) (hS3 : nP G = 112) (V : View) (Hs : List View) (len : Nat) (T : Nat → Int32) (hI : cINV M V Hs len T) (hE : eOK M V) (hO : tOK (M 110) V) (next : At p l e (rmD 9 5 27) s m args below meth c G 14 1 3 Q M g [(8, .int 1), (7, .ref (mA G 111)), (6, .int 0), (5, .int 0), (0, .ref (mA G 0)), (1, .ref (mA G 107)), (2, .ref (mA G 108)), (3, .ref (mA G 109)), (4, .ref (mA G 110))] 149 []) : At p l e (rmD 9 5 27) s m args below meth c G 14 1 3 Q M g [(7, .ref (mA G 111)), (6, .int 0), (5, .int 0), (0, .ref (mA G 0)), (1, .ref (mA G 107)), (2, .ref (mA G 108)), (3, .ref (mA G 109)), (4, .ref (mA G 110))] 19 [] := by
  obtain ⟨hC9, hW, hH9, hHs9, hTx9, hP09⟩ := id hI
  have hT := hW.1
  obtain ⟨hn1, hn16, hb4, ⟨hd0, hd3, hd5, hd6⟩, hpar⟩ := id hT
  have h8 := hE.le
  refine r_aload_n C dL_isSo_19 3 rfl ?_
  refine r_bipush (v := 7) C dL_isSo_20 rfl ?_
  refine r_lS (As := [.ref (mA G 0), .int 7]) (rest := []) C dL_isSo_22 w_L_119 (c_L_valueOf_ok l G hG M g V Hs len T hI 7 (by decide)) (Nat.le_of_ble_eq_true rfl) (Nat.le_of_ble_eq_true rfl) rfl rfl (Nat.le_of_ble_eq_true rfl) (Nat.le_of_ble_eq_true rfl) (Nat.le_of_ble_eq_true rfl) (pk_I ?_)
  refine r_aload C dL_isSo_25 7 rfl ?_
  refine r_bipush (v := 38) C dL_isSo_27 rfl ?_
  refine r_ialdN (j := 38) (v := ndF V) C dL_isSo_29 rfl (rfl) (by omega) (by decide) (hO.nd) ?_
  refine r_icmp_ne (tgt := 105) C dL_isSo_30 (by decide) (fun h => absurd (rfl) h) (fun _ => ?_)
  refine r_aload_n C dL_isSo_33 3 rfl ?_
  refine r_bipush (v := 8) C dL_isSo_34 rfl ?_
  refine r_lS (As := [.ref (mA G 0), .int 8]) (rest := []) C dL_isSo_36 w_L_119 (c_L_valueOf_ok l G hG M g V Hs len T hI 8 (by decide)) (Nat.le_of_ble_eq_true rfl) (Nat.le_of_ble_eq_true rfl) rfl rfl (Nat.le_of_ble_eq_true rfl) (Nat.le_of_ble_eq_true rfl) (Nat.le_of_ble_eq_true rfl) (pk_I ?_)
  refine r_aload C dL_isSo_39 7 rfl ?_
  refine r_bipush (v := 36) C dL_isSo_41 rfl ?_
  refine r_ialdN (j := 36) (v := unmetF V (ndF V)) C dL_isSo_43 rfl (rfl) (by omega) (by decide) (hO.un) ?_
  refine r_icmp_ne (tgt := 105) C dL_isSo_44 (by decide) (fun h => absurd (rfl) h) (fun _ => ?_)
  refine r_aload_n C dL_isSo_47 3 rfl ?_
  refine r_bipush (v := 9) C dL_isSo_48 rfl ?_
  refine r_lS (As := [.ref (mA G 0), .int 9]) (rest := []) C dL_isSo_50 w_L_119 (c_L_valueOf_ok l G hG M g V Hs len T hI 9 (by decide)) (Nat.le_of_ble_eq_true rfl) (Nat.le_of_ble_eq_true rfl) rfl rfl (Nat.le_of_ble_eq_true rfl) (Nat.le_of_ble_eq_true rfl) (Nat.le_of_ble_eq_true rfl) (pk_I ?_)
  refine r_aload C dL_isSo_53 7 rfl ?_
  refine r_bipush (v := 37) C dL_isSo_55 rfl ?_
  refine r_ialdN (j := 37) (v := costF V (ndF V)) C dL_isSo_57 rfl (rfl) (by omega) (by decide) (hO.co) ?_
  refine r_icmp_ne (tgt := 105) C dL_isSo_58 (by decide) (fun h => absurd (rfl) h) (fun _ => ?_)
  refine r_aload_n C dL_isSo_61 3 rfl ?_
  refine r_bipush (v := 10) C dL_isSo_62 rfl ?_
  refine r_lS (As := [.ref (mA G 0), .int 10]) (rest := []) C dL_isSo_64 w_L_119 (c_L_valueOf_ok l G hG M g V Hs len T hI 10 (by decide)) (Nat.le_of_ble_eq_true rfl) (Nat.le_of_ble_eq_true rfl) rfl rfl (Nat.le_of_ble_eq_true rfl) (Nat.le_of_ble_eq_true rfl) (Nat.le_of_ble_eq_true rfl) (pk_I ?_)
  refine r_aload_n C dL_isSo_67 4 rfl ?_
  refine r_bipush (v := 7) C dL_isSo_68 rfl ?_
  refine r_ialdN (j := 7) (v := vS V 7) C dL_isSo_70 rfl (rfl) (by omega) (by decide) (hE.c) ?_
  refine r_icmp_ne (tgt := 105) C dL_isSo_71 (by decide) (fun h => absurd (rfl) h) (fun _ => ?_)
  refine r_aload_n C dL_isSo_74 3 rfl ?_
  refine r_bipush (v := 11) C dL_isSo_75 rfl ?_
  refine r_lS (As := [.ref (mA G 0), .int 11]) (rest := []) C dL_isSo_77 w_L_119 (c_L_valueOf_ok l G hG M g V Hs len T hI 11 (by decide)) (Nat.le_of_ble_eq_true rfl) (Nat.le_of_ble_eq_true rfl) rfl rfl (Nat.le_of_ble_eq_true rfl) (Nat.le_of_ble_eq_true rfl) (Nat.le_of_ble_eq_true rfl) (pk_I ?_)
  refine r_aload_n C dL_isSo_80 4 rfl ?_
  refine r_bipush (v := 8) C dL_isSo_81 rfl ?_
  refine r_ialdN (j := 8) (v := vS V 8) C dL_isSo_83 rfl (rfl) (by omega) (by decide) (hE.h) ?_
  refine r_icmp_ne (tgt := 105) C dL_isSo_84 (by decide) (fun h => absurd (rfl) h) (fun _ => ?_)
  refine r_aload_n C dL_isSo_87 3 rfl ?_
  refine r_bipush (v := 13) C dL_isSo_88 rfl ?_
  refine r_lS (As := [.ref (mA G 0), .int 13]) (rest := []) C dL_isSo_90 w_L_119 (c_L_valueOf_ok l G hG M g V Hs len T hI 13 (by decide)) (Nat.le_of_ble_eq_true rfl) (Nat.le_of_ble_eq_true rfl) rfl rfl (Nat.le_of_ble_eq_true rfl) (Nat.le_of_ble_eq_true rfl) (Nat.le_of_ble_eq_true rfl) (pk_I ?_)
  refine r_aload C dL_isSo_93 7 rfl ?_
  refine r_bipush (v := 24) C dL_isSo_95 rfl ?_
  refine r_ialdN (j := 24) (v := backF V (vSup V) 0) C dL_isSo_97 rfl (rfl) (by omega) (by decide) (hO.bk (j := 0) (by omega)) ?_
  refine r_icmp_ne (tgt := 105) C dL_isSo_98 (by decide) (fun h => absurd (rfl) h) (fun _ => ?_)
  refine r_iconst (v := 1) C dL_isSo_101 rfl ?_
  refine r_goto (tgt := 106) C dL_isSo_102 (by decide) ?_
  refine r_istore (L' := [(8, .int 1), (7, .ref (mA G 111)), (6, .int 0), (5, .int 0), (0, .ref (mA G 0)), (1, .ref (mA G 107)), (2, .ref (mA G 108)), (3, .ref (mA G 109)), (4, .ref (mA G 110))]) C dL_isSo_106 (by decide) rfl ?_
  refine r_iconst (v := nI 0) C dL_isSo_108 rfl ?_
  refine r_istore (L' := [(9, .int (nI 0)), (8, .int 1), (7, .ref (mA G 111)), (6, .int 0), (5, .int 0), (0, .ref (mA G 0)), (1, .ref (mA G 107)), (2, .ref (mA G 108)), (3, .ref (mA G 109)), (4, .ref (mA G 110))]) C dL_isSo_109 (by decide) rfl ?_
  have lp111 : ∀ (fu : Nat) (k : Nat), (k ≤ 7) → (7 - k) < fu → At p l e (rmD 9 5 27) s m args below meth c G 14 1 3 Q M g [(9, .int (nI k)), (8, .int 1), (7, .ref (mA G 111)), (6, .int 0), (5, .int 0), (0, .ref (mA G 0)), (1, .ref (mA G 107)), (2, .ref (mA G 108)), (3, .ref (mA G 109)), (4, .ref (mA G 110))] 111 [] := by
    intro fu
    induction fu with
    | zero => intro k hk7 hfu; exact absurd hfu (Nat.not_lt_zero _)
    | succ fu ih111 =>
      intro k hk7 hfu111
      refine r_iload C dL_isSo_111 0 rfl ?_
      refine r_bipush (v := 7) C dL_isSo_113 rfl ?_
      refine r_icmp_ge (tgt := 149) C dL_isSo_115 (by decide) (fun c115 => ?_) (fun c115 => ?_)
      ·
        have hk2 : k = 7 := by have := le_of_le (a := 7) (by decide) (by omega) c115; omega
        refine r_sub (L' := [(8, .int 1), (7, .ref (mA G 111)), (6, .int 0), (5, .int 0), (0, .ref (mA G 0)), (1, .ref (mA G 107)), (2, .ref (mA G 108)), (3, .ref (mA G 109)), (4, .ref (mA G 110))]) [1, 2, 3, 4, 5, 6, 7, 8, 9] rfl ?_
        exact next 
      ·
        have hklt : k < 7 := lt_of_nle (b := 7) (by omega) c115
        refine r_iload C dL_isSo_118 1 rfl ?_
        refine r_if_eq (tgt := 140) C dL_isSo_120 (by decide) (fun h => absurd h (by decide)) (fun _ => ?_)
        refine r_aload_n C dL_isSo_123 5 rfl ?_
        refine r_iload C dL_isSo_124 0 rfl ?_
        refine r_lS (As := [.ref (mA G 0), .int (nI k)]) (rest := []) C dL_isSo_126 w_L_119 (c_L_valueOf_ok l G hG M g V Hs len T hI k (by omega)) (Nat.le_of_ble_eq_true rfl) (Nat.le_of_ble_eq_true rfl) rfl rfl (Nat.le_of_ble_eq_true rfl) (Nat.le_of_ble_eq_true rfl) (Nat.le_of_ble_eq_true rfl) (pk_I ?_)
        refine r_aload_n C dL_isSo_129 6 rfl ?_
        refine r_iload C dL_isSo_130 0 rfl ?_
        refine r_ialdN (j := k) (v := valF V k) C dL_isSo_132 rfl (rfl) (by omega) (by decide) (hE.val hklt) ?_
        refine r_icmp_ne (tgt := 140) C dL_isSo_133 (by decide) (fun h => absurd (rfl) h) (fun _ => ?_)
        refine r_iconst (v := 1) C dL_isSo_136 rfl ?_
        refine r_goto (tgt := 141) C dL_isSo_137 (by decide) ?_
        refine r_istore (L' := [(8, .int 1), (9, .int (nI k)), (7, .ref (mA G 111)), (6, .int 0), (5, .int 0), (0, .ref (mA G 0)), (1, .ref (mA G 107)), (2, .ref (mA G 108)), (3, .ref (mA G 109)), (4, .ref (mA G 110))]) C dL_isSo_141 (by decide) rfl ?_
        refine r_iinc (v := nI (k + 1)) (L' := [(9, .int (nI (k + 1))), (8, .int 1), (7, .ref (mA G 111)), (6, .int 0), (5, .int 0), (0, .ref (mA G 0)), (1, .ref (mA G 107)), (2, .ref (mA G 108)), (3, .ref (mA G 109)), (4, .ref (mA G 110))]) C dL_isSo_143 1 rfl (nI_inc _) (by decide) rfl ?_
        refine r_goto (tgt := 111) C dL_isSo_146 (by decide) ?_
        refine r_sub (L' := [(9, .int (nI (k + 1))), (8, .int 1), (7, .ref (mA G 111)), (6, .int 0), (5, .int 0), (0, .ref (mA G 0)), (1, .ref (mA G 107)), (2, .ref (mA G 108)), (3, .ref (mA G 109)), (4, .ref (mA G 110))]) [0, 1, 2, 3, 4, 5, 6, 7, 8, 9] rfl ?_
        exact ih111 (k + 1) (by omega) (by omega)
  refine r_sub (L' := [(9, .int (nI 0)), (8, .int 1), (7, .ref (mA G 111)), (6, .int 0), (5, .int 0), (0, .ref (mA G 0)), (1, .ref (mA G 107)), (2, .ref (mA G 108)), (3, .ref (mA G 109)), (4, .ref (mA G 110))]) [0, 1, 2, 3, 4, 5, 6, 7, 8, 9] rfl ?_
  exact lp111 _ 0 (by omega) (Nat.lt_succ_self _)

set_option maxRecDepth 20000 in
set_option maxHeartbeats 8000000 in
theorem is_b {p : Program} {l : Launch} {e : Env} {s : State} {m : MethodId} {args : Array Value} {below : List Frame} {meth : Method} {c : Code} {G : mG} {Q : State → Prop} {M : Mem} {g : Glo} (hG : mInj G) (C : mCx p s m args c cL_isSo 14 RL G) (hS3 : nP G = 112) (V : View) (Hs : List View) (len : Nat) (T : Nat → Int32) (hI : cINV M V Hs len T) (hE : eOK M V) (hO : tOK (M 110) V) (f : Nat → Int32) (hf0 : ∀ w, w < 3 → f w = 0) (next : ∀ (a b : Int32) (f : Nat → Int32), a = sumP (vD V 6) (vN V) → b = sumP (vD V 7) (vN V) → (∀ w, w < 3 → f w = sumF V w) → At p l e (rmD 9 5 27) s m args below meth c G 14 1 3 Q (mrow M 111 f) g [(8, .int 1), (7, .ref (mA G 111)), (6, .int b), (5, .int a), (0, .ref (mA G 0)), (1, .ref (mA G 107)), (2, .ref (mA G 108)), (3, .ref (mA G 109)), (4, .ref (mA G 110))] 705 []) : At p l e (rmD 9 5 27) s m args below meth c G 14 1 3 Q (mrow M 111 f) g [(8, .int 1), (7, .ref (mA G 111)), (6, .int 0), (5, .int 0), (0, .ref (mA G 0)), (1, .ref (mA G 107)), (2, .ref (mA G 108)), (3, .ref (mA G 109)), (4, .ref (mA G 110))] 149 [] := by
  obtain ⟨hC9, hW, hH9, hHs9, hTx9, hP09⟩ := id hI
  have hT := hW.1
  obtain ⟨hn1, hn16, hb4, ⟨hd0, hd3, hd5, hd6⟩, hpar⟩ := id hT
  have h8 := hE.le
  refine r_iconst (v := nI 0) C dL_isSo_149 rfl ?_
  refine r_istore (L' := [(9, .int (nI 0)), (8, .int 1), (7, .ref (mA G 111)), (6, .int 0), (5, .int 0), (0, .ref (mA G 0)), (1, .ref (mA G 107)), (2, .ref (mA G 108)), (3, .ref (mA G 109)), (4, .ref (mA G 110))]) C dL_isSo_150 (by decide) rfl ?_
  have lp152 : ∀ (fu : Nat) (k : Nat) (a b : Int32) (f : Nat → Int32), (k ≤ vN V) → (a = sumP (vD V 6) k) → (b = sumP (vD V 7) k) → (∀ w, w < 3 → f w = sumP (fun j => heatF V j w) k) → (vN V - k) < fu → At p l e (rmD 9 5 27) s m args below meth c G 14 1 3 Q (mrow M 111 f) g [(9, .int (nI k)), (8, .int 1), (7, .ref (mA G 111)), (6, .int b), (5, .int a), (0, .ref (mA G 0)), (1, .ref (mA G 107)), (2, .ref (mA G 108)), (3, .ref (mA G 109)), (4, .ref (mA G 110))] 152 [] := by
    intro fu
    induction fu with
    | zero => intro k a b f hkn ha hb hf hfu; exact absurd hfu (Nat.not_lt_zero _)
    | succ fu ih152 =>
      intro k a b f hkn ha hb hf hfu152
      refine r_iload C dL_isSo_152 0 rfl ?_
      refine r_aload_n C dL_isSo_154 6 rfl ?_
      refine r_iconst (v := 5) C dL_isSo_155 rfl ?_
      refine r_ialdN (j := 5) (v := nI (vN V)) C dL_isSo_156 rfl (rfl) (by omega) (by decide) ((hE.row1 _).n) ?_
      refine r_icmp_ge (tgt := 705) C dL_isSo_157 (by decide) (fun c157 => ?_) (fun c157 => ?_)
      ·
        have hk2 : k = vN V := by have := le_of_le (by omega) (by omega) c157; omega
        refine r_sub (L' := [(8, .int 1), (7, .ref (mA G 111)), (6, .int b), (5, .int a), (0, .ref (mA G 0)), (1, .ref (mA G 107)), (2, .ref (mA G 108)), (3, .ref (mA G 109)), (4, .ref (mA G 110))]) [1, 2, 3, 4, 5, 6, 7, 8, 9] rfl ?_
        exact next a b f (by rw [ha, hk2]) (by rw [hb, hk2]) (fun w hw => by rw [hf w hw, hk2]; rfl)
      ·
        have hlt : k < vN V := lt_of_nle (by omega) c157
        refine r_iload C dL_isSo_160 1 rfl ?_
        refine r_if_eq (tgt := 705) C dL_isSo_162 (by decide) (fun h => absurd h (by decide)) (fun _ => ?_)
        refine r_iconst (v := 0) C dL_isSo_165 rfl ?_
        refine r_istore (L' := [(10, .int 0), (9, .int (nI k)), (8, .int 1), (7, .ref (mA G 111)), (6, .int b), (5, .int a), (0, .ref (mA G 0)), (1, .ref (mA G 107)), (2, .ref (mA G 108)), (3, .ref (mA G 109)), (4, .ref (mA G 110))]) C dL_isSo_166 (by decide) rfl ?_
        refine r_iconst (v := 0) C dL_isSo_168 rfl ?_
        refine r_istore (L' := [(11, .int 0), (10, .int 0), (9, .int (nI k)), (8, .int 1), (7, .ref (mA G 111)), (6, .int b), (5, .int a), (0, .ref (mA G 0)), (1, .ref (mA G 107)), (2, .ref (mA G 108)), (3, .ref (mA G 109)), (4, .ref (mA G 110))]) C dL_isSo_169 (by decide) rfl ?_
        refine r_iconst (v := nI 0) C dL_isSo_171 rfl ?_
        refine r_istore (L' := [(12, .int (nI 0)), (11, .int 0), (10, .int 0), (9, .int (nI k)), (8, .int 1), (7, .ref (mA G 111)), (6, .int b), (5, .int a), (0, .ref (mA G 0)), (1, .ref (mA G 107)), (2, .ref (mA G 108)), (3, .ref (mA G 109)), (4, .ref (mA G 110))]) C dL_isSo_172 (by decide) rfl ?_
        have lp174 : ∀ (fu : Nat) (i : Nat) (x y : Int32), (i ≤ vN V) → (x = sumP (fun t => b2i (decide (vD V 0 t = nI k))) i) → (y = sumA (fun t => b2i (belF V k t)) i) → (vN V - i) < fu → At p l e (rmD 9 5 27) s m args below meth c G 14 1 3 Q (mrow M 111 f) g [(12, .int (nI i)), (11, .int y), (10, .int x), (9, .int (nI k)), (8, .int 1), (7, .ref (mA G 111)), (6, .int b), (5, .int a), (0, .ref (mA G 0)), (1, .ref (mA G 107)), (2, .ref (mA G 108)), (3, .ref (mA G 109)), (4, .ref (mA G 110))] 174 [] := by
          intro fu
          induction fu with
          | zero => intro i x y hin hx hy hfu; exact absurd hfu (Nat.not_lt_zero _)
          | succ fu ih174 =>
            intro i x y hin hx hy hfu174
            refine r_iload C dL_isSo_174 0 rfl ?_
            refine r_aload_n C dL_isSo_176 9 rfl ?_
            refine r_iconst (v := 5) C dL_isSo_177 rfl ?_
            refine r_ialdN (j := 5) (v := nI (vN V)) C dL_isSo_178 rfl (rfl) (by omega) (by decide) ((hE.row1 _).n) ?_
            refine r_icmp_ge (tgt := 236) C dL_isSo_179 (by decide) (fun c179 => ?_) (fun c179 => ?_)
            ·
              have hi2 : i = vN V := by have := le_of_le (by omega) (by omega) c179; omega
              refine r_aload_n C dL_isSo_236 8 rfl ?_
              refine r_iload C dL_isSo_237 3 rfl ?_
              refine r_iconst (v := 0) C dL_isSo_239 rfl ?_
              refine r_lS (As := [.ref (mA G 0), .int (nI k), .int 0]) (rest := []) C dL_isSo_240 w_L_122 (c_L_nodeOf_ok l G hG (mrow M 111 f) g V Hs len T (hI.lw (offR.row _ (by decide) (by decide))) k 0 hlt (by decide)) (Nat.le_of_ble_eq_true rfl) (Nat.le_of_ble_eq_true rfl) rfl rfl (Nat.le_of_ble_eq_true rfl) (Nat.le_of_ble_eq_true rfl) (Nat.le_of_ble_eq_true rfl) (pk_I ?_)
              refine r_iload C dL_isSo_243 3 rfl ?_
              refine r_if_ne (tgt := 252) C dL_isSo_245 (by decide) (fun c245 => ?_) (fun c245 => ?_)
              ·
                have hkz : ¬ k = 0 := fun z => c245 (by rw [z]; rfl)
                have hk0 : 0 < k := by omega
                have hpk := hpar k hk0 hlt
                refine r_aload_n C dL_isSo_252 10 rfl ?_
                refine r_bipush (v := 8) C dL_isSo_253 rfl ?_
                refine r_iload C dL_isSo_255 3 rfl ?_
                refine r_imul C dL_isSo_257 ?_
                refine r_valI (y := nI (8 * k)) (pk_mul 8 k) ?_
                refine r_ialdN (j := 8 * k) (v := vD V 0 k) C dL_isSo_258 rfl (rfl) (by omega) (by decide) ((hE.row1 _).e0 k hk0 hlt) ?_
                refine r_icmp_ne (tgt := 376) C dL_isSo_259 (by decide) (fun h => absurd (rfl) h) (fun _ => ?_)
                refine r_aload_n C dL_isSo_262 8 rfl ?_
                refine r_iload C dL_isSo_263 3 rfl ?_
                refine r_bipush (v := 6) C dL_isSo_265 rfl ?_
                refine r_lS (As := [.ref (mA G 0), .int (nI k), .int 6]) (rest := []) C dL_isSo_267 w_L_122 (c_L_nodeOf_ok l G hG (mrow M 111 f) g V Hs len T (hI.lw (offR.row _ (by decide) (by decide))) k 6 hlt (by decide)) (Nat.le_of_ble_eq_true rfl) (Nat.le_of_ble_eq_true rfl) rfl rfl (Nat.le_of_ble_eq_true rfl) (Nat.le_of_ble_eq_true rfl) (Nat.le_of_ble_eq_true rfl) (pk_I ?_)
                refine r_aload C dL_isSo_270 12 rfl ?_
                refine r_iload C dL_isSo_272 3 rfl ?_
                refine r_ialdN (j := k) (v := flowF V k) C dL_isSo_274 rfl (rfl) (by omega) (by decide) (by rw [mrow_ne (by omega)]; exact hO.fl hlt) ?_
                refine r_icmp_ne (tgt := 376) C dL_isSo_275 (by decide) (fun h => absurd (rfl) h) (fun _ => ?_)
                refine r_aload_n C dL_isSo_278 8 rfl ?_
                refine r_iload C dL_isSo_279 3 rfl ?_
                refine r_bipush (v := 7) C dL_isSo_281 rfl ?_
                refine r_lS (As := [.ref (mA G 0), .int (nI k), .int 7]) (rest := []) C dL_isSo_283 w_L_122 (c_L_nodeOf_ok l G hG (mrow M 111 f) g V Hs len T (hI.lw (offR.row _ (by decide) (by decide))) k 7 hlt (by decide)) (Nat.le_of_ble_eq_true rfl) (Nat.le_of_ble_eq_true rfl) rfl rfl (Nat.le_of_ble_eq_true rfl) (Nat.le_of_ble_eq_true rfl) (Nat.le_of_ble_eq_true rfl) (pk_I ?_)
                refine r_aload C dL_isSo_286 12 rfl ?_
                refine r_bipush (v := 8) C dL_isSo_288 rfl ?_
                refine r_iload C dL_isSo_290 3 rfl ?_
                refine r_iadd C dL_isSo_292 ?_
                refine r_valI (y := nI (8 + k)) (nI_add 8 k) ?_
                refine r_ialdN (j := 8 + k) (v := warmF V (vSup V) k) C dL_isSo_293 rfl (rfl) (by omega) (by decide) (by rw [mrow_ne (by omega)]; exact hO.wm hlt) ?_
                refine r_icmp_ne (tgt := 376) C dL_isSo_294 (by decide) (fun h => absurd (rfl) h) (fun _ => ?_)
                refine r_aload_n C dL_isSo_297 8 rfl ?_
                refine r_iload C dL_isSo_298 3 rfl ?_
                refine r_bipush (v := 8) C dL_isSo_300 rfl ?_
                refine r_lS (As := [.ref (mA G 0), .int (nI k), .int 8]) (rest := []) C dL_isSo_302 w_L_122 (c_L_nodeOf_ok l G hG (mrow M 111 f) g V Hs len T (hI.lw (offR.row _ (by decide) (by decide))) k 8 hlt (by decide)) (Nat.le_of_ble_eq_true rfl) (Nat.le_of_ble_eq_true rfl) rfl rfl (Nat.le_of_ble_eq_true rfl) (Nat.le_of_ble_eq_true rfl) (Nat.le_of_ble_eq_true rfl) (pk_I ?_)
                refine r_iload C dL_isSo_305 3 rfl ?_
                refine r_if_ne (tgt := 314) C dL_isSo_307 (by decide) (fun _ => ?_) (fun h => absurd h (c245))
                refine r_aload C dL_isSo_314 12 rfl ?_
                refine r_bipush (v := 16) C dL_isSo_316 rfl ?_
                refine r_iload C dL_isSo_318 3 rfl ?_
                refine r_iadd C dL_isSo_320 ?_
                refine r_valI (y := nI (16 + k)) (nI_add 16 k) ?_
                refine r_ialdN (j := 16 + k) (v := rF V (vSup V) k) C dL_isSo_321 rfl (rfl) (by omega) (by decide) (by rw [mrow_ne (by omega)]; exact hO.rt hk0 hlt) ?_
                refine r_icmp_ne (tgt := 376) C dL_isSo_322 (by decide) (fun h => absurd (by rw [nodeF_8, if_neg hkz]) h) (fun _ => ?_)
                refine r_aload_n C dL_isSo_325 8 rfl ?_
                refine r_iload C dL_isSo_326 3 rfl ?_
                refine r_bipush (v := 9) C dL_isSo_328 rfl ?_
                refine r_lS (As := [.ref (mA G 0), .int (nI k), .int 9]) (rest := []) C dL_isSo_330 w_L_122 (c_L_nodeOf_ok l G hG (mrow M 111 f) g V Hs len T (hI.lw (offR.row _ (by decide) (by decide))) k 9 hlt (by decide)) (Nat.le_of_ble_eq_true rfl) (Nat.le_of_ble_eq_true rfl) rfl rfl (Nat.le_of_ble_eq_true rfl) (Nat.le_of_ble_eq_true rfl) (Nat.le_of_ble_eq_true rfl) (pk_I ?_)
                refine r_iload C dL_isSo_333 2 rfl ?_
                refine r_icmp_ne (tgt := 376) C dL_isSo_335 (by decide) (fun h => absurd (by rw [hx, hi2]; rfl) h) (fun _ => ?_)
                refine r_aload_n C dL_isSo_338 8 rfl ?_
                refine r_iload C dL_isSo_339 3 rfl ?_
                refine r_bipush (v := 10) C dL_isSo_341 rfl ?_
                refine r_lS (As := [.ref (mA G 0), .int (nI k), .int 10]) (rest := []) C dL_isSo_343 w_L_122 (c_L_nodeOf_ok l G hG (mrow M 111 f) g V Hs len T (hI.lw (offR.row _ (by decide) (by decide))) k 10 hlt (by decide)) (Nat.le_of_ble_eq_true rfl) (Nat.le_of_ble_eq_true rfl) rfl rfl (Nat.le_of_ble_eq_true rfl) (Nat.le_of_ble_eq_true rfl) (Nat.le_of_ble_eq_true rfl) (pk_I ?_)
                refine r_iload C dL_isSo_346 1 rfl ?_
                refine r_icmp_ne (tgt := 376) C dL_isSo_348 (by decide) (fun h => absurd (by rw [hy, hi2, branch_eq hT hlt]; rfl) h) (fun _ => ?_)
                refine r_aload_n C dL_isSo_351 8 rfl ?_
                refine r_iload C dL_isSo_352 3 rfl ?_
                refine r_bipush (v := 11) C dL_isSo_354 rfl ?_
                refine r_lS (As := [.ref (mA G 0), .int (nI k), .int 11]) (rest := []) C dL_isSo_356 w_L_122 (c_L_nodeOf_ok l G hG (mrow M 111 f) g V Hs len T (hI.lw (offR.row _ (by decide) (by decide))) k 11 hlt (by decide)) (Nat.le_of_ble_eq_true rfl) (Nat.le_of_ble_eq_true rfl) rfl rfl (Nat.le_of_ble_eq_true rfl) (Nat.le_of_ble_eq_true rfl) (Nat.le_of_ble_eq_true rfl) (pk_I ?_)
                refine r_aload_n C dL_isSo_359 10 rfl ?_
                refine r_bipush (v := 8) C dL_isSo_360 rfl ?_
                refine r_iload C dL_isSo_362 3 rfl ?_
                refine r_imul C dL_isSo_364 ?_
                refine r_valI (y := nI (8 * k)) (pk_mul 8 k) ?_
                refine r_bipush (v := 7) C dL_isSo_365 rfl ?_
                refine r_iadd C dL_isSo_367 ?_
                refine r_valI (y := nI (8 * k + 7)) (nI_add (8 * k) 7) ?_
                refine r_ialdN (j := 8 * k + 7) (v := vD V 7 k) C dL_isSo_368 rfl (rfl) (by omega) (by decide) ((hE.row1 _).e k 7 hlt (by decide) (by omega)) ?_
                refine r_icmp_ne (tgt := 376) C dL_isSo_369 (by decide) (fun h => absurd (rfl) h) (fun _ => ?_)
                refine r_iconst (v := 1) C dL_isSo_372 rfl ?_
                refine r_goto (tgt := 377) C dL_isSo_373 (by decide) ?_
                refine r_istore (L' := [(8, .int 1), (12, .int (nI i)), (11, .int y), (10, .int x), (9, .int (nI k)), (7, .ref (mA G 111)), (6, .int b), (5, .int a), (0, .ref (mA G 0)), (1, .ref (mA G 107)), (2, .ref (mA G 108)), (3, .ref (mA G 109)), (4, .ref (mA G 110))]) C dL_isSo_377 (by decide) rfl ?_
                refine r_iconst (v := nI 1) C dL_isSo_379 rfl ?_
                refine r_istore (L' := [(12, .int (nI 1)), (8, .int 1), (11, .int y), (10, .int x), (9, .int (nI k)), (7, .ref (mA G 111)), (6, .int b), (5, .int a), (0, .ref (mA G 0)), (1, .ref (mA G 107)), (2, .ref (mA G 108)), (3, .ref (mA G 109)), (4, .ref (mA G 110))]) C dL_isSo_380 (by decide) rfl ?_
                have lp382 : ∀ (fu : Nat) (i : Nat), (0 < i) → (i ≤ 6) → (6 - i) < fu → At p l e (rmD 9 5 27) s m args below meth c G 14 1 3 Q (mrow M 111 f) g [(12, .int (nI i)), (9, .int (nI k)), (8, .int 1), (7, .ref (mA G 111)), (6, .int b), (5, .int a), (0, .ref (mA G 0)), (1, .ref (mA G 107)), (2, .ref (mA G 108)), (3, .ref (mA G 109)), (4, .ref (mA G 110))] 382 [] := by
                  intro fu
                  induction fu with
                  | zero => intro i hi60 hi66 hfu; exact absurd hfu (Nat.not_lt_zero _)
                  | succ fu ih382 =>
                    intro i hi60 hi66 hfu382
                    refine r_iload C dL_isSo_382 0 rfl ?_
                    refine r_bipush (v := 6) C dL_isSo_384 rfl ?_
                    refine r_icmp_ge (tgt := 428) C dL_isSo_386 (by decide) (fun c386 => ?_) (fun c386 => ?_)
                    ·
                      have hi6 : i = 6 := by have := le_of_le (a := 6) (by decide) (by omega) c386; omega
                      refine r_iload C dL_isSo_428 1 rfl ?_
                      refine r_if_le (tgt := 699) C dL_isSo_430 (by decide) (fun h => absurd h (nI_nle hk0 (by omega))) (fun _ => ?_)
                      refine r_aload C dL_isSo_433 10 rfl ?_
                      refine r_bipush (v := 8) C dL_isSo_435 rfl ?_
                      refine r_aload_n C dL_isSo_437 8 rfl ?_
                      refine r_bipush (v := 8) C dL_isSo_438 rfl ?_
                      refine r_iload C dL_isSo_440 1 rfl ?_
                      refine r_imul C dL_isSo_442 ?_
                      refine r_valI (y := nI (8 * k)) (pk_mul 8 k) ?_
                      refine r_ialdN (j := 8 * k) (v := nI (vP V k)) C dL_isSo_443 rfl (rfl) (by omega) (by decide) ((hE.row1 _).par hT k hk0 hlt) ?_
                      refine r_iadd C dL_isSo_444 ?_
                      refine r_valI (y := nI (8 + vP V k)) (nI_add 8 (vP V k)) ?_
                      refine r_ialdN (j := 8 + (vP V k)) (v := warmF V (vSup V) (vP V k)) C dL_isSo_445 rfl (rfl) (by omega) (by decide) (by rw [mrow_ne (by omega)]; exact hO.wm (by omega)) ?_
                      refine r_istore (L' := [(12, .int (warmF V (vSup V) (vP V k))), (9, .int (nI k)), (8, .int 1), (7, .ref (mA G 111)), (6, .int b), (5, .int a), (0, .ref (mA G 0)), (1, .ref (mA G 107)), (2, .ref (mA G 108)), (3, .ref (mA G 109)), (4, .ref (mA G 110))]) C dL_isSo_446 (by decide) rfl ?_
                      refine r_aload_n C dL_isSo_448 8 rfl ?_
                      refine r_bipush (v := 8) C dL_isSo_449 rfl ?_
                      refine r_iload C dL_isSo_451 1 rfl ?_
                      refine r_imul C dL_isSo_453 ?_
                      refine r_valI (y := nI (8 * k)) (pk_mul 8 k) ?_
                      refine r_iconst (v := 3) C dL_isSo_454 rfl ?_
                      refine r_iadd C dL_isSo_455 ?_
                      refine r_valI (y := nI (8 * k + 3)) (nI_add (8 * k) 3) ?_
                      refine r_ialdN (j := 8 * k + 3) (v := vD V 3 k) C dL_isSo_456 rfl (rfl) (by omega) (by decide) ((hE.row1 _).e k 3 hlt (by decide) (by omega)) ?_
                      refine r_aload C dL_isSo_457 10 rfl ?_
                      refine r_bipush (v := 8) C dL_isSo_459 rfl ?_
                      refine r_iload C dL_isSo_461 1 rfl ?_
                      refine r_iadd C dL_isSo_463 ?_
                      refine r_valI (y := nI (8 + k)) (nI_add 8 k) ?_
                      refine r_ialdN (j := 8 + k) (v := warmF V (vSup V) k) C dL_isSo_464 rfl (rfl) (by omega) (by decide) (by rw [mrow_ne (by omega)]; exact hO.wm hlt) ?_
                      refine r_aload C dL_isSo_465 10 rfl ?_
                      refine r_bipush (v := 16) C dL_isSo_467 rfl ?_
                      refine r_iload C dL_isSo_469 1 rfl ?_
                      refine r_iadd C dL_isSo_471 ?_
                      refine r_valI (y := nI (16 + k)) (nI_add 16 k) ?_
                      refine r_ialdN (j := 16 + k) (v := rF V (vSup V) k) C dL_isSo_472 rfl (rfl) (by omega) (by decide) (by rw [mrow_ne (by omega)]; exact hO.rt hk0 hlt) ?_
                      refine r_isub C dL_isSo_473 ?_
                      refine r_imul C dL_isSo_474 ?_
                      refine r_valI (y := delF V k) (rfl) ?_
                      refine r_istore (L' := [(13, .int (delF V k)), (12, .int (warmF V (vSup V) (vP V k))), (9, .int (nI k)), (8, .int 1), (7, .ref (mA G 111)), (6, .int b), (5, .int a), (0, .ref (mA G 0)), (1, .ref (mA G 107)), (2, .ref (mA G 108)), (3, .ref (mA G 109)), (4, .ref (mA G 110))]) C dL_isSo_475 (by decide) rfl ?_
                      refine r_iload C dL_isSo_477 3 rfl ?_
                      refine r_if_eq (tgt := 608) C dL_isSo_479 (by decide) (fun h => absurd h (by decide)) (fun _ => ?_)
                      refine r_aload_n C dL_isSo_482 7 rfl ?_
                      refine r_iload C dL_isSo_483 2 rfl ?_
                      refine r_iconst (v := 0) C dL_isSo_485 rfl ?_
                      refine r_lS (As := [.ref (mA G 0), .int (nI k), .int 0]) (rest := []) C dL_isSo_486 w_L_125 (c_L_heatOf_ok l G hG (mrow M 111 f) g V Hs len T (hI.lw (offR.row _ (by decide) (by decide))) k 0 hk0 hlt (by decide)) (Nat.le_of_ble_eq_true rfl) (Nat.le_of_ble_eq_true rfl) rfl rfl (Nat.le_of_ble_eq_true rfl) (Nat.le_of_ble_eq_true rfl) (Nat.le_of_ble_eq_true rfl) (pk_I ?_)
                      refine r_iload C dL_isSo_489 0 rfl ?_
                      refine r_icmp_ne (tgt := 608) C dL_isSo_491 (by decide) (fun h => absurd (rfl) h) (fun _ => ?_)
                      refine r_aload_n C dL_isSo_494 7 rfl ?_
                      refine r_iload C dL_isSo_495 2 rfl ?_
                      refine r_iconst (v := 1) C dL_isSo_497 rfl ?_
                      refine r_lS (As := [.ref (mA G 0), .int (nI k), .int 1]) (rest := []) C dL_isSo_498 w_L_125 (c_L_heatOf_ok l G hG (mrow M 111 f) g V Hs len T (hI.lw (offR.row _ (by decide) (by decide))) k 1 hk0 hlt (by decide)) (Nat.le_of_ble_eq_true rfl) (Nat.le_of_ble_eq_true rfl) rfl rfl (Nat.le_of_ble_eq_true rfl) (Nat.le_of_ble_eq_true rfl) (Nat.le_of_ble_eq_true rfl) (pk_I ?_)
                      refine r_aload C dL_isSo_501 11 rfl ?_
                      refine r_iload C dL_isSo_503 2 rfl ?_
                      refine r_ialdN (j := k) (v := flowF V k) C dL_isSo_505 rfl (rfl) (by omega) (by decide) (by rw [mrow_ne (by omega)]; exact hO.fl hlt) ?_
                      refine r_iload C dL_isSo_506 1 rfl ?_
                      refine r_aload C dL_isSo_508 11 rfl ?_
                      refine r_bipush (v := 8) C dL_isSo_510 rfl ?_
                      refine r_iload C dL_isSo_512 2 rfl ?_
                      refine r_iadd C dL_isSo_514 ?_
                      refine r_valI (y := nI (8 + k)) (nI_add 8 k) ?_
                      refine r_ialdN (j := 8 + k) (v := warmF V (vSup V) k) C dL_isSo_515 rfl (rfl) (by omega) (by decide) (by rw [mrow_ne (by omega)]; exact hO.wm hlt) ?_
                      refine r_isub C dL_isSo_516 ?_
                      refine r_imul C dL_isSo_517 ?_
                      refine r_icmp_ne (tgt := 608) C dL_isSo_518 (by decide) (fun h => absurd (rfl) h) (fun _ => ?_)
                      refine r_aload_n C dL_isSo_521 7 rfl ?_
                      refine r_iload C dL_isSo_522 2 rfl ?_
                      refine r_iconst (v := 2) C dL_isSo_524 rfl ?_
                      refine r_lS (As := [.ref (mA G 0), .int (nI k), .int 2]) (rest := []) C dL_isSo_525 w_L_125 (c_L_heatOf_ok l G hG (mrow M 111 f) g V Hs len T (hI.lw (offR.row _ (by decide) (by decide))) k 2 hk0 hlt (by decide)) (Nat.le_of_ble_eq_true rfl) (Nat.le_of_ble_eq_true rfl) rfl rfl (Nat.le_of_ble_eq_true rfl) (Nat.le_of_ble_eq_true rfl) (Nat.le_of_ble_eq_true rfl) (pk_I ?_)
                      refine r_aload_n C dL_isSo_528 9 rfl ?_
                      refine r_bipush (v := 8) C dL_isSo_529 rfl ?_
                      refine r_iload C dL_isSo_531 2 rfl ?_
                      refine r_imul C dL_isSo_533 ?_
                      refine r_valI (y := nI (8 * k)) (pk_mul 8 k) ?_
                      refine r_iconst (v := 5) C dL_isSo_534 rfl ?_
                      refine r_iadd C dL_isSo_535 ?_
                      refine r_valI (y := nI (8 * k + 5)) (nI_add (8 * k) 5) ?_
                      refine r_ialdN (j := 8 * k + 5) (v := vD V 5 k) C dL_isSo_536 rfl (rfl) (by omega) (by decide) ((hE.row1 _).e k 5 hlt (by decide) (by omega)) ?_
                      refine r_aload C dL_isSo_537 11 rfl ?_
                      refine r_bipush (v := 8) C dL_isSo_539 rfl ?_
                      refine r_iload C dL_isSo_541 2 rfl ?_
                      refine r_iadd C dL_isSo_543 ?_
                      refine r_valI (y := nI (8 + k)) (nI_add 8 k) ?_
                      refine r_ialdN (j := 8 + k) (v := warmF V (vSup V) k) C dL_isSo_544 rfl (rfl) (by omega) (by decide) (by rw [mrow_ne (by omega)]; exact hO.wm hlt) ?_
                      refine r_imul C dL_isSo_545 ?_
                      refine r_icmp_ne (tgt := 608) C dL_isSo_546 (by decide) (fun h => absurd (rfl) h) (fun _ => ?_)
                      refine r_aload_n C dL_isSo_549 7 rfl ?_
                      refine r_iload C dL_isSo_550 2 rfl ?_
                      refine r_iconst (v := 3) C dL_isSo_552 rfl ?_
                      refine r_lS (As := [.ref (mA G 0), .int (nI k), .int 3]) (rest := []) C dL_isSo_553 w_L_125 (c_L_heatOf_ok l G hG (mrow M 111 f) g V Hs len T (hI.lw (offR.row _ (by decide) (by decide))) k 3 hk0 hlt (by decide)) (Nat.le_of_ble_eq_true rfl) (Nat.le_of_ble_eq_true rfl) rfl rfl (Nat.le_of_ble_eq_true rfl) (Nat.le_of_ble_eq_true rfl) (Nat.le_of_ble_eq_true rfl) (pk_I ?_)
                      refine r_aload C dL_isSo_556 11 rfl ?_
                      refine r_bipush (v := 24) C dL_isSo_558 rfl ?_
                      refine r_iload C dL_isSo_560 2 rfl ?_
                      refine r_iadd C dL_isSo_562 ?_
                      refine r_valI (y := nI (24 + k)) (nI_add 24 k) ?_
                      refine r_ialdN (j := 24 + k) (v := backF V (vSup V) k) C dL_isSo_563 rfl (rfl) (by omega) (by decide) (by rw [mrow_ne (by omega)]; exact hO.bk hlt) ?_
                      refine r_icmp_ne (tgt := 608) C dL_isSo_564 (by decide) (fun h => absurd (rfl) h) (fun _ => ?_)
                      refine r_aload_n C dL_isSo_567 7 rfl ?_
                      refine r_iload C dL_isSo_568 2 rfl ?_
                      refine r_iconst (v := 4) C dL_isSo_570 rfl ?_
                      refine r_lS (As := [.ref (mA G 0), .int (nI k), .int 4]) (rest := []) C dL_isSo_571 w_L_125 (c_L_heatOf_ok l G hG (mrow M 111 f) g V Hs len T (hI.lw (offR.row _ (by decide) (by decide))) k 4 hk0 hlt (by decide)) (Nat.le_of_ble_eq_true rfl) (Nat.le_of_ble_eq_true rfl) rfl rfl (Nat.le_of_ble_eq_true rfl) (Nat.le_of_ble_eq_true rfl) (Nat.le_of_ble_eq_true rfl) (pk_I ?_)
                      refine r_aload C dL_isSo_574 11 rfl ?_
                      refine r_iload C dL_isSo_576 2 rfl ?_
                      refine r_ialdN (j := k) (v := flowF V k) C dL_isSo_578 rfl (rfl) (by omega) (by decide) (by rw [mrow_ne (by omega)]; exact hO.fl hlt) ?_
                      refine r_iload C dL_isSo_579 1 rfl ?_
                      refine r_imul C dL_isSo_581 ?_
                      refine r_icmp_ne (tgt := 608) C dL_isSo_582 (by decide) (fun h => absurd (rfl) h) (fun _ => ?_)
                      refine r_aload_n C dL_isSo_585 7 rfl ?_
                      refine r_iload C dL_isSo_586 2 rfl ?_
                      refine r_iconst (v := 5) C dL_isSo_588 rfl ?_
                      refine r_lS (As := [.ref (mA G 0), .int (nI k), .int 5]) (rest := []) C dL_isSo_589 w_L_125 (c_L_heatOf_ok l G hG (mrow M 111 f) g V Hs len T (hI.lw (offR.row _ (by decide) (by decide))) k 5 hk0 hlt (by decide)) (Nat.le_of_ble_eq_true rfl) (Nat.le_of_ble_eq_true rfl) rfl rfl (Nat.le_of_ble_eq_true rfl) (Nat.le_of_ble_eq_true rfl) (Nat.le_of_ble_eq_true rfl) (pk_I ?_)
                      refine r_aload_n C dL_isSo_592 8 rfl ?_
                      refine r_aload_n C dL_isSo_593 9 rfl ?_
                      refine r_aload C dL_isSo_594 11 rfl ?_
                      refine r_iload C dL_isSo_596 2 rfl ?_
                      refine r_callSI (As := [.ref (mA G 107), .ref (mA G 108), .ref (mA G 110), .int (nI k)]) (rest := [.int (heatF V k 5)]) C dL_isSo_598 s_L_52 (c_L_bill l G hG (mrow M 111 f) g V hW k ((hE.row1 _).e k 3 hlt (by decide) (by omega)) ((hE.row1 _).s 2 (by decide)) ((hE.row1 _).s 3 (by decide)) ((hE.row1 _).s 4 (by decide)) h8 (by rw [mrow_ne (by omega)]; exact hO) hk0 hlt) (by decide) rfl rfl (Nat.le_of_ble_eq_true rfl) (Nat.le_of_ble_eq_true rfl) (Nat.le_of_ble_eq_true rfl) (pk_I ?_)
                      refine r_icmp_ne (tgt := 608) C dL_isSo_601 (by decide) (fun h => absurd (rfl) h) (fun _ => ?_)
                      refine r_iconst (v := 1) C dL_isSo_604 rfl ?_
                      refine r_goto (tgt := 609) C dL_isSo_605 (by decide) ?_
                      refine r_istore (L' := [(8, .int 1), (13, .int (delF V k)), (12, .int (warmF V (vSup V) (vP V k))), (9, .int (nI k)), (7, .ref (mA G 111)), (6, .int b), (5, .int a), (0, .ref (mA G 0)), (1, .ref (mA G 107)), (2, .ref (mA G 108)), (3, .ref (mA G 109)), (4, .ref (mA G 110))]) C dL_isSo_609 (by decide) rfl ?_
                      refine r_iload C dL_isSo_611 6 rfl ?_
                      refine r_aload_n C dL_isSo_613 9 rfl ?_
                      refine r_bipush (v := 8) C dL_isSo_614 rfl ?_
                      refine r_iload C dL_isSo_616 3 rfl ?_
                      refine r_imul C dL_isSo_618 ?_
                      refine r_valI (y := nI (8 * k)) (pk_mul 8 k) ?_
                      refine r_bipush (v := 6) C dL_isSo_619 rfl ?_
                      refine r_iadd C dL_isSo_621 ?_
                      refine r_valI (y := nI (8 * k + 6)) (nI_add (8 * k) 6) ?_
                      refine r_ialdN (j := 8 * k + 6) (v := vD V 6 k) C dL_isSo_622 rfl (rfl) (by omega) (by decide) ((hE.row1 _).e k 6 hlt (by decide) (by omega)) ?_
                      refine r_iadd C dL_isSo_623 ?_
                      refine r_istore (L' := [(5, .int (a + (vD V 6 k))), (8, .int 1), (13, .int (delF V k)), (12, .int (warmF V (vSup V) (vP V k))), (9, .int (nI k)), (7, .ref (mA G 111)), (6, .int b), (0, .ref (mA G 0)), (1, .ref (mA G 107)), (2, .ref (mA G 108)), (3, .ref (mA G 109)), (4, .ref (mA G 110))]) C dL_isSo_624 (by decide) rfl ?_
                      refine r_iload C dL_isSo_626 6 rfl ?_
                      refine r_aload_n C dL_isSo_628 9 rfl ?_
                      refine r_bipush (v := 8) C dL_isSo_629 rfl ?_
                      refine r_iload C dL_isSo_631 4 rfl ?_
                      refine r_imul C dL_isSo_633 ?_
                      refine r_valI (y := nI (8 * k)) (pk_mul 8 k) ?_
                      refine r_bipush (v := 7) C dL_isSo_634 rfl ?_
                      refine r_iadd C dL_isSo_636 ?_
                      refine r_valI (y := nI (8 * k + 7)) (nI_add (8 * k) 7) ?_
                      refine r_ialdN (j := 8 * k + 7) (v := vD V 7 k) C dL_isSo_637 rfl (rfl) (by omega) (by decide) ((hE.row1 _).e k 7 hlt (by decide) (by omega)) ?_
                      refine r_iadd C dL_isSo_638 ?_
                      refine r_istore (L' := [(6, .int (b + (vD V 7 k))), (5, .int (a + (vD V 6 k))), (8, .int 1), (13, .int (delF V k)), (12, .int (warmF V (vSup V) (vP V k))), (9, .int (nI k)), (7, .ref (mA G 111)), (0, .ref (mA G 0)), (1, .ref (mA G 107)), (2, .ref (mA G 108)), (3, .ref (mA G 109)), (4, .ref (mA G 110))]) C dL_isSo_639 (by decide) rfl ?_
                      refine r_aload C dL_isSo_641 6 rfl ?_
                      refine r_iconst (v := 0) C dL_isSo_643 rfl ?_
                      refine r_dup2 C dL_isSo_644 rfl rfl ?_
                      refine r_ialdS (j := 0) (v := f 0) hS3 C dL_isSo_645 rfl (by decide) (by rw [mrow_at]) ?_
                      refine r_iload C dL_isSo_646 3 rfl ?_
                      refine r_iadd C dL_isSo_648 ?_
                      refine r_iastS (j := 0) hS3 C dL_isSo_649 rfl (by decide) ?_
                      refine r_mem (M' := mrow M 111 (upd f 0 ((f 0) + (delF V k)))) (mset_row _ _ _ _ _) ?_
                      refine r_aload C dL_isSo_650 6 rfl ?_
                      refine r_iconst (v := 1) C dL_isSo_652 rfl ?_
                      refine r_dup2 C dL_isSo_653 rfl rfl ?_
                      refine r_ialdS (j := 1) (v := f 1) hS3 C dL_isSo_654 rfl (by decide) (by rw [mrow_at, upd_ne (by omega)]) ?_
                      refine r_aload C dL_isSo_655 11 rfl ?_
                      refine r_iload C dL_isSo_657 5 rfl ?_
                      refine r_ialdN (j := k) (v := flowF V k) C dL_isSo_659 rfl (rfl) (by omega) (by decide) (by rw [mrow_ne (by omega)]; exact hO.fl hlt) ?_
                      refine r_iload C dL_isSo_660 4 rfl ?_
                      refine r_aload C dL_isSo_662 11 rfl ?_
                      refine r_bipush (v := 8) C dL_isSo_664 rfl ?_
                      refine r_iload C dL_isSo_666 5 rfl ?_
                      refine r_iadd C dL_isSo_668 ?_
                      refine r_valI (y := nI (8 + k)) (nI_add 8 k) ?_
                      refine r_ialdN (j := 8 + k) (v := warmF V (vSup V) k) C dL_isSo_669 rfl (rfl) (by omega) (by decide) (by rw [mrow_ne (by omega)]; exact hO.wm hlt) ?_
                      refine r_isub C dL_isSo_670 ?_
                      refine r_imul C dL_isSo_671 ?_
                      refine r_iadd C dL_isSo_672 ?_
                      refine r_iastS (j := 1) hS3 C dL_isSo_673 rfl (by decide) ?_
                      refine r_mem (M' := mrow M 111 (upd (upd f 0 ((f 0) + (delF V k))) 1 ((f 1) + ((flowF V k) * ((warmF V (vSup V) (vP V k)) - (warmF V (vSup V) k)))))) (mset_row _ _ _ _ _) ?_
                      refine r_aload C dL_isSo_674 6 rfl ?_
                      refine r_iconst (v := 2) C dL_isSo_676 rfl ?_
                      refine r_dup2 C dL_isSo_677 rfl rfl ?_
                      refine r_ialdS (j := 2) (v := f 2) hS3 C dL_isSo_678 rfl (by decide) (by rw [mrow_at, upd_ne (by omega), upd_ne (by omega)]) ?_
                      refine r_aload_n C dL_isSo_679 9 rfl ?_
                      refine r_bipush (v := 8) C dL_isSo_680 rfl ?_
                      refine r_iload C dL_isSo_682 5 rfl ?_
                      refine r_imul C dL_isSo_684 ?_
                      refine r_valI (y := nI (8 * k)) (pk_mul 8 k) ?_
                      refine r_iconst (v := 5) C dL_isSo_685 rfl ?_
                      refine r_iadd C dL_isSo_686 ?_
                      refine r_valI (y := nI (8 * k + 5)) (nI_add (8 * k) 5) ?_
                      refine r_ialdN (j := 8 * k + 5) (v := vD V 5 k) C dL_isSo_687 rfl (rfl) (by omega) (by decide) ((hE.row1 _).e k 5 hlt (by decide) (by omega)) ?_
                      refine r_aload C dL_isSo_688 11 rfl ?_
                      refine r_bipush (v := 8) C dL_isSo_690 rfl ?_
                      refine r_iload C dL_isSo_692 5 rfl ?_
                      refine r_iadd C dL_isSo_694 ?_
                      refine r_valI (y := nI (8 + k)) (nI_add 8 k) ?_
                      refine r_ialdN (j := 8 + k) (v := warmF V (vSup V) k) C dL_isSo_695 rfl (rfl) (by omega) (by decide) (by rw [mrow_ne (by omega)]; exact hO.wm hlt) ?_
                      refine r_imul C dL_isSo_696 ?_
                      refine r_iadd C dL_isSo_697 ?_
                      refine r_iastS (j := 2) hS3 C dL_isSo_698 rfl (by decide) ?_
                      refine r_mem (M' := mrow M 111 (upd (upd (upd f 0 ((f 0) + (delF V k))) 1 ((f 1) + ((flowF V k) * ((warmF V (vSup V) (vP V k)) - (warmF V (vSup V) k))))) 2 ((f 2) + ((vD V 5 k) * (warmF V (vSup V) k))))) (mset_row _ _ _ _ _) ?_
                      refine r_iinc (v := nI (k + 1)) (L' := [(9, .int (nI (k + 1))), (6, .int (b + (vD V 7 k))), (5, .int (a + (vD V 6 k))), (8, .int 1), (13, .int (delF V k)), (12, .int (warmF V (vSup V) (vP V k))), (7, .ref (mA G 111)), (0, .ref (mA G 0)), (1, .ref (mA G 107)), (2, .ref (mA G 108)), (3, .ref (mA G 109)), (4, .ref (mA G 110))]) C dL_isSo_699 5 rfl (nI_inc _) (by decide) rfl ?_
                      refine r_goto (tgt := 152) C dL_isSo_702 (by decide) ?_
                      refine r_sub (L' := [(9, .int (nI (k + 1))), (8, .int 1), (7, .ref (mA G 111)), (6, .int (b + (vD V 7 k))), (5, .int (a + (vD V 6 k))), (0, .ref (mA G 0)), (1, .ref (mA G 107)), (2, .ref (mA G 108)), (3, .ref (mA G 109)), (4, .ref (mA G 110))]) [0, 3, 6, 1, 2, 7, 8, 9, 10, 11] rfl ?_
                      exact ih152 (k + 1) (a + vD V 6 k) (b + vD V 7 k) (upd (upd (upd f 0 ((f 0) + (delF V k))) 1 ((f 1) + ((flowF V k) * ((warmF V (vSup V) (vP V k)) - (warmF V (vSup V) k))))) 2 ((f 2) + ((vD V 5 k) * (warmF V (vSup V) k)))) (by omega) (by rw [ha, sumP_s _ hk0]) (by rw [hb, sumP_s _ hk0]) (fun w hw => by (have hc9 : w = 0 ∨ w = 1 ∨ w = 2 := by omega); rw [sumP_s _ hk0, ← hf w hw]; rcases hc9 with rfl | rfl | rfl; (rw [upd_ne (by omega), upd_ne (by omega), upd_at]; rfl); (rw [upd_ne (by omega), upd_at]; rfl); (rw [upd_at]; rfl)) (by omega)
                    ·
                      have hilt6 : i < 6 := lt_of_nle (b := 6) (by omega) c386
                      refine r_iload C dL_isSo_389 2 rfl ?_
                      refine r_if_eq (tgt := 419) C dL_isSo_391 (by decide) (fun h => absurd h (by decide)) (fun _ => ?_)
                      refine r_aload_n C dL_isSo_394 6 rfl ?_
                      refine r_iload C dL_isSo_395 1 rfl ?_
                      refine r_iload C dL_isSo_397 0 rfl ?_
                      refine r_lS (As := [.ref (mA G 0), .int (nI k), .int (nI i)]) (rest := []) C dL_isSo_399 w_L_122 (c_L_nodeOf_ok l G hG (mrow M 111 f) g V Hs len T (hI.lw (offR.row _ (by decide) (by decide))) k i hlt (by omega)) (Nat.le_of_ble_eq_true rfl) (Nat.le_of_ble_eq_true rfl) rfl rfl (Nat.le_of_ble_eq_true rfl) (Nat.le_of_ble_eq_true rfl) (Nat.le_of_ble_eq_true rfl) (pk_I ?_)
                      refine r_aload_n C dL_isSo_402 8 rfl ?_
                      refine r_bipush (v := 8) C dL_isSo_403 rfl ?_
                      refine r_iload C dL_isSo_405 1 rfl ?_
                      refine r_imul C dL_isSo_407 ?_
                      refine r_valI (y := nI (8 * k)) (pk_mul 8 k) ?_
                      refine r_iload C dL_isSo_408 0 rfl ?_
                      refine r_iadd C dL_isSo_410 ?_
                      refine r_valI (y := nI (8 * k + i)) (nI_add (8 * k) i) ?_
                      refine r_ialdN (j := 8 * k + i) (v := vD V i k) C dL_isSo_411 rfl (rfl) (by omega) (by decide) ((hE.row1 _).e k i hlt (by omega) (by omega)) ?_
                      refine r_icmp_ne (tgt := 419) C dL_isSo_412 (by decide) (fun h => absurd (nodeF_lo V (by omega)) h) (fun _ => ?_)
                      refine r_iconst (v := 1) C dL_isSo_415 rfl ?_
                      refine r_goto (tgt := 420) C dL_isSo_416 (by decide) ?_
                      refine r_istore (L' := [(8, .int 1), (12, .int (nI i)), (9, .int (nI k)), (7, .ref (mA G 111)), (6, .int b), (5, .int a), (0, .ref (mA G 0)), (1, .ref (mA G 107)), (2, .ref (mA G 108)), (3, .ref (mA G 109)), (4, .ref (mA G 110))]) C dL_isSo_420 (by decide) rfl ?_
                      refine r_iinc (v := nI (i + 1)) (L' := [(12, .int (nI (i + 1))), (8, .int 1), (9, .int (nI k)), (7, .ref (mA G 111)), (6, .int b), (5, .int a), (0, .ref (mA G 0)), (1, .ref (mA G 107)), (2, .ref (mA G 108)), (3, .ref (mA G 109)), (4, .ref (mA G 110))]) C dL_isSo_422 1 rfl (nI_inc _) (by decide) rfl ?_
                      refine r_goto (tgt := 382) C dL_isSo_425 (by decide) ?_
                      refine r_sub (L' := [(12, .int (nI (i + 1))), (9, .int (nI k)), (8, .int 1), (7, .ref (mA G 111)), (6, .int b), (5, .int a), (0, .ref (mA G 0)), (1, .ref (mA G 107)), (2, .ref (mA G 108)), (3, .ref (mA G 109)), (4, .ref (mA G 110))]) [0, 2, 1, 3, 4, 5, 6, 7, 8, 9, 10] rfl ?_
                      exact ih382 (i + 1) (by omega) (by omega) (by omega)
                refine r_sub (L' := [(12, .int (nI 1)), (9, .int (nI k)), (8, .int 1), (7, .ref (mA G 111)), (6, .int b), (5, .int a), (0, .ref (mA G 0)), (1, .ref (mA G 107)), (2, .ref (mA G 108)), (3, .ref (mA G 109)), (4, .ref (mA G 110))]) [0, 4, 1, 5, 6, 7, 8, 9, 10, 11, 12] rfl ?_
                exact lp382 _ 1 (by omega) (by omega) (Nat.lt_succ_self _)
              ·
                have hk0 : k = 0 := (nI_eq (b := 0) (by omega) (by decide)).mp c245
                refine r_iconst (v := (-1)) C dL_isSo_248 rfl ?_
                refine r_goto (tgt := 259) C dL_isSo_249 (by decide) ?_
                refine r_icmp_ne (tgt := 376) C dL_isSo_259 (by decide) (fun h => absurd (by rw [nodeF_lo V (by decide), hk0]; exact hd0) h) (fun _ => ?_)
                refine r_aload_n C dL_isSo_262 8 rfl ?_
                refine r_iload C dL_isSo_263 3 rfl ?_
                refine r_bipush (v := 6) C dL_isSo_265 rfl ?_
                refine r_lS (As := [.ref (mA G 0), .int (nI k), .int 6]) (rest := []) C dL_isSo_267 w_L_122 (c_L_nodeOf_ok l G hG (mrow M 111 f) g V Hs len T (hI.lw (offR.row _ (by decide) (by decide))) k 6 hlt (by decide)) (Nat.le_of_ble_eq_true rfl) (Nat.le_of_ble_eq_true rfl) rfl rfl (Nat.le_of_ble_eq_true rfl) (Nat.le_of_ble_eq_true rfl) (Nat.le_of_ble_eq_true rfl) (pk_I ?_)
                refine r_aload C dL_isSo_270 12 rfl ?_
                refine r_iload C dL_isSo_272 3 rfl ?_
                refine r_ialdN (j := k) (v := flowF V k) C dL_isSo_274 rfl (rfl) (by omega) (by decide) (by rw [mrow_ne (by omega)]; exact hO.fl hlt) ?_
                refine r_icmp_ne (tgt := 376) C dL_isSo_275 (by decide) (fun h => absurd (rfl) h) (fun _ => ?_)
                refine r_aload_n C dL_isSo_278 8 rfl ?_
                refine r_iload C dL_isSo_279 3 rfl ?_
                refine r_bipush (v := 7) C dL_isSo_281 rfl ?_
                refine r_lS (As := [.ref (mA G 0), .int (nI k), .int 7]) (rest := []) C dL_isSo_283 w_L_122 (c_L_nodeOf_ok l G hG (mrow M 111 f) g V Hs len T (hI.lw (offR.row _ (by decide) (by decide))) k 7 hlt (by decide)) (Nat.le_of_ble_eq_true rfl) (Nat.le_of_ble_eq_true rfl) rfl rfl (Nat.le_of_ble_eq_true rfl) (Nat.le_of_ble_eq_true rfl) (Nat.le_of_ble_eq_true rfl) (pk_I ?_)
                refine r_aload C dL_isSo_286 12 rfl ?_
                refine r_bipush (v := 8) C dL_isSo_288 rfl ?_
                refine r_iload C dL_isSo_290 3 rfl ?_
                refine r_iadd C dL_isSo_292 ?_
                refine r_valI (y := nI (8 + k)) (nI_add 8 k) ?_
                refine r_ialdN (j := 8 + k) (v := warmF V (vSup V) k) C dL_isSo_293 rfl (rfl) (by omega) (by decide) (by rw [mrow_ne (by omega)]; exact hO.wm hlt) ?_
                refine r_icmp_ne (tgt := 376) C dL_isSo_294 (by decide) (fun h => absurd (rfl) h) (fun _ => ?_)
                refine r_aload_n C dL_isSo_297 8 rfl ?_
                refine r_iload C dL_isSo_298 3 rfl ?_
                refine r_bipush (v := 8) C dL_isSo_300 rfl ?_
                refine r_lS (As := [.ref (mA G 0), .int (nI k), .int 8]) (rest := []) C dL_isSo_302 w_L_122 (c_L_nodeOf_ok l G hG (mrow M 111 f) g V Hs len T (hI.lw (offR.row _ (by decide) (by decide))) k 8 hlt (by decide)) (Nat.le_of_ble_eq_true rfl) (Nat.le_of_ble_eq_true rfl) rfl rfl (Nat.le_of_ble_eq_true rfl) (Nat.le_of_ble_eq_true rfl) (Nat.le_of_ble_eq_true rfl) (pk_I ?_)
                refine r_iload C dL_isSo_305 3 rfl ?_
                refine r_if_ne (tgt := 314) C dL_isSo_307 (by decide) (fun h => absurd (c245) h) (fun _ => ?_)
                refine r_iconst (v := (-1)) C dL_isSo_310 rfl ?_
                refine r_goto (tgt := 322) C dL_isSo_311 (by decide) ?_
                refine r_icmp_ne (tgt := 376) C dL_isSo_322 (by decide) (fun h => absurd (by rw [nodeF_8, if_pos hk0]) h) (fun _ => ?_)
                refine r_aload_n C dL_isSo_325 8 rfl ?_
                refine r_iload C dL_isSo_326 3 rfl ?_
                refine r_bipush (v := 9) C dL_isSo_328 rfl ?_
                refine r_lS (As := [.ref (mA G 0), .int (nI k), .int 9]) (rest := []) C dL_isSo_330 w_L_122 (c_L_nodeOf_ok l G hG (mrow M 111 f) g V Hs len T (hI.lw (offR.row _ (by decide) (by decide))) k 9 hlt (by decide)) (Nat.le_of_ble_eq_true rfl) (Nat.le_of_ble_eq_true rfl) rfl rfl (Nat.le_of_ble_eq_true rfl) (Nat.le_of_ble_eq_true rfl) (Nat.le_of_ble_eq_true rfl) (pk_I ?_)
                refine r_iload C dL_isSo_333 2 rfl ?_
                refine r_icmp_ne (tgt := 376) C dL_isSo_335 (by decide) (fun h => absurd (by rw [hx, hi2]; rfl) h) (fun _ => ?_)
                refine r_aload_n C dL_isSo_338 8 rfl ?_
                refine r_iload C dL_isSo_339 3 rfl ?_
                refine r_bipush (v := 10) C dL_isSo_341 rfl ?_
                refine r_lS (As := [.ref (mA G 0), .int (nI k), .int 10]) (rest := []) C dL_isSo_343 w_L_122 (c_L_nodeOf_ok l G hG (mrow M 111 f) g V Hs len T (hI.lw (offR.row _ (by decide) (by decide))) k 10 hlt (by decide)) (Nat.le_of_ble_eq_true rfl) (Nat.le_of_ble_eq_true rfl) rfl rfl (Nat.le_of_ble_eq_true rfl) (Nat.le_of_ble_eq_true rfl) (Nat.le_of_ble_eq_true rfl) (pk_I ?_)
                refine r_iload C dL_isSo_346 1 rfl ?_
                refine r_icmp_ne (tgt := 376) C dL_isSo_348 (by decide) (fun h => absurd (by rw [hy, hi2, branch_eq hT hlt]; rfl) h) (fun _ => ?_)
                refine r_aload_n C dL_isSo_351 8 rfl ?_
                refine r_iload C dL_isSo_352 3 rfl ?_
                refine r_bipush (v := 11) C dL_isSo_354 rfl ?_
                refine r_lS (As := [.ref (mA G 0), .int (nI k), .int 11]) (rest := []) C dL_isSo_356 w_L_122 (c_L_nodeOf_ok l G hG (mrow M 111 f) g V Hs len T (hI.lw (offR.row _ (by decide) (by decide))) k 11 hlt (by decide)) (Nat.le_of_ble_eq_true rfl) (Nat.le_of_ble_eq_true rfl) rfl rfl (Nat.le_of_ble_eq_true rfl) (Nat.le_of_ble_eq_true rfl) (Nat.le_of_ble_eq_true rfl) (pk_I ?_)
                refine r_aload_n C dL_isSo_359 10 rfl ?_
                refine r_bipush (v := 8) C dL_isSo_360 rfl ?_
                refine r_iload C dL_isSo_362 3 rfl ?_
                refine r_imul C dL_isSo_364 ?_
                refine r_valI (y := nI (8 * k)) (pk_mul 8 k) ?_
                refine r_bipush (v := 7) C dL_isSo_365 rfl ?_
                refine r_iadd C dL_isSo_367 ?_
                refine r_valI (y := nI (8 * k + 7)) (nI_add (8 * k) 7) ?_
                refine r_ialdN (j := 8 * k + 7) (v := vD V 7 k) C dL_isSo_368 rfl (rfl) (by omega) (by decide) ((hE.row1 _).e k 7 hlt (by decide) (by omega)) ?_
                refine r_icmp_ne (tgt := 376) C dL_isSo_369 (by decide) (fun h => absurd (rfl) h) (fun _ => ?_)
                refine r_iconst (v := 1) C dL_isSo_372 rfl ?_
                refine r_goto (tgt := 377) C dL_isSo_373 (by decide) ?_
                refine r_istore (L' := [(8, .int 1), (12, .int (nI i)), (11, .int y), (10, .int x), (9, .int (nI k)), (7, .ref (mA G 111)), (6, .int b), (5, .int a), (0, .ref (mA G 0)), (1, .ref (mA G 107)), (2, .ref (mA G 108)), (3, .ref (mA G 109)), (4, .ref (mA G 110))]) C dL_isSo_377 (by decide) rfl ?_
                refine r_iconst (v := nI 1) C dL_isSo_379 rfl ?_
                refine r_istore (L' := [(12, .int (nI 1)), (8, .int 1), (11, .int y), (10, .int x), (9, .int (nI k)), (7, .ref (mA G 111)), (6, .int b), (5, .int a), (0, .ref (mA G 0)), (1, .ref (mA G 107)), (2, .ref (mA G 108)), (3, .ref (mA G 109)), (4, .ref (mA G 110))]) C dL_isSo_380 (by decide) rfl ?_
                have lp382 : ∀ (fu : Nat) (i : Nat), (0 < i) → (i ≤ 6) → (6 - i) < fu → At p l e (rmD 9 5 27) s m args below meth c G 14 1 3 Q (mrow M 111 f) g [(12, .int (nI i)), (9, .int (nI k)), (8, .int 1), (7, .ref (mA G 111)), (6, .int b), (5, .int a), (0, .ref (mA G 0)), (1, .ref (mA G 107)), (2, .ref (mA G 108)), (3, .ref (mA G 109)), (4, .ref (mA G 110))] 382 [] := by
                  intro fu
                  induction fu with
                  | zero => intro i hi60 hi66 hfu; exact absurd hfu (Nat.not_lt_zero _)
                  | succ fu ih382 =>
                    intro i hi60 hi66 hfu382
                    refine r_iload C dL_isSo_382 0 rfl ?_
                    refine r_bipush (v := 6) C dL_isSo_384 rfl ?_
                    refine r_icmp_ge (tgt := 428) C dL_isSo_386 (by decide) (fun c386 => ?_) (fun c386 => ?_)
                    ·
                      have hi6 : i = 6 := by have := le_of_le (a := 6) (by decide) (by omega) c386; omega
                      refine r_iload C dL_isSo_428 1 rfl ?_
                      refine r_if_le (tgt := 699) C dL_isSo_430 (by decide) (fun _ => ?_) (fun h => absurd (by rw [hk0]; decide) h)
                      refine r_mem (M' := mrow M 111 f) (rfl) ?_
                      refine r_iinc (v := nI (k + 1)) (L' := [(9, .int (nI (k + 1))), (12, .int (nI i)), (8, .int 1), (7, .ref (mA G 111)), (6, .int b), (5, .int a), (0, .ref (mA G 0)), (1, .ref (mA G 107)), (2, .ref (mA G 108)), (3, .ref (mA G 109)), (4, .ref (mA G 110))]) C dL_isSo_699 1 rfl (nI_inc _) (by decide) rfl ?_
                      refine r_goto (tgt := 152) C dL_isSo_702 (by decide) ?_
                      refine r_sub (L' := [(9, .int (nI (k + 1))), (8, .int 1), (7, .ref (mA G 111)), (6, .int b), (5, .int a), (0, .ref (mA G 0)), (1, .ref (mA G 107)), (2, .ref (mA G 108)), (3, .ref (mA G 109)), (4, .ref (mA G 110))]) [0, 2, 3, 4, 5, 6, 7, 8, 9, 10] rfl ?_
                      exact ih152 (k + 1) a b f (by omega) (by rw [sumP_z _ hk0]; exact ha) (by rw [sumP_z _ hk0]; exact hb) (fun w hw => by rw [sumP_z _ hk0]; exact hf w hw) (by omega)
                    ·
                      have hilt6 : i < 6 := lt_of_nle (b := 6) (by omega) c386
                      refine r_iload C dL_isSo_389 2 rfl ?_
                      refine r_if_eq (tgt := 419) C dL_isSo_391 (by decide) (fun h => absurd h (by decide)) (fun _ => ?_)
                      refine r_aload_n C dL_isSo_394 6 rfl ?_
                      refine r_iload C dL_isSo_395 1 rfl ?_
                      refine r_iload C dL_isSo_397 0 rfl ?_
                      refine r_lS (As := [.ref (mA G 0), .int (nI k), .int (nI i)]) (rest := []) C dL_isSo_399 w_L_122 (c_L_nodeOf_ok l G hG (mrow M 111 f) g V Hs len T (hI.lw (offR.row _ (by decide) (by decide))) k i hlt (by omega)) (Nat.le_of_ble_eq_true rfl) (Nat.le_of_ble_eq_true rfl) rfl rfl (Nat.le_of_ble_eq_true rfl) (Nat.le_of_ble_eq_true rfl) (Nat.le_of_ble_eq_true rfl) (pk_I ?_)
                      refine r_aload_n C dL_isSo_402 8 rfl ?_
                      refine r_bipush (v := 8) C dL_isSo_403 rfl ?_
                      refine r_iload C dL_isSo_405 1 rfl ?_
                      refine r_imul C dL_isSo_407 ?_
                      refine r_valI (y := nI (8 * k)) (pk_mul 8 k) ?_
                      refine r_iload C dL_isSo_408 0 rfl ?_
                      refine r_iadd C dL_isSo_410 ?_
                      refine r_valI (y := nI (8 * k + i)) (nI_add (8 * k) i) ?_
                      refine r_ialdN (j := 8 * k + i) (v := vD V i k) C dL_isSo_411 rfl (rfl) (by omega) (by decide) ((hE.row1 _).e k i hlt (by omega) (by omega)) ?_
                      refine r_icmp_ne (tgt := 419) C dL_isSo_412 (by decide) (fun h => absurd (nodeF_lo V (by omega)) h) (fun _ => ?_)
                      refine r_iconst (v := 1) C dL_isSo_415 rfl ?_
                      refine r_goto (tgt := 420) C dL_isSo_416 (by decide) ?_
                      refine r_istore (L' := [(8, .int 1), (12, .int (nI i)), (9, .int (nI k)), (7, .ref (mA G 111)), (6, .int b), (5, .int a), (0, .ref (mA G 0)), (1, .ref (mA G 107)), (2, .ref (mA G 108)), (3, .ref (mA G 109)), (4, .ref (mA G 110))]) C dL_isSo_420 (by decide) rfl ?_
                      refine r_iinc (v := nI (i + 1)) (L' := [(12, .int (nI (i + 1))), (8, .int 1), (9, .int (nI k)), (7, .ref (mA G 111)), (6, .int b), (5, .int a), (0, .ref (mA G 0)), (1, .ref (mA G 107)), (2, .ref (mA G 108)), (3, .ref (mA G 109)), (4, .ref (mA G 110))]) C dL_isSo_422 1 rfl (nI_inc _) (by decide) rfl ?_
                      refine r_goto (tgt := 382) C dL_isSo_425 (by decide) ?_
                      refine r_sub (L' := [(12, .int (nI (i + 1))), (9, .int (nI k)), (8, .int 1), (7, .ref (mA G 111)), (6, .int b), (5, .int a), (0, .ref (mA G 0)), (1, .ref (mA G 107)), (2, .ref (mA G 108)), (3, .ref (mA G 109)), (4, .ref (mA G 110))]) [0, 2, 1, 3, 4, 5, 6, 7, 8, 9, 10] rfl ?_
                      exact ih382 (i + 1) (by omega) (by omega) (by omega)
                refine r_sub (L' := [(12, .int (nI 1)), (9, .int (nI k)), (8, .int 1), (7, .ref (mA G 111)), (6, .int b), (5, .int a), (0, .ref (mA G 0)), (1, .ref (mA G 107)), (2, .ref (mA G 108)), (3, .ref (mA G 109)), (4, .ref (mA G 110))]) [0, 4, 1, 5, 6, 7, 8, 9, 10, 11, 12] rfl ?_
                exact lp382 _ 1 (by omega) (by omega) (Nat.lt_succ_self _)
            ·
              have hilt : i < vN V := lt_of_nle (by omega) c179
              refine r_iload C dL_isSo_182 2 rfl ?_
              refine r_iload C dL_isSo_184 0 rfl ?_
              refine r_if_le (tgt := 205) C dL_isSo_186 (by decide) (fun c186 => ?_) (fun c186 => ?_)
              ·
                have hi0 : i = 0 := by have := le_of_le (b := 0) (by omega) (by decide) c186; omega
                refine r_iconst (v := 0) C dL_isSo_205 rfl ?_
                refine r_iadd C dL_isSo_206 ?_
                refine r_istore (L' := [(10, .int (x + 0)), (12, .int (nI i)), (11, .int y), (9, .int (nI k)), (8, .int 1), (7, .ref (mA G 111)), (6, .int b), (5, .int a), (0, .ref (mA G 0)), (1, .ref (mA G 107)), (2, .ref (mA G 108)), (3, .ref (mA G 109)), (4, .ref (mA G 110))]) C dL_isSo_207 (by decide) rfl ?_
                refine r_iload C dL_isSo_209 2 rfl ?_
                refine r_aload_n C dL_isSo_211 10 rfl ?_
                refine r_iload C dL_isSo_212 1 rfl ?_
                refine r_iload C dL_isSo_214 3 rfl ?_
                refine r_callSI (As := [.ref (mA G 108), .int (nI i), .int (nI k)]) (rest := [.int y]) C dL_isSo_216 s_L_9 (c_L_below l G hG (mrow M 111 f) g V hW (hE.row1 _) i k hilt hlt) (by decide) rfl rfl (Nat.le_of_ble_eq_true rfl) (Nat.le_of_ble_eq_true rfl) (Nat.le_of_ble_eq_true rfl) (pk_I ?_)
                refine r_if_eq (tgt := 226) C dL_isSo_219 (by decide) (fun c219 => ?_) (fun c219 => ?_)
                ·
                  refine r_iconst (v := 0) C dL_isSo_226 rfl ?_
                  refine r_iadd C dL_isSo_227 ?_
                  refine r_istore (L' := [(11, .int (y + 0)), (10, .int (x + 0)), (12, .int (nI i)), (9, .int (nI k)), (8, .int 1), (7, .ref (mA G 111)), (6, .int b), (5, .int a), (0, .ref (mA G 0)), (1, .ref (mA G 107)), (2, .ref (mA G 108)), (3, .ref (mA G 109)), (4, .ref (mA G 110))]) C dL_isSo_228 (by decide) rfl ?_
                  refine r_iinc (v := nI (i + 1)) (L' := [(12, .int (nI (i + 1))), (11, .int (y + 0)), (10, .int (x + 0)), (9, .int (nI k)), (8, .int 1), (7, .ref (mA G 111)), (6, .int b), (5, .int a), (0, .ref (mA G 0)), (1, .ref (mA G 107)), (2, .ref (mA G 108)), (3, .ref (mA G 109)), (4, .ref (mA G 110))]) C dL_isSo_230 2 rfl (nI_inc _) (by decide) rfl ?_
                  refine r_goto (tgt := 174) C dL_isSo_233 (by decide) ?_
                  refine r_sub (L' := [(12, .int (nI (i + 1))), (11, .int (y + 0)), (10, .int (x + 0)), (9, .int (nI k)), (8, .int 1), (7, .ref (mA G 111)), (6, .int b), (5, .int a), (0, .ref (mA G 0)), (1, .ref (mA G 107)), (2, .ref (mA G 108)), (3, .ref (mA G 109)), (4, .ref (mA G 110))]) [0, 1, 2, 3, 4, 5, 6, 7, 8, 9, 10, 11, 12] rfl ?_
                  exact ih174 (i + 1) (x + 0) (y + 0) (by omega) (by rw [hx, sumP_z _ hi0, Int32.add_zero]) (by rw [hy, sumA, b2i_0.mp c219]; rfl) (by omega)
                ·
                  refine r_iconst (v := 1) C dL_isSo_222 rfl ?_
                  refine r_goto (tgt := 227) C dL_isSo_223 (by decide) ?_
                  refine r_iadd C dL_isSo_227 ?_
                  refine r_istore (L' := [(11, .int (y + 1)), (10, .int (x + 0)), (12, .int (nI i)), (9, .int (nI k)), (8, .int 1), (7, .ref (mA G 111)), (6, .int b), (5, .int a), (0, .ref (mA G 0)), (1, .ref (mA G 107)), (2, .ref (mA G 108)), (3, .ref (mA G 109)), (4, .ref (mA G 110))]) C dL_isSo_228 (by decide) rfl ?_
                  refine r_iinc (v := nI (i + 1)) (L' := [(12, .int (nI (i + 1))), (11, .int (y + 1)), (10, .int (x + 0)), (9, .int (nI k)), (8, .int 1), (7, .ref (mA G 111)), (6, .int b), (5, .int a), (0, .ref (mA G 0)), (1, .ref (mA G 107)), (2, .ref (mA G 108)), (3, .ref (mA G 109)), (4, .ref (mA G 110))]) C dL_isSo_230 2 rfl (nI_inc _) (by decide) rfl ?_
                  refine r_goto (tgt := 174) C dL_isSo_233 (by decide) ?_
                  refine r_sub (L' := [(12, .int (nI (i + 1))), (11, .int (y + 1)), (10, .int (x + 0)), (9, .int (nI k)), (8, .int 1), (7, .ref (mA G 111)), (6, .int b), (5, .int a), (0, .ref (mA G 0)), (1, .ref (mA G 107)), (2, .ref (mA G 108)), (3, .ref (mA G 109)), (4, .ref (mA G 110))]) [0, 1, 2, 3, 4, 5, 6, 7, 8, 9, 10, 11, 12] rfl ?_
                  exact ih174 (i + 1) (x + 0) (y + 1) (by omega) (by rw [hx, sumP_z _ hi0, Int32.add_zero]) (by rw [hy, sumA, b2i_1.mp c219]; rfl) (by omega)
              ·
                have hi0 : 0 < i := by rcases Nat.eq_zero_or_pos i with z | z; (subst z; exact absurd (by decide) c186); exact z
                refine r_aload_n C dL_isSo_189 10 rfl ?_
                refine r_bipush (v := 8) C dL_isSo_190 rfl ?_
                refine r_iload C dL_isSo_192 0 rfl ?_
                refine r_imul C dL_isSo_194 ?_
                refine r_valI (y := nI (8 * i)) (pk_mul 8 i) ?_
                refine r_ialdN (j := 8 * i) (v := vD V 0 i) C dL_isSo_195 rfl (rfl) (by omega) (by decide) ((hE.row1 _).e0 i hi0 hilt) ?_
                refine r_iload C dL_isSo_196 3 rfl ?_
                refine r_icmp_ne (tgt := 205) C dL_isSo_198 (by decide) (fun c198 => ?_) (fun c198 => ?_)
                ·
                  refine r_iconst (v := 0) C dL_isSo_205 rfl ?_
                  refine r_iadd C dL_isSo_206 ?_
                  refine r_istore (L' := [(10, .int (x + 0)), (12, .int (nI i)), (11, .int y), (9, .int (nI k)), (8, .int 1), (7, .ref (mA G 111)), (6, .int b), (5, .int a), (0, .ref (mA G 0)), (1, .ref (mA G 107)), (2, .ref (mA G 108)), (3, .ref (mA G 109)), (4, .ref (mA G 110))]) C dL_isSo_207 (by decide) rfl ?_
                  refine r_iload C dL_isSo_209 2 rfl ?_
                  refine r_aload_n C dL_isSo_211 10 rfl ?_
                  refine r_iload C dL_isSo_212 1 rfl ?_
                  refine r_iload C dL_isSo_214 3 rfl ?_
                  refine r_callSI (As := [.ref (mA G 108), .int (nI i), .int (nI k)]) (rest := [.int y]) C dL_isSo_216 s_L_9 (c_L_below l G hG (mrow M 111 f) g V hW (hE.row1 _) i k hilt hlt) (by decide) rfl rfl (Nat.le_of_ble_eq_true rfl) (Nat.le_of_ble_eq_true rfl) (Nat.le_of_ble_eq_true rfl) (pk_I ?_)
                  refine r_if_eq (tgt := 226) C dL_isSo_219 (by decide) (fun c219 => ?_) (fun c219 => ?_)
                  ·
                    refine r_iconst (v := 0) C dL_isSo_226 rfl ?_
                    refine r_iadd C dL_isSo_227 ?_
                    refine r_istore (L' := [(11, .int (y + 0)), (10, .int (x + 0)), (12, .int (nI i)), (9, .int (nI k)), (8, .int 1), (7, .ref (mA G 111)), (6, .int b), (5, .int a), (0, .ref (mA G 0)), (1, .ref (mA G 107)), (2, .ref (mA G 108)), (3, .ref (mA G 109)), (4, .ref (mA G 110))]) C dL_isSo_228 (by decide) rfl ?_
                    refine r_iinc (v := nI (i + 1)) (L' := [(12, .int (nI (i + 1))), (11, .int (y + 0)), (10, .int (x + 0)), (9, .int (nI k)), (8, .int 1), (7, .ref (mA G 111)), (6, .int b), (5, .int a), (0, .ref (mA G 0)), (1, .ref (mA G 107)), (2, .ref (mA G 108)), (3, .ref (mA G 109)), (4, .ref (mA G 110))]) C dL_isSo_230 2 rfl (nI_inc _) (by decide) rfl ?_
                    refine r_goto (tgt := 174) C dL_isSo_233 (by decide) ?_
                    refine r_sub (L' := [(12, .int (nI (i + 1))), (11, .int (y + 0)), (10, .int (x + 0)), (9, .int (nI k)), (8, .int 1), (7, .ref (mA G 111)), (6, .int b), (5, .int a), (0, .ref (mA G 0)), (1, .ref (mA G 107)), (2, .ref (mA G 108)), (3, .ref (mA G 109)), (4, .ref (mA G 110))]) [0, 1, 2, 3, 4, 5, 6, 7, 8, 9, 10, 11, 12] rfl ?_
                    exact ih174 (i + 1) (x + 0) (y + 0) (by omega) (by rw [hx, sumP_s _ hi0, decide_eq_false c198]; rfl) (by rw [hy, sumA, b2i_0.mp c219]; rfl) (by omega)
                  ·
                    refine r_iconst (v := 1) C dL_isSo_222 rfl ?_
                    refine r_goto (tgt := 227) C dL_isSo_223 (by decide) ?_
                    refine r_iadd C dL_isSo_227 ?_
                    refine r_istore (L' := [(11, .int (y + 1)), (10, .int (x + 0)), (12, .int (nI i)), (9, .int (nI k)), (8, .int 1), (7, .ref (mA G 111)), (6, .int b), (5, .int a), (0, .ref (mA G 0)), (1, .ref (mA G 107)), (2, .ref (mA G 108)), (3, .ref (mA G 109)), (4, .ref (mA G 110))]) C dL_isSo_228 (by decide) rfl ?_
                    refine r_iinc (v := nI (i + 1)) (L' := [(12, .int (nI (i + 1))), (11, .int (y + 1)), (10, .int (x + 0)), (9, .int (nI k)), (8, .int 1), (7, .ref (mA G 111)), (6, .int b), (5, .int a), (0, .ref (mA G 0)), (1, .ref (mA G 107)), (2, .ref (mA G 108)), (3, .ref (mA G 109)), (4, .ref (mA G 110))]) C dL_isSo_230 2 rfl (nI_inc _) (by decide) rfl ?_
                    refine r_goto (tgt := 174) C dL_isSo_233 (by decide) ?_
                    refine r_sub (L' := [(12, .int (nI (i + 1))), (11, .int (y + 1)), (10, .int (x + 0)), (9, .int (nI k)), (8, .int 1), (7, .ref (mA G 111)), (6, .int b), (5, .int a), (0, .ref (mA G 0)), (1, .ref (mA G 107)), (2, .ref (mA G 108)), (3, .ref (mA G 109)), (4, .ref (mA G 110))]) [0, 1, 2, 3, 4, 5, 6, 7, 8, 9, 10, 11, 12] rfl ?_
                    exact ih174 (i + 1) (x + 0) (y + 1) (by omega) (by rw [hx, sumP_s _ hi0, decide_eq_false c198]; rfl) (by rw [hy, sumA, b2i_1.mp c219]; rfl) (by omega)
                ·
                  refine r_iconst (v := 1) C dL_isSo_201 rfl ?_
                  refine r_goto (tgt := 206) C dL_isSo_202 (by decide) ?_
                  refine r_iadd C dL_isSo_206 ?_
                  refine r_istore (L' := [(10, .int (x + 1)), (12, .int (nI i)), (11, .int y), (9, .int (nI k)), (8, .int 1), (7, .ref (mA G 111)), (6, .int b), (5, .int a), (0, .ref (mA G 0)), (1, .ref (mA G 107)), (2, .ref (mA G 108)), (3, .ref (mA G 109)), (4, .ref (mA G 110))]) C dL_isSo_207 (by decide) rfl ?_
                  refine r_iload C dL_isSo_209 2 rfl ?_
                  refine r_aload_n C dL_isSo_211 10 rfl ?_
                  refine r_iload C dL_isSo_212 1 rfl ?_
                  refine r_iload C dL_isSo_214 3 rfl ?_
                  refine r_callSI (As := [.ref (mA G 108), .int (nI i), .int (nI k)]) (rest := [.int y]) C dL_isSo_216 s_L_9 (c_L_below l G hG (mrow M 111 f) g V hW (hE.row1 _) i k hilt hlt) (by decide) rfl rfl (Nat.le_of_ble_eq_true rfl) (Nat.le_of_ble_eq_true rfl) (Nat.le_of_ble_eq_true rfl) (pk_I ?_)
                  refine r_if_eq (tgt := 226) C dL_isSo_219 (by decide) (fun c219 => ?_) (fun c219 => ?_)
                  ·
                    refine r_iconst (v := 0) C dL_isSo_226 rfl ?_
                    refine r_iadd C dL_isSo_227 ?_
                    refine r_istore (L' := [(11, .int (y + 0)), (10, .int (x + 1)), (12, .int (nI i)), (9, .int (nI k)), (8, .int 1), (7, .ref (mA G 111)), (6, .int b), (5, .int a), (0, .ref (mA G 0)), (1, .ref (mA G 107)), (2, .ref (mA G 108)), (3, .ref (mA G 109)), (4, .ref (mA G 110))]) C dL_isSo_228 (by decide) rfl ?_
                    refine r_iinc (v := nI (i + 1)) (L' := [(12, .int (nI (i + 1))), (11, .int (y + 0)), (10, .int (x + 1)), (9, .int (nI k)), (8, .int 1), (7, .ref (mA G 111)), (6, .int b), (5, .int a), (0, .ref (mA G 0)), (1, .ref (mA G 107)), (2, .ref (mA G 108)), (3, .ref (mA G 109)), (4, .ref (mA G 110))]) C dL_isSo_230 2 rfl (nI_inc _) (by decide) rfl ?_
                    refine r_goto (tgt := 174) C dL_isSo_233 (by decide) ?_
                    refine r_sub (L' := [(12, .int (nI (i + 1))), (11, .int (y + 0)), (10, .int (x + 1)), (9, .int (nI k)), (8, .int 1), (7, .ref (mA G 111)), (6, .int b), (5, .int a), (0, .ref (mA G 0)), (1, .ref (mA G 107)), (2, .ref (mA G 108)), (3, .ref (mA G 109)), (4, .ref (mA G 110))]) [0, 1, 2, 3, 4, 5, 6, 7, 8, 9, 10, 11, 12] rfl ?_
                    exact ih174 (i + 1) (x + 1) (y + 0) (by omega) (by rw [hx, sumP_s _ hi0, decide_eq_true c198]; rfl) (by rw [hy, sumA, b2i_0.mp c219]; rfl) (by omega)
                  ·
                    refine r_iconst (v := 1) C dL_isSo_222 rfl ?_
                    refine r_goto (tgt := 227) C dL_isSo_223 (by decide) ?_
                    refine r_iadd C dL_isSo_227 ?_
                    refine r_istore (L' := [(11, .int (y + 1)), (10, .int (x + 1)), (12, .int (nI i)), (9, .int (nI k)), (8, .int 1), (7, .ref (mA G 111)), (6, .int b), (5, .int a), (0, .ref (mA G 0)), (1, .ref (mA G 107)), (2, .ref (mA G 108)), (3, .ref (mA G 109)), (4, .ref (mA G 110))]) C dL_isSo_228 (by decide) rfl ?_
                    refine r_iinc (v := nI (i + 1)) (L' := [(12, .int (nI (i + 1))), (11, .int (y + 1)), (10, .int (x + 1)), (9, .int (nI k)), (8, .int 1), (7, .ref (mA G 111)), (6, .int b), (5, .int a), (0, .ref (mA G 0)), (1, .ref (mA G 107)), (2, .ref (mA G 108)), (3, .ref (mA G 109)), (4, .ref (mA G 110))]) C dL_isSo_230 2 rfl (nI_inc _) (by decide) rfl ?_
                    refine r_goto (tgt := 174) C dL_isSo_233 (by decide) ?_
                    refine r_sub (L' := [(12, .int (nI (i + 1))), (11, .int (y + 1)), (10, .int (x + 1)), (9, .int (nI k)), (8, .int 1), (7, .ref (mA G 111)), (6, .int b), (5, .int a), (0, .ref (mA G 0)), (1, .ref (mA G 107)), (2, .ref (mA G 108)), (3, .ref (mA G 109)), (4, .ref (mA G 110))]) [0, 1, 2, 3, 4, 5, 6, 7, 8, 9, 10, 11, 12] rfl ?_
                    exact ih174 (i + 1) (x + 1) (y + 1) (by omega) (by rw [hx, sumP_s _ hi0, decide_eq_true c198]; rfl) (by rw [hy, sumA, b2i_1.mp c219]; rfl) (by omega)
        refine r_sub (L' := [(12, .int (nI 0)), (11, .int 0), (10, .int 0), (9, .int (nI k)), (8, .int 1), (7, .ref (mA G 111)), (6, .int b), (5, .int a), (0, .ref (mA G 0)), (1, .ref (mA G 107)), (2, .ref (mA G 108)), (3, .ref (mA G 109)), (4, .ref (mA G 110))]) [0, 1, 2, 3, 4, 5, 6, 7, 8, 9, 10, 11, 12] rfl ?_
        exact lp174 _ 0 0 0 (by omega) rfl rfl (Nat.lt_succ_self _)
  refine r_sub (L' := [(9, .int (nI 0)), (8, .int 1), (7, .ref (mA G 111)), (6, .int 0), (5, .int 0), (0, .ref (mA G 0)), (1, .ref (mA G 107)), (2, .ref (mA G 108)), (3, .ref (mA G 109)), (4, .ref (mA G 110))]) [0, 1, 2, 3, 4, 5, 6, 7, 8, 9] rfl ?_
  exact lp152 _ 0 0 0 f (by omega) rfl rfl hf0 (Nat.lt_succ_self _)

set_option maxRecDepth 20000 in
set_option maxHeartbeats 8000000 in
theorem is_e {p : Program} {l : Launch} {e : Env} {s : State} {m : MethodId} {args : Array Value} {below : List Frame} {meth : Method} {c : Code} {G : mG} {Q : State → Prop} {M : Mem} {g : Glo} (hG : mInj G) (C : mCx p s m args c cL_isSo 14 RL G) (hS3 : nP G = 112) (V : View) (Hs : List View) (len : Nat) (T : Nat → Int32) (hI : cINV M V Hs len T) (hE : eOK M V) (hO : tOK (M 110) V) (a b : Int32) (next : At p l e (rmD 9 5 27) s m args below meth c G 14 1 3 Q M g [(8, .int 1), (7, .ref (mA G 111)), (6, .int b), (5, .int a), (0, .ref (mA G 0)), (1, .ref (mA G 107)), (2, .ref (mA G 108)), (3, .ref (mA G 109)), (4, .ref (mA G 110))] 877 []) : At p l e (rmD 9 5 27) s m args below meth c G 14 1 3 Q M g [(8, .int 1), (7, .ref (mA G 111)), (6, .int b), (5, .int a), (0, .ref (mA G 0)), (1, .ref (mA G 107)), (2, .ref (mA G 108)), (3, .ref (mA G 109)), (4, .ref (mA G 110))] 705 [] := by
  obtain ⟨hC9, hW, hH9, hHs9, hTx9, hP09⟩ := id hI
  have hT := hW.1
  obtain ⟨hn1, hn16, hb4, ⟨hd0, hd3, hd5, hd6⟩, hpar⟩ := id hT
  have h8 := hE.le
  refine r_iconst (v := nI 0) C dL_isSo_705 rfl ?_
  refine r_istore (L' := [(9, .int (nI 0)), (8, .int 1), (7, .ref (mA G 111)), (6, .int b), (5, .int a), (0, .ref (mA G 0)), (1, .ref (mA G 107)), (2, .ref (mA G 108)), (3, .ref (mA G 109)), (4, .ref (mA G 110))]) C dL_isSo_706 (by decide) rfl ?_
  have lp708 : ∀ (fu : Nat) (k : Nat), (k ≤ vB V) → (vB V - k) < fu → At p l e (rmD 9 5 27) s m args below meth c G 14 1 3 Q M g [(9, .int (nI k)), (8, .int 1), (7, .ref (mA G 111)), (6, .int b), (5, .int a), (0, .ref (mA G 0)), (1, .ref (mA G 107)), (2, .ref (mA G 108)), (3, .ref (mA G 109)), (4, .ref (mA G 110))] 708 [] := by
    intro fu
    induction fu with
    | zero => intro k hkn hfu; exact absurd hfu (Nat.not_lt_zero _)
    | succ fu ih708 =>
      intro k hkn hfu708
      refine r_iload C dL_isSo_708 0 rfl ?_
      refine r_aload_n C dL_isSo_710 6 rfl ?_
      refine r_bipush (v := 6) C dL_isSo_711 rfl ?_
      refine r_ialdN (j := 6) (v := nI (vB V)) C dL_isSo_713 rfl (rfl) (by omega) (by decide) (hE.b) ?_
      refine r_icmp_ge (tgt := 877) C dL_isSo_714 (by decide) (fun c714 => ?_) (fun c714 => ?_)
      ·
        have hk2 : k = vB V := by have := le_of_le (by omega) (by omega) c714; omega
        refine r_sub (L' := [(8, .int 1), (7, .ref (mA G 111)), (6, .int b), (5, .int a), (0, .ref (mA G 0)), (1, .ref (mA G 107)), (2, .ref (mA G 108)), (3, .ref (mA G 109)), (4, .ref (mA G 110))]) [1, 2, 3, 4, 5, 6, 7, 8, 9] rfl ?_
        exact next 
      ·
        have hlt : k < vB V := lt_of_nle (by omega) c714
        refine r_iload C dL_isSo_717 1 rfl ?_
        refine r_if_eq (tgt := 877) C dL_isSo_719 (by decide) (fun h => absurd h (by decide)) (fun _ => ?_)
        refine r_iconst (v := 0) C dL_isSo_722 rfl ?_
        refine r_istore (L' := [(10, .int 0), (9, .int (nI k)), (8, .int 1), (7, .ref (mA G 111)), (6, .int b), (5, .int a), (0, .ref (mA G 0)), (1, .ref (mA G 107)), (2, .ref (mA G 108)), (3, .ref (mA G 109)), (4, .ref (mA G 110))]) C dL_isSo_723 (by decide) rfl ?_
        refine r_iconst (v := nI 0) C dL_isSo_725 rfl ?_
        refine r_istore (L' := [(11, .int (nI 0)), (10, .int 0), (9, .int (nI k)), (8, .int 1), (7, .ref (mA G 111)), (6, .int b), (5, .int a), (0, .ref (mA G 0)), (1, .ref (mA G 107)), (2, .ref (mA G 108)), (3, .ref (mA G 109)), (4, .ref (mA G 110))]) C dL_isSo_726 (by decide) rfl ?_
        have lp728 : ∀ (fu : Nat) (i : Nat) (x : Int32), (i ≤ vB V) → (x = sumA (fun i => b2i (decide (4 * vO V 2 i + nI i < 4 * vO V 2 k + nI k))) i) → (vB V - i) < fu → At p l e (rmD 9 5 27) s m args below meth c G 14 1 3 Q M g [(11, .int (nI i)), (10, .int x), (9, .int (nI k)), (8, .int 1), (7, .ref (mA G 111)), (6, .int b), (5, .int a), (0, .ref (mA G 0)), (1, .ref (mA G 107)), (2, .ref (mA G 108)), (3, .ref (mA G 109)), (4, .ref (mA G 110))] 728 [] := by
          intro fu
          induction fu with
          | zero => intro i x hin hx hfu; exact absurd hfu (Nat.not_lt_zero _)
          | succ fu ih728 =>
            intro i x hin hx hfu728
            refine r_iload C dL_isSo_728 0 rfl ?_
            refine r_aload_n C dL_isSo_730 8 rfl ?_
            refine r_bipush (v := 6) C dL_isSo_731 rfl ?_
            refine r_ialdN (j := 6) (v := nI (vB V)) C dL_isSo_733 rfl (rfl) (by omega) (by decide) (hE.b) ?_
            refine r_icmp_ge (tgt := 782) C dL_isSo_734 (by decide) (fun c734 => ?_) (fun c734 => ?_)
            ·
              have hi2 : i = vB V := by have := le_of_le (by omega) (by omega) c734; omega
              refine r_aload_n C dL_isSo_782 7 rfl ?_
              refine r_iload C dL_isSo_783 2 rfl ?_
              refine r_iconst (v := 0) C dL_isSo_785 rfl ?_
              refine r_lS (As := [.ref (mA G 0), .int (nI k), .int 0]) (rest := []) C dL_isSo_786 w_L_128 (c_L_boilerOf_ok l G hG M g V Hs len T hI k 0 hlt (by decide)) (Nat.le_of_ble_eq_true rfl) (Nat.le_of_ble_eq_true rfl) rfl rfl (Nat.le_of_ble_eq_true rfl) (Nat.le_of_ble_eq_true rfl) (Nat.le_of_ble_eq_true rfl) (pk_I ?_)
              refine r_aload_n C dL_isSo_789 10 rfl ?_
              refine r_iconst (v := 3) C dL_isSo_790 rfl ?_
              refine r_iload C dL_isSo_791 2 rfl ?_
              refine r_imul C dL_isSo_793 ?_
              refine r_valI (y := nI (3 * k)) (pk_mul 3 k) ?_
              refine r_ialdN (j := 3 * k) (v := vO V 0 k) C dL_isSo_794 rfl (rfl) (by omega) (by decide) (hE.o0 k hlt) ?_
              refine r_icmp_ne (tgt := 868) C dL_isSo_795 (by decide) (fun h => absurd (rfl) h) (fun _ => ?_)
              refine r_aload_n C dL_isSo_798 7 rfl ?_
              refine r_iload C dL_isSo_799 2 rfl ?_
              refine r_iconst (v := 1) C dL_isSo_801 rfl ?_
              refine r_lS (As := [.ref (mA G 0), .int (nI k), .int 1]) (rest := []) C dL_isSo_802 w_L_128 (c_L_boilerOf_ok l G hG M g V Hs len T hI k 1 hlt (by decide)) (Nat.le_of_ble_eq_true rfl) (Nat.le_of_ble_eq_true rfl) rfl rfl (Nat.le_of_ble_eq_true rfl) (Nat.le_of_ble_eq_true rfl) (Nat.le_of_ble_eq_true rfl) (pk_I ?_)
              refine r_aload_n C dL_isSo_805 10 rfl ?_
              refine r_iconst (v := 3) C dL_isSo_806 rfl ?_
              refine r_iload C dL_isSo_807 2 rfl ?_
              refine r_imul C dL_isSo_809 ?_
              refine r_valI (y := nI (3 * k)) (pk_mul 3 k) ?_
              refine r_iconst (v := 1) C dL_isSo_810 rfl ?_
              refine r_iadd C dL_isSo_811 ?_
              refine r_valI (y := nI (3 * k + 1)) (nI_add (3 * k) 1) ?_
              refine r_ialdN (j := 3 * k + 1) (v := vO V 1 k) C dL_isSo_812 rfl (rfl) (by omega) (by decide) (hE.o k 1 hlt (by decide)) ?_
              refine r_icmp_ne (tgt := 868) C dL_isSo_813 (by decide) (fun h => absurd (rfl) h) (fun _ => ?_)
              refine r_aload_n C dL_isSo_816 7 rfl ?_
              refine r_iload C dL_isSo_817 2 rfl ?_
              refine r_iconst (v := 2) C dL_isSo_819 rfl ?_
              refine r_lS (As := [.ref (mA G 0), .int (nI k), .int 2]) (rest := []) C dL_isSo_820 w_L_128 (c_L_boilerOf_ok l G hG M g V Hs len T hI k 2 hlt (by decide)) (Nat.le_of_ble_eq_true rfl) (Nat.le_of_ble_eq_true rfl) rfl rfl (Nat.le_of_ble_eq_true rfl) (Nat.le_of_ble_eq_true rfl) (Nat.le_of_ble_eq_true rfl) (pk_I ?_)
              refine r_aload_n C dL_isSo_823 10 rfl ?_
              refine r_iconst (v := 3) C dL_isSo_824 rfl ?_
              refine r_iload C dL_isSo_825 2 rfl ?_
              refine r_imul C dL_isSo_827 ?_
              refine r_valI (y := nI (3 * k)) (pk_mul 3 k) ?_
              refine r_iconst (v := 2) C dL_isSo_828 rfl ?_
              refine r_iadd C dL_isSo_829 ?_
              refine r_valI (y := nI (3 * k + 2)) (nI_add (3 * k) 2) ?_
              refine r_ialdN (j := 3 * k + 2) (v := vO V 2 k) C dL_isSo_830 rfl (rfl) (by omega) (by decide) (hE.o k 2 hlt (by decide)) ?_
              refine r_icmp_ne (tgt := 868) C dL_isSo_831 (by decide) (fun h => absurd (rfl) h) (fun _ => ?_)
              refine r_aload_n C dL_isSo_834 7 rfl ?_
              refine r_iload C dL_isSo_835 2 rfl ?_
              refine r_iconst (v := 3) C dL_isSo_837 rfl ?_
              refine r_lS (As := [.ref (mA G 0), .int (nI k), .int 3]) (rest := []) C dL_isSo_838 w_L_128 (c_L_boilerOf_ok l G hG M g V Hs len T hI k 3 hlt (by decide)) (Nat.le_of_ble_eq_true rfl) (Nat.le_of_ble_eq_true rfl) rfl rfl (Nat.le_of_ble_eq_true rfl) (Nat.le_of_ble_eq_true rfl) (Nat.le_of_ble_eq_true rfl) (pk_I ?_)
              refine r_aload C dL_isSo_841 11 rfl ?_
              refine r_bipush (v := 32) C dL_isSo_843 rfl ?_
              refine r_iload C dL_isSo_845 2 rfl ?_
              refine r_iadd C dL_isSo_847 ?_
              refine r_valI (y := nI (32 + k)) (nI_add 32 k) ?_
              refine r_ialdN (j := 32 + k) (v := loadF V (ndF V) k) C dL_isSo_848 rfl (rfl) (by omega) (by decide) (hO.ld hlt) ?_
              refine r_icmp_ne (tgt := 868) C dL_isSo_849 (by decide) (fun h => absurd (rfl) h) (fun _ => ?_)
              refine r_aload_n C dL_isSo_852 7 rfl ?_
              refine r_iload C dL_isSo_853 2 rfl ?_
              refine r_iconst (v := 4) C dL_isSo_855 rfl ?_
              refine r_lS (As := [.ref (mA G 0), .int (nI k), .int 4]) (rest := []) C dL_isSo_856 w_L_128 (c_L_boilerOf_ok l G hG M g V Hs len T hI k 4 hlt (by decide)) (Nat.le_of_ble_eq_true rfl) (Nat.le_of_ble_eq_true rfl) rfl rfl (Nat.le_of_ble_eq_true rfl) (Nat.le_of_ble_eq_true rfl) (Nat.le_of_ble_eq_true rfl) (pk_I ?_)
              refine r_iload C dL_isSo_859 1 rfl ?_
              refine r_icmp_ne (tgt := 868) C dL_isSo_861 (by decide) (fun h => absurd (by rw [hx, hi2, place4 hW hlt]; rfl) h) (fun _ => ?_)
              refine r_iconst (v := 1) C dL_isSo_864 rfl ?_
              refine r_goto (tgt := 869) C dL_isSo_865 (by decide) ?_
              refine r_istore (L' := [(8, .int 1), (11, .int (nI i)), (10, .int x), (9, .int (nI k)), (7, .ref (mA G 111)), (6, .int b), (5, .int a), (0, .ref (mA G 0)), (1, .ref (mA G 107)), (2, .ref (mA G 108)), (3, .ref (mA G 109)), (4, .ref (mA G 110))]) C dL_isSo_869 (by decide) rfl ?_
              refine r_iinc (v := nI (k + 1)) (L' := [(9, .int (nI (k + 1))), (8, .int 1), (11, .int (nI i)), (10, .int x), (7, .ref (mA G 111)), (6, .int b), (5, .int a), (0, .ref (mA G 0)), (1, .ref (mA G 107)), (2, .ref (mA G 108)), (3, .ref (mA G 109)), (4, .ref (mA G 110))]) C dL_isSo_871 3 rfl (nI_inc _) (by decide) rfl ?_
              refine r_goto (tgt := 708) C dL_isSo_874 (by decide) ?_
              refine r_sub (L' := [(9, .int (nI (k + 1))), (8, .int 1), (7, .ref (mA G 111)), (6, .int b), (5, .int a), (0, .ref (mA G 0)), (1, .ref (mA G 107)), (2, .ref (mA G 108)), (3, .ref (mA G 109)), (4, .ref (mA G 110))]) [0, 1, 4, 5, 6, 7, 8, 9, 10, 11] rfl ?_
              exact ih708 (k + 1) (by omega) (by omega)
            ·
              have hilt : i < vB V := lt_of_nle (by omega) c734
              refine r_iload C dL_isSo_737 1 rfl ?_
              refine r_iconst (v := 4) C dL_isSo_739 rfl ?_
              refine r_aload_n C dL_isSo_740 10 rfl ?_
              refine r_iconst (v := 3) C dL_isSo_741 rfl ?_
              refine r_iload C dL_isSo_742 0 rfl ?_
              refine r_imul C dL_isSo_744 ?_
              refine r_valI (y := nI (3 * i)) (pk_mul 3 i) ?_
              refine r_iconst (v := 2) C dL_isSo_745 rfl ?_
              refine r_iadd C dL_isSo_746 ?_
              refine r_valI (y := nI (3 * i + 2)) (nI_add (3 * i) 2) ?_
              refine r_ialdN (j := 3 * i + 2) (v := vO V 2 i) C dL_isSo_747 rfl (rfl) (by omega) (by decide) (hE.o i 2 hilt (by decide)) ?_
              refine r_imul C dL_isSo_748 ?_
              refine r_iload C dL_isSo_749 0 rfl ?_
              refine r_iadd C dL_isSo_751 ?_
              refine r_iconst (v := 4) C dL_isSo_752 rfl ?_
              refine r_aload_n C dL_isSo_753 10 rfl ?_
              refine r_iconst (v := 3) C dL_isSo_754 rfl ?_
              refine r_iload C dL_isSo_755 2 rfl ?_
              refine r_imul C dL_isSo_757 ?_
              refine r_valI (y := nI (3 * k)) (pk_mul 3 k) ?_
              refine r_iconst (v := 2) C dL_isSo_758 rfl ?_
              refine r_iadd C dL_isSo_759 ?_
              refine r_valI (y := nI (3 * k + 2)) (nI_add (3 * k) 2) ?_
              refine r_ialdN (j := 3 * k + 2) (v := vO V 2 k) C dL_isSo_760 rfl (rfl) (by omega) (by decide) (hE.o k 2 hlt (by decide)) ?_
              refine r_imul C dL_isSo_761 ?_
              refine r_iload C dL_isSo_762 2 rfl ?_
              refine r_iadd C dL_isSo_764 ?_
              refine r_icmp_ge (tgt := 772) C dL_isSo_765 (by decide) (fun c765 => ?_) (fun c765 => ?_)
              ·
                refine r_iconst (v := 0) C dL_isSo_772 rfl ?_
                refine r_iadd C dL_isSo_773 ?_
                refine r_istore (L' := [(10, .int (x + 0)), (11, .int (nI i)), (9, .int (nI k)), (8, .int 1), (7, .ref (mA G 111)), (6, .int b), (5, .int a), (0, .ref (mA G 0)), (1, .ref (mA G 107)), (2, .ref (mA G 108)), (3, .ref (mA G 109)), (4, .ref (mA G 110))]) C dL_isSo_774 (by decide) rfl ?_
                refine r_iinc (v := nI (i + 1)) (L' := [(11, .int (nI (i + 1))), (10, .int (x + 0)), (9, .int (nI k)), (8, .int 1), (7, .ref (mA G 111)), (6, .int b), (5, .int a), (0, .ref (mA G 0)), (1, .ref (mA G 107)), (2, .ref (mA G 108)), (3, .ref (mA G 109)), (4, .ref (mA G 110))]) C dL_isSo_776 1 rfl (nI_inc _) (by decide) rfl ?_
                refine r_goto (tgt := 728) C dL_isSo_779 (by decide) ?_
                refine r_sub (L' := [(11, .int (nI (i + 1))), (10, .int (x + 0)), (9, .int (nI k)), (8, .int 1), (7, .ref (mA G 111)), (6, .int b), (5, .int a), (0, .ref (mA G 0)), (1, .ref (mA G 107)), (2, .ref (mA G 108)), (3, .ref (mA G 109)), (4, .ref (mA G 110))]) [0, 1, 2, 3, 4, 5, 6, 7, 8, 9, 10, 11] rfl ?_
                exact ih728 (i + 1) (x + 0) (by omega) (by rw [hx, sumA, decide_eq_false (i32_nlt.mpr c765)]; rfl) (by omega)
              ·
                refine r_iconst (v := 1) C dL_isSo_768 rfl ?_
                refine r_goto (tgt := 773) C dL_isSo_769 (by decide) ?_
                refine r_iadd C dL_isSo_773 ?_
                refine r_istore (L' := [(10, .int (x + 1)), (11, .int (nI i)), (9, .int (nI k)), (8, .int 1), (7, .ref (mA G 111)), (6, .int b), (5, .int a), (0, .ref (mA G 0)), (1, .ref (mA G 107)), (2, .ref (mA G 108)), (3, .ref (mA G 109)), (4, .ref (mA G 110))]) C dL_isSo_774 (by decide) rfl ?_
                refine r_iinc (v := nI (i + 1)) (L' := [(11, .int (nI (i + 1))), (10, .int (x + 1)), (9, .int (nI k)), (8, .int 1), (7, .ref (mA G 111)), (6, .int b), (5, .int a), (0, .ref (mA G 0)), (1, .ref (mA G 107)), (2, .ref (mA G 108)), (3, .ref (mA G 109)), (4, .ref (mA G 110))]) C dL_isSo_776 1 rfl (nI_inc _) (by decide) rfl ?_
                refine r_goto (tgt := 728) C dL_isSo_779 (by decide) ?_
                refine r_sub (L' := [(11, .int (nI (i + 1))), (10, .int (x + 1)), (9, .int (nI k)), (8, .int 1), (7, .ref (mA G 111)), (6, .int b), (5, .int a), (0, .ref (mA G 0)), (1, .ref (mA G 107)), (2, .ref (mA G 108)), (3, .ref (mA G 109)), (4, .ref (mA G 110))]) [0, 1, 2, 3, 4, 5, 6, 7, 8, 9, 10, 11] rfl ?_
                exact ih728 (i + 1) (x + 1) (by omega) (by rw [hx, sumA, decide_eq_true (i32_nle.mp c765)]; rfl) (by omega)
        refine r_sub (L' := [(11, .int (nI 0)), (10, .int 0), (9, .int (nI k)), (8, .int 1), (7, .ref (mA G 111)), (6, .int b), (5, .int a), (0, .ref (mA G 0)), (1, .ref (mA G 107)), (2, .ref (mA G 108)), (3, .ref (mA G 109)), (4, .ref (mA G 110))]) [0, 1, 2, 3, 4, 5, 6, 7, 8, 9, 10, 11] rfl ?_
        exact lp728 _ 0 0 (by omega) rfl (Nat.lt_succ_self _)
  refine r_sub (L' := [(9, .int (nI 0)), (8, .int 1), (7, .ref (mA G 111)), (6, .int b), (5, .int a), (0, .ref (mA G 0)), (1, .ref (mA G 107)), (2, .ref (mA G 108)), (3, .ref (mA G 109)), (4, .ref (mA G 110))]) [0, 1, 2, 3, 4, 5, 6, 7, 8, 9] rfl ?_
  exact lp708 _ 0 (by omega) (Nat.lt_succ_self _)

set_option maxRecDepth 20000 in
set_option maxHeartbeats 8000000 in
theorem is_g {p : Program} {l : Launch} {e : Env} {s : State} {m : MethodId} {args : Array Value} {below : List Frame} {meth : Method} {c : Code} {G : mG} {Q : State → Prop} {M : Mem} {g : Glo} (hG : mInj G) (C : mCx p s m args c cL_isSo 14 RL G) (hS3 : nP G = 112) (V : View) (Hs : List View) (len : Nat) (T : Nat → Int32) (hI : cINV M V Hs len T) (hE : eOK M V) (hO : tOK (M 110) V) (hfl : l.stackTraces = false) (a b : Int32) (ha : a = sumP (vD V 6) (vN V)) (hb : b = sumP (vD V 7) (vN V)) (hs : ∀ w, w < 3 → M 111 w = sumF V w) (next : ∀ (kk nn : Nat), kk ≤ 5 → nn ≤ 27 → At p l e (rmD 9 5 27) s m args below meth c G 14 kk nn Q M g [] 1037 [.int 1]) : At p l e (rmD 9 5 27) s m args below meth c G 14 1 3 Q M g [(8, .int 1), (7, .ref (mA G 111)), (6, .int b), (5, .int a), (0, .ref (mA G 0)), (1, .ref (mA G 107)), (2, .ref (mA G 108)), (3, .ref (mA G 109)), (4, .ref (mA G 110))] 877 [] := by
  obtain ⟨hC9, hW, hH9, hHs9, hTx9, hP09⟩ := id hI
  have hT := hW.1
  obtain ⟨hn1, hn16, hb4, ⟨hd0, hd3, hd5, hd6⟩, hpar⟩ := id hT
  have h8 := hE.le
  refine r_iload C dL_isSo_877 0 rfl ?_
  refine r_if_eq (tgt := 1036) C dL_isSo_879 (by decide) (fun h => absurd h (by decide)) (fun _ => ?_)
  refine r_aload_n C dL_isSo_882 4 rfl ?_
  refine r_bipush (v := 12) C dL_isSo_883 rfl ?_
  refine r_lS (As := [.ref (mA G 0), .int 12]) (rest := []) C dL_isSo_885 w_L_119 (c_L_valueOf_ok l G hG M g V Hs len T hI 12 (by decide)) (Nat.le_of_ble_eq_true rfl) (Nat.le_of_ble_eq_true rfl) rfl rfl (Nat.le_of_ble_eq_true rfl) (Nat.le_of_ble_eq_true rfl) (Nat.le_of_ble_eq_true rfl) (pk_I ?_)
  refine r_iload C dL_isSo_888 2 rfl ?_
  refine r_icmp_ne (tgt := 1036) C dL_isSo_890 (by decide) (fun h => absurd (hb.symm) h) (fun _ => ?_)
  refine r_aload_n C dL_isSo_893 4 rfl ?_
  refine r_bipush (v := 14) C dL_isSo_894 rfl ?_
  refine r_lS (As := [.ref (mA G 0), .int 14]) (rest := []) C dL_isSo_896 w_L_119 (c_L_valueOf_ok l G hG M g V Hs len T hI 14 (by decide)) (Nat.le_of_ble_eq_true rfl) (Nat.le_of_ble_eq_true rfl) rfl rfl (Nat.le_of_ble_eq_true rfl) (Nat.le_of_ble_eq_true rfl) (Nat.le_of_ble_eq_true rfl) (pk_I ?_)
  refine r_iload C dL_isSo_899 3 rfl ?_
  refine r_icmp_ne (tgt := 1036) C dL_isSo_901 (by decide) (fun h => absurd (ha.symm) h) (fun _ => ?_)
  refine r_aload_n C dL_isSo_904 4 rfl ?_
  refine r_iconst (v := 0) C dL_isSo_905 rfl ?_
  refine r_lS (As := [.ref (mA G 0), .int 0]) (rest := []) C dL_isSo_906 w_L_131 (c_L_sumOf_ok l G hG M g V Hs len T hI 0 (by decide)) (Nat.le_of_ble_eq_true rfl) (Nat.le_of_ble_eq_true rfl) rfl rfl (Nat.le_of_ble_eq_true rfl) (Nat.le_of_ble_eq_true rfl) (Nat.le_of_ble_eq_true rfl) (pk_I ?_)
  refine r_aload C dL_isSo_909 1 rfl ?_
  refine r_iconst (v := 0) C dL_isSo_911 rfl ?_
  refine r_ialdS (j := 0) (v := sumF V 0) hS3 C dL_isSo_912 rfl (by decide) (hs 0 (by decide)) ?_
  refine r_icmp_ne (tgt := 1036) C dL_isSo_913 (by decide) (fun h => absurd (rfl) h) (fun _ => ?_)
  refine r_aload_n C dL_isSo_916 4 rfl ?_
  refine r_iconst (v := 1) C dL_isSo_917 rfl ?_
  refine r_lS (As := [.ref (mA G 0), .int 1]) (rest := []) C dL_isSo_918 w_L_131 (c_L_sumOf_ok l G hG M g V Hs len T hI 1 (by decide)) (Nat.le_of_ble_eq_true rfl) (Nat.le_of_ble_eq_true rfl) rfl rfl (Nat.le_of_ble_eq_true rfl) (Nat.le_of_ble_eq_true rfl) (Nat.le_of_ble_eq_true rfl) (pk_I ?_)
  refine r_aload C dL_isSo_921 1 rfl ?_
  refine r_iconst (v := 1) C dL_isSo_923 rfl ?_
  refine r_ialdS (j := 1) (v := sumF V 1) hS3 C dL_isSo_924 rfl (by decide) (hs 1 (by decide)) ?_
  refine r_icmp_ne (tgt := 1036) C dL_isSo_925 (by decide) (fun h => absurd (rfl) h) (fun _ => ?_)
  refine r_aload_n C dL_isSo_928 4 rfl ?_
  refine r_iconst (v := 2) C dL_isSo_929 rfl ?_
  refine r_lS (As := [.ref (mA G 0), .int 2]) (rest := []) C dL_isSo_930 w_L_131 (c_L_sumOf_ok l G hG M g V Hs len T hI 2 (by decide)) (Nat.le_of_ble_eq_true rfl) (Nat.le_of_ble_eq_true rfl) rfl rfl (Nat.le_of_ble_eq_true rfl) (Nat.le_of_ble_eq_true rfl) (Nat.le_of_ble_eq_true rfl) (pk_I ?_)
  refine r_aload C dL_isSo_933 1 rfl ?_
  refine r_iconst (v := 2) C dL_isSo_935 rfl ?_
  refine r_ialdS (j := 2) (v := sumF V 2) hS3 C dL_isSo_936 rfl (by decide) (hs 2 (by decide)) ?_
  refine r_icmp_ne (tgt := 1036) C dL_isSo_937 (by decide) (fun h => absurd (rfl) h) (fun _ => ?_)
  refine r_aload C dL_isSo_940 8 rfl ?_
  refine r_iconst (v := 0) C dL_isSo_942 rfl ?_
  refine r_ialdN (j := 0) (v := flowF V 0) C dL_isSo_943 rfl (rfl) (by omega) (by decide) (hO.fl (by omega)) ?_
  refine r_aload_n C dL_isSo_944 5 rfl ?_
  refine r_iconst (v := 0) C dL_isSo_945 rfl ?_
  refine r_ialdN (j := 0) (v := vS V 0) C dL_isSo_946 rfl (rfl) (by omega) (by decide) (hE.s 0 (by decide)) ?_
  refine r_imul C dL_isSo_947 ?_
  refine r_aload C dL_isSo_948 1 rfl ?_
  refine r_iconst (v := 0) C dL_isSo_950 rfl ?_
  refine r_ialdS (j := 0) (v := sumF V 0) hS3 C dL_isSo_951 rfl (by decide) (hs 0 (by decide)) ?_
  refine r_aload C dL_isSo_952 1 rfl ?_
  refine r_iconst (v := 1) C dL_isSo_954 rfl ?_
  refine r_ialdS (j := 1) (v := sumF V 1) hS3 C dL_isSo_955 rfl (by decide) (hs 1 (by decide)) ?_
  refine r_iadd C dL_isSo_956 ?_
  refine r_aload C dL_isSo_957 1 rfl ?_
  refine r_iconst (v := 2) C dL_isSo_959 rfl ?_
  refine r_ialdS (j := 2) (v := sumF V 2) hS3 C dL_isSo_960 rfl (by decide) (hs 2 (by decide)) ?_
  refine r_iadd C dL_isSo_961 ?_
  refine r_aload C dL_isSo_962 8 rfl ?_
  refine r_bipush (v := 24) C dL_isSo_964 rfl ?_
  refine r_ialdN (j := 24) (v := backF V (vSup V) 0) C dL_isSo_966 rfl (rfl) (by omega) (by decide) (hO.bk (j := 0) (by omega)) ?_
  refine r_iadd C dL_isSo_967 ?_
  refine r_icmp_ne (tgt := 1036) C dL_isSo_968 (by decide) (fun h => absurd (bal_sum hW) h) (fun _ => ?_)
  refine r_aload_n C dL_isSo_971 4 rfl ?_
  refine r_callVD (As := []) (rest := []) C dL_isSo_972 s_L_134 (c_X7_efficiency l G hG M g V Hs len T hI) (by decide) rfl rfl rfl rfl (Nat.le_of_ble_eq_true rfl) (Nat.le_of_ble_eq_true rfl) (Nat.le_of_ble_eq_true rfl) (fun r9 M9 g9 h9 => ?_)
  obtain ⟨rfl, eM9, eg9⟩ := h9
  rw [eM9, eg9]
  refine r_aload C dL_isSo_975 8 rfl ?_
  refine r_iconst (v := 0) C dL_isSo_977 rfl ?_
  refine r_ialdN (j := 0) (v := flowF V 0) C dL_isSo_978 rfl (rfl) (by omega) (by decide) (hO.fl (by omega)) ?_
  refine r_if_ne (tgt := 986) C dL_isSo_979 (by decide) (fun c979 => ?_) (fun c979 => ?_)
  ·
    refine r_aload C dL_isSo_986 1 rfl ?_
    refine r_iconst (v := 0) C dL_isSo_988 rfl ?_
    refine r_ialdS (j := 0) (v := sumF V 0) hS3 C dL_isSo_989 rfl (by decide) (hs 0 (by decide)) ?_
    refine r_i2d C dL_isSo_990 ?_
    refine r_aload C dL_isSo_991 8 rfl ?_
    refine r_iconst (v := 0) C dL_isSo_993 rfl ?_
    refine r_ialdN (j := 0) (v := flowF V 0) C dL_isSo_994 rfl (rfl) (by omega) (by decide) (hO.fl (by omega)) ?_
    refine r_aload_n C dL_isSo_995 5 rfl ?_
    refine r_iconst (v := 0) C dL_isSo_996 rfl ?_
    refine r_ialdN (j := 0) (v := vS V 0) C dL_isSo_997 rfl (rfl) (by omega) (by decide) (hE.s 0 (by decide)) ?_
    refine r_imul C dL_isSo_998 ?_
    refine r_i2d C dL_isSo_999 ?_
    refine r_ddiv C dL_isSo_1000 (dv_nn (fun z => c979 ((eff_0 hW).mp z))) ?_
    refine r_valD (y := effF V) (Eq.symm (if_neg (fun z => c979 ((eff_0 hW).mp z)))) ?_
    refine r_dcmpE (eff_cmp V) C dL_isSo_1001 ?_
    refine r_if_ne (tgt := 1036) C dL_isSo_1002 (by decide) (fun h => absurd (by decide) h) (fun _ => ?_)
    refine r_aload_n C dL_isSo_1005 4 rfl ?_
    refine r_aload_n C dL_isSo_1006 5 rfl ?_
    refine r_iconst (v := 5) C dL_isSo_1007 rfl ?_
    refine r_ialdN (j := 5) (v := nI (vN V)) C dL_isSo_1008 rfl (rfl) (by omega) (by decide) (hE.n) ?_
    refine r_iconst (v := 0) C dL_isSo_1009 rfl ?_
    refine r_lS (As := [.ref (mA G 0), .int (nI (vN V)), .int 0]) (rest := []) C dL_isSo_1010 w_L_122 (c_L_nodeOf l G hG M g hfl V Hs len T hI (nI (vN V)) 0) (Nat.le_of_ble_eq_true rfl) (Nat.le_of_ble_eq_true rfl) rfl rfl (Nat.le_of_ble_eq_true rfl) (Nat.le_of_ble_eq_true rfl) (Nat.le_of_ble_eq_true rfl) (fun r9 M9 g9 hp1010 => ?_)
    obtain ⟨hr1010, eM9, eg9⟩ := wr_no hp1010 0 (-1000000001) rfl (if_pos (fun z => Int32.lt_irrefl z.2))
    rw [eM9, eg9]
    refine r_ldc (v := -1000000001) C dL_isSo_1013 (gd_t 515 (by decide +kernel) rfl) ?_
    refine r_icmp_ne (tgt := 1036) C dL_isSo_1015 (by decide) (fun h => absurd (hr1010) h) (fun _ => ?_)
    refine r_aload_n C dL_isSo_1018 4 rfl ?_
    refine r_aload_n C dL_isSo_1019 5 rfl ?_
    refine r_bipush (v := 6) C dL_isSo_1020 rfl ?_
    refine r_ialdN (j := 6) (v := nI (vB V)) C dL_isSo_1022 rfl (rfl) (by omega) (by decide) (hE.b) ?_
    refine r_iconst (v := 0) C dL_isSo_1023 rfl ?_
    refine r_lS (As := [.ref (mA G 0), .int (nI (vB V)), .int 0]) (rest := []) C dL_isSo_1024 w_L_128 (c_L_boilerOf l G hG M g hfl V Hs len T hI (nI (vB V)) 0) (Nat.le_of_ble_eq_true rfl) (Nat.le_of_ble_eq_true rfl) rfl rfl (Nat.le_of_ble_eq_true rfl) (Nat.le_of_ble_eq_true rfl) (Nat.le_of_ble_eq_true rfl) (fun r8 M9 g9 hp1024 => ?_)
    obtain ⟨hr1024, eM9, eg9⟩ := wr_no hp1024 0 (-1000000001) rfl (if_pos (fun z => Int32.lt_irrefl z.2))
    rw [eM9, eg9]
    refine r_ldc (v := -1000000001) C dL_isSo_1027 (gd_t 515 (by decide +kernel) rfl) ?_
    refine r_icmp_ne (tgt := 1036) C dL_isSo_1029 (by decide) (fun h => absurd (hr1024) h) (fun _ => ?_)
    refine r_iconst (v := 1) C dL_isSo_1032 rfl ?_
    refine r_goto (tgt := 1037) C dL_isSo_1033 (by decide) ?_
    refine r_sub (L' := []) [] rfl ?_
    exact next _ _ (Nat.le_of_ble_eq_true rfl) (Nat.le_of_ble_eq_true rfl)
  ·
    refine r_dconst0 C dL_isSo_982 ?_
    refine r_goto (tgt := 1001) C dL_isSo_983 (by decide) ?_
    refine r_valD (y := effF V) (Eq.symm (if_pos ((eff_0 hW).mpr c979))) ?_
    refine r_dcmpE (eff_cmp V) C dL_isSo_1001 ?_
    refine r_if_ne (tgt := 1036) C dL_isSo_1002 (by decide) (fun h => absurd (by decide) h) (fun _ => ?_)
    refine r_aload_n C dL_isSo_1005 4 rfl ?_
    refine r_aload_n C dL_isSo_1006 5 rfl ?_
    refine r_iconst (v := 5) C dL_isSo_1007 rfl ?_
    refine r_ialdN (j := 5) (v := nI (vN V)) C dL_isSo_1008 rfl (rfl) (by omega) (by decide) (hE.n) ?_
    refine r_iconst (v := 0) C dL_isSo_1009 rfl ?_
    refine r_lS (As := [.ref (mA G 0), .int (nI (vN V)), .int 0]) (rest := []) C dL_isSo_1010 w_L_122 (c_L_nodeOf l G hG M g hfl V Hs len T hI (nI (vN V)) 0) (Nat.le_of_ble_eq_true rfl) (Nat.le_of_ble_eq_true rfl) rfl rfl (Nat.le_of_ble_eq_true rfl) (Nat.le_of_ble_eq_true rfl) (Nat.le_of_ble_eq_true rfl) (fun r9 M9 g9 hp1010 => ?_)
    obtain ⟨hr1010, eM9, eg9⟩ := wr_no hp1010 0 (-1000000001) rfl (if_pos (fun z => Int32.lt_irrefl z.2))
    rw [eM9, eg9]
    refine r_ldc (v := -1000000001) C dL_isSo_1013 (gd_t 515 (by decide +kernel) rfl) ?_
    refine r_icmp_ne (tgt := 1036) C dL_isSo_1015 (by decide) (fun h => absurd (hr1010) h) (fun _ => ?_)
    refine r_aload_n C dL_isSo_1018 4 rfl ?_
    refine r_aload_n C dL_isSo_1019 5 rfl ?_
    refine r_bipush (v := 6) C dL_isSo_1020 rfl ?_
    refine r_ialdN (j := 6) (v := nI (vB V)) C dL_isSo_1022 rfl (rfl) (by omega) (by decide) (hE.b) ?_
    refine r_iconst (v := 0) C dL_isSo_1023 rfl ?_
    refine r_lS (As := [.ref (mA G 0), .int (nI (vB V)), .int 0]) (rest := []) C dL_isSo_1024 w_L_128 (c_L_boilerOf l G hG M g hfl V Hs len T hI (nI (vB V)) 0) (Nat.le_of_ble_eq_true rfl) (Nat.le_of_ble_eq_true rfl) rfl rfl (Nat.le_of_ble_eq_true rfl) (Nat.le_of_ble_eq_true rfl) (Nat.le_of_ble_eq_true rfl) (fun r8 M9 g9 hp1024 => ?_)
    obtain ⟨hr1024, eM9, eg9⟩ := wr_no hp1024 0 (-1000000001) rfl (if_pos (fun z => Int32.lt_irrefl z.2))
    rw [eM9, eg9]
    refine r_ldc (v := -1000000001) C dL_isSo_1027 (gd_t 515 (by decide +kernel) rfl) ?_
    refine r_icmp_ne (tgt := 1036) C dL_isSo_1029 (by decide) (fun h => absurd (hr1024) h) (fun _ => ?_)
    refine r_iconst (v := 1) C dL_isSo_1032 rfl ?_
    refine r_goto (tgt := 1037) C dL_isSo_1033 (by decide) ?_
    refine r_sub (L' := []) [] rfl ?_
    exact next _ _ (Nat.le_of_ble_eq_true rfl) (Nat.le_of_ble_eq_true rfl)

set_option maxRecDepth 20000 in
theorem c_L_isSo (l : Launch) (G : mG) (hG : mInj G) (h0 : mA G 112 = 0) (M : Mem) (g : Glo) (hfl : l.stackTraces = false) (V : View) (Hs : List View) (len : Nat) (T : Nat → Int32) (hI : cINV M V Hs len T) (hE : eOK M V) : mcA l G yL_isSo cL_isSo 14 .boolean 9 5 27 [.ref (mA G 0), .ref (mA G 107), .ref (mA G 108), .ref (mA G 109), .ref (mA G 110)] M g (fun r M' g' => (r = 1 ∧ cINV M' V Hs len T ∧ eOK M' V) ∧ g' = g) := by
  refine mcA_of (L0 := [(0, .ref (mA G 0)), (1, .ref (mA G 107)), (2, .ref (mA G 108)), (3, .ref (mA G 109)), (4, .ref (mA G 110))]) hG (by decide) (Nat.le_of_ble_eq_true rfl) rfl ?_
  intro p e s m args below meth c Q C hend
  have hW := hI.2.1
  refine r_aload_n C dL_isSo_0 1 rfl ?_
  refine r_aload_n C dL_isSo_1 2 rfl ?_
  refine r_aload_n C dL_isSo_2 3 rfl ?_
  refine r_aload C dL_isSo_3 4 rfl ?_
  refine r_callSV (As := [.ref (mA G 107), .ref (mA G 108), .ref (mA G 109), .ref (mA G 110)]) (rest := []) C dL_isSo_5 s_L_48 (c_L_works l G hG M g V hW hE) (by decide) rfl rfl (Nat.le_of_ble_eq_true rfl) (Nat.le_of_ble_eq_true rfl) (Nat.le_of_ble_eq_true rfl) (fun M1 g1 h1 => ?_)
  obtain ⟨⟨f, rfl, hf⟩, rfl⟩ := h1
  refine r_iconst (v := 0) C dL_isSo_8 rfl ?_
  refine r_istore (L' := (5, .int 0) :: [(0, .ref (mA G 0)), (1, .ref (mA G 107)), (2, .ref (mA G 108)), (3, .ref (mA G 109)), (4, .ref (mA G 110))]) C dL_isSo_9 (by decide) rfl ?_
  refine r_iconst (v := 0) C dL_isSo_11 rfl ?_
  refine r_istore (L' := (6, .int 0) :: (5, .int 0) :: [(0, .ref (mA G 0)), (1, .ref (mA G 107)), (2, .ref (mA G 108)), (3, .ref (mA G 109)), (4, .ref (mA G 110))]) C dL_isSo_12 (by decide) rfl ?_
  refine r_iconst (v := 3) C dL_isSo_14 rfl ?_
  refine r_newS h0 C dL_isSo_15 rfl (Nat.le_of_ble_eq_true rfl) (Nat.le_of_ble_eq_true rfl) (fun q hq hG2 C2 => ?_)
  refine r_astore (L' := (7, .ref (mA (addS G q) 111)) :: (6, .int 0) :: (5, .int 0) :: [(0, .ref (mA G 0)), (1, .ref (mA G 107)), (2, .ref (mA G 108)), (3, .ref (mA G 109)), (4, .ref (mA G 110))]) C2 dL_isSo_17 (by decide) rfl ?_
  have hx : ∀ F, offR M (mrow (mrow M 110 f) 111 F) 107 111 := fun F z hz => by rw [mrow_ne (by omega), mrow_ne (by omega)]
  have hI2 : ∀ F, cINV (mrow (mrow M 110 f) 111 F) V Hs len T := fun F => hI.lw (hx F)
  have hE2 : ∀ F, eOK (mrow (mrow M 110 f) 111 F) V := fun F => (hE.row f).row1 F
  have hO2 : ∀ F, tOK ((mrow (mrow M 110 f) 111 F) 110) V := fun F => by rw [mrow_ne (by decide), mrow_at]; exact hf
  refine is_a hG2 C2 (addS_n G q) V Hs len T (hI2 _) (hE2 _) (hO2 _) ?_
  have e9 : ∀ F F', mrow (mrow (mrow M 110 f) 111 F) 111 F' = mrow (mrow M 110 f) 111 F' := fun F F' => mrow_mrow _ _ _ _
  refine r_mem (e9 (fun _ => 0) (fun _ => 0)).symm ?_
  refine is_b hG2 C2 (addS_n G q) V Hs len T (hI2 (fun _ => 0)) (hE2 _) (hO2 _) (fun _ => 0) (fun _ _ => rfl) (fun a b F ha hb hF => ?_)
  refine r_mem (e9 (fun _ => 0) F) ?_
  refine is_e hG2 C2 (addS_n G q) V Hs len T (hI2 _) (hE2 _) (hO2 _) a b ?_
  refine is_g hG2 C2 (addS_n G q) V Hs len T (hI2 _) (hE2 _) (hO2 _) hfl a b ha hb (fun w hw => by rw [mrow_at]; exact hF w hw) (fun kk nn hk hn => ?_)
  refine r_dropS h0 hq ?_
  exact hend 1 _ _ _ _ _ _ hk hn dL_isSo_1037 rfl ⟨⟨rfl, hI2 _, hE2 _⟩, rfl⟩
