theorem gset_at (g : Glo) (k i : Nat) (x : Int64) : gset g k i x k i = x := by
  simp [gset, vp_updL]
theorem gset_again (g : Glo) (k i : Nat) (x y : Int64) : gset (gset g k i x) k i y = gset g k i y := by
  funext q j
  by_cases h1 : q = k
  · subst h1
    by_cases h2 : j = i <;> simp [gset, vp_updL, h2]
  · simp [gset, h1]
theorem frT.tw {M N N' : Mem} (h : frT M N) (h' : frW N N') : frT M N' := ⟨fun q a b => (h'.1 q a b).trans (h.1 q a b), fun i a b => (h'.2 i a).trans (h.2 i a b)⟩
def fHk (V : View) (k : Nat) (x : Int64) : Int64 := foldA (heatF V (k / 6)) (k % 6) (fHea V (k / 6) x)
theorem fHk_s {V : View} {k : Nat} {x : Int64} (hk : 6 ≤ k) : fHk V (k + 1) x = foldF (fHk V k x) (heatF V (k / 6) (k % 6)).toInt64 := by
  unfold fHk
  by_cases h : k % 6 = 5
  · have e1 : (k + 1) / 6 = k / 6 + 1 := by omega
    have e2 : (k + 1) % 6 = 0 := by omega
    rw [e1, e2, foldA_0, h, ← foldA_s, fHea, if_neg (by omega)]
  · have e1 : (k + 1) / 6 = k / 6 := by omega
    have e2 : (k + 1) % 6 = k % 6 + 1 := by omega
    rw [e1, e2, foldA_s]
theorem fHk_e {V : View} {n : Nat} {x : Int64} : fHk V (6 * n) x = fHea V n x := by
  unfold fHk
  rw [show 6 * n / 6 = n by omega, show 6 * n % 6 = 0 by omega, foldA_0]
def fBk (V : View) (k : Nat) (x : Int64) : Int64 := foldA (boiF V (k / 5)) (k % 5) (fBoi V (k / 5) x)
theorem fBk_s {V : View} {k : Nat} {x : Int64} : fBk V (k + 1) x = foldF (fBk V k x) (boiF V (k / 5) (k % 5)).toInt64 := by
  unfold fBk
  by_cases h : k % 5 = 4
  · have e1 : (k + 1) / 5 = k / 5 + 1 := by omega
    have e2 : (k + 1) % 5 = 0 := by omega
    rw [e1, e2, foldA_0, h, ← foldA_s, fBoi]
  · have e1 : (k + 1) / 5 = k / 5 := by omega
    have e2 : (k + 1) % 5 = k % 5 + 1 := by omega
    rw [e1, e2, foldA_s]
theorem fBk_e {V : View} {n : Nat} {x : Int64} : fBk V (5 * n) x = fBoi V n x := by
  unfold fBk
  rw [show 5 * n / 5 = n by omega, show 5 * n % 5 = 0 by omega, foldA_0]
set_option maxRecDepth 20000 in
set_option maxHeartbeats 1000000 in
theorem c_X8_mix (l : Launch) (G : mG) (hG : mInj G) (M : Mem) (g : Glo) (g0 : Glo) (X : Int64) (hg : g = gset g0 107 15 X) (x : Int32) : mcV l G yX8_mix cX8_mix 2 1 [.ref (mA G 107), .int x] M g (fun M' g' => M' = M ∧ g' = gset g0 107 15 (foldF X x.toInt64)) := by
  refine mcV_of (L0 := [(0, .ref (mA G 107)), (1, .int x)]) hG (by decide) (Nat.le_of_ble_eq_true rfl) rfl ?_
  intro p e s m args below meth c Q C hend
  refine r_aload_n C dX8_mix_0 0 rfl ?_
  refine r_ldc2 (v := 31) C dX8_mix_1 (gd_t 1204 (by decide +kernel) rfl) ?_
  refine r_aload_n C dX8_mix_4 0 rfl ?_
  refine r_getl C dX8_mix_5 15 f_X8_203 rfl rfl ?_
  refine r_lmul C dX8_mix_8 ?_
  refine r_iload_n C dX8_mix_9 1 rfl ?_
  refine r_i2l C dX8_mix_10 ?_
  refine r_ladd C dX8_mix_11 ?_
  refine r_putl C dX8_mix_12 15 fi_X8_203 rfl rfl ?_
  exact hend _ _ _ _ dX8_mix_15 (by subst hg; exact ⟨rfl, by rw [gset_again, gset_at]; rfl⟩)

set_option maxRecDepth 20000 in
set_option maxHeartbeats 1000000 in
theorem c_X8_digest (l : Launch) (G : mG) (hG : mInj G) (M : Mem) (g : Glo) (V : View) (Hs : List View) (len : Nat) (T : Nat → Int32) (hW : wfV V) (hI : rINV M V Hs len T) : mcL l G yX8_digest cX8_digest 3 6 [.ref (mA G 107)] M g (fun r M' g' => r = digF V len Hs.length ∧ frT M M' ∧ ∃ X, g' = gset g 107 15 X) := by
  refine mcL_of (L0 := [(0, .ref (mA G 107))]) hG (by decide) (Nat.le_of_ble_eq_true rfl) rfl ?_
  intro p e s m args below meth c Q C hend
  have hT := hW.1
  obtain ⟨hn1, hn16, hb4, ⟨hd0, hd3, hd5, hd6⟩, hpar⟩ := id hT
  have hV := hI.1
  refine r_aload_n C dX8_digest_0 0 rfl ?_
  refine r_iconst (v := 0) C dX8_digest_1 rfl ?_
  refine r_puti C dX8_digest_2 6 fi_X8_37 rfl rfl ?_
  refine r_aload_n C dX8_digest_5 0 rfl ?_
  refine r_callVV (As := []) (rest := []) C dX8_digest_6 s_X8_126 (c_X8_works l G hG (mset M 107 6 0) g V hW (by rw [mset_ne (by decide)]; exact hV)) (by decide) rfl rfl rfl rfl (Nat.le_of_ble_eq_true rfl) (Nat.le_of_ble_eq_true rfl) (Nat.le_of_ble_eq_true rfl) (fun M6 g6 hp6 => ?_)
  obtain ⟨⟨o6, hR6⟩, eg6⟩ := hp6
  rw [eg6]
  have hf6 : frT M M6 := (((frW.rf M).t).th 0).tw (frW.of o6)
  refine r_aload_n C dX8_digest_9 0 rfl ?_
  refine r_ldc2 (v := 3407) C dX8_digest_10 (gd_t 1199 (by decide +kernel) rfl) ?_
  refine r_putl C dX8_digest_13 15 fi_X8_203 rfl rfl ?_
  refine r_aload_n C dX8_digest_16 0 rfl ?_
  refine r_aload_n C dX8_digest_17 0 rfl ?_
  refine r_geti C dX8_digest_18 5 f_X8_182 rfl rfl ?_
  refine r_valI (y := nI len) ((hf6.2 5 (by decide) (by decide)).trans hI.2.2.1) ?_
  refine r_callVV (As := [.int (nI len)]) (rest := []) C dX8_digest_21 s_X8_209 (c_X8_mix l G hG M6 (gset g 107 15 3407) g 3407 rfl (nI len)) (by decide) rfl rfl rfl rfl (Nat.le_of_ble_eq_true rfl) (Nat.le_of_ble_eq_true rfl) (Nat.le_of_ble_eq_true rfl) (pk_V ?_)
  refine r_iconst (v := nI 0) C dX8_digest_24 rfl ?_
  refine r_istore_n (L' := [(1, .int (nI 0)), (0, .ref (mA G 107))]) C dX8_digest_25 (by decide) rfl ?_
  have lp26 : ∀ (fu : Nat) (N : Mem) (k : Nat) (X : Int64), (k ≤ 15) → (frT M N) → (rOK N V) → (0 < k → ∀ b, b < vB V → N 116 b = loadF V (needF V (vSup V)) b) → (X = foldA (valF V) k (foldF 3407 (nI len).toInt64)) → (15 - k) < fu → At p l e (rmD 6 0 0) s m args below meth c G 3 0 0 Q N (gset g 107 15 X) [(1, .int (nI k)), (0, .ref (mA G 107))] 26 [] := by
    intro fu
    induction fu with
    | zero => intro N k X hkn hN hRN hL hx hfu; exact absurd hfu (Nat.not_lt_zero _)
    | succ fu ih26 =>
      intro N k X hkn hN hRN hL hx hfu26
      have hVN : rV (N 108) V := by rw [hN.1 108 (by decide) (by decide)]; exact hV
      refine r_iload_n C dX8_digest_26 0 rfl ?_
      refine r_bipush (v := 15) C dX8_digest_27 rfl ?_
      refine r_icmp_ge (tgt := 47) C dX8_digest_29 (by decide) (fun c29 => ?_) (fun c29 => ?_)
      ·
        have h29 : k = 15 := by have := le_of_le (a := 15) (by decide) (by omega) c29; omega
        refine r_iconst (v := nI 0) C dX8_digest_47 rfl ?_
        refine r_istore_n (L' := [(1, .int (nI 0)), (0, .ref (mA G 107))]) C dX8_digest_48 (by decide) rfl ?_
        have lp49 : ∀ (fu : Nat) (k2 : Nat) (X2 : Int64), (k2 ≤ 3) → (X2 = foldA (sumF V) k2 X) → (3 - k2) < fu → At p l e (rmD 6 0 0) s m args below meth c G 3 0 0 Q N (gset g 107 15 X2) [(1, .int (nI k2)), (0, .ref (mA G 107))] 49 [] := by
          intro fu
          induction fu with
          | zero => intro k2 X2 hkn2 hx2 hfu; exact absurd hfu (Nat.not_lt_zero _)
          | succ fu ih49 =>
            intro k2 X2 hkn2 hx2 hfu49
            refine r_iload_n C dX8_digest_49 0 rfl ?_
            refine r_iconst (v := 3) C dX8_digest_50 rfl ?_
            refine r_icmp_ge (tgt := 69) C dX8_digest_51 (by decide) (fun c51 => ?_) (fun c51 => ?_)
            ·
              have h51 : k2 = 3 := by have := le_of_le (a := 3) (by decide) (by omega) c51; omega
              refine r_iconst (v := nI 0) C dX8_digest_69 rfl ?_
              refine r_istore_n (L' := [(1, .int (nI 0)), (0, .ref (mA G 107))]) C dX8_digest_70 (by decide) rfl ?_
              have lp71 : ∀ (fu : Nat) (k3 : Nat) (X3 : Int64), (k3 ≤ vN V) → (X3 = fNod V k3 X2) → (vN V - k3) < fu → At p l e (rmD 6 0 0) s m args below meth c G 3 0 0 Q N (gset g 107 15 X3) [(1, .int (nI k3)), (0, .ref (mA G 107))] 71 [] := by
                intro fu
                induction fu with
                | zero => intro k3 X3 hkn3 hx3 hfu; exact absurd hfu (Nat.not_lt_zero _)
                | succ fu ih71 =>
                  intro k3 X3 hkn3 hx3 hfu71
                  refine r_iload_n C dX8_digest_71 0 rfl ?_
                  refine r_aload_n C dX8_digest_72 1 rfl ?_
                  refine r_getr (q2 := 108) C dX8_digest_73 0 f_X8_7 rfl rfl ?_
                  refine r_iconst (v := 5) C dX8_digest_76 rfl ?_
                  refine r_ialdN (j := 5) (v := nI (vN V)) C dX8_digest_77 rfl (rfl) (by omega) (by decide) (hVN.1.1) ?_
                  refine r_icmp_ge (tgt := 138) C dX8_digest_78 (by decide) (fun c78 => ?_) (fun c78 => ?_)
                  ·
                    have h78 : k3 = vN V := by have := le_of_le (by omega) (by omega) c78; omega
                    refine r_bipush (v := nI 6) C dX8_digest_138 rfl ?_
                    refine r_istore_n (L' := [(1, .int (nI 6)), (0, .ref (mA G 107))]) C dX8_digest_140 (by decide) rfl ?_
                    have lp141 : ∀ (fu : Nat) (k5 : Nat) (X5 : Int64), (6 ≤ k5 ∧ k5 ≤ 6 * vN V) → (X5 = fHk V k5 X3) → (6 * vN V - k5) < fu → At p l e (rmD 6 0 0) s m args below meth c G 3 0 0 Q N (gset g 107 15 X5) [(1, .int (nI k5)), (0, .ref (mA G 107))] 141 [] := by
                      intro fu
                      induction fu with
                      | zero => intro k5 X5 hkn5 hx5 hfu; exact absurd hfu (Nat.not_lt_zero _)
                      | succ fu ih141 =>
                        intro k5 X5 hkn5 hx5 hfu141
                        refine r_iload_n C dX8_digest_141 0 rfl ?_
                        refine r_bipush (v := 6) C dX8_digest_142 rfl ?_
                        refine r_aload_n C dX8_digest_144 1 rfl ?_
                        refine r_getr (q2 := 108) C dX8_digest_145 0 f_X8_7 rfl rfl ?_
                        refine r_iconst (v := 5) C dX8_digest_148 rfl ?_
                        refine r_ialdN (j := 5) (v := nI (vN V)) C dX8_digest_149 rfl (rfl) (by omega) (by decide) (hVN.1.1) ?_
                        refine r_imul C dX8_digest_150 ?_
                        refine r_valI (y := nI (6 * vN V)) (nI_mulN 6 (vN V)) ?_
                        refine r_icmp_ge (tgt := 176) C dX8_digest_151 (by decide) (fun c151 => ?_) (fun c151 => ?_)
                        ·
                          have h151 : k5 = 6 * vN V := by have := le_of_le (by omega) (by omega) c151; omega
                          refine r_iconst (v := nI 0) C dX8_digest_176 rfl ?_
                          refine r_istore_n (L' := [(1, .int (nI 0)), (0, .ref (mA G 107))]) C dX8_digest_177 (by decide) rfl ?_
                          have lp178 : ∀ (fu : Nat) (k6 : Nat) (X6 : Int64), (k6 ≤ 5 * vB V) → (X6 = fBk V k6 X5) → (5 * vB V - k6) < fu → At p l e (rmD 6 0 0) s m args below meth c G 3 0 0 Q N (gset g 107 15 X6) [(1, .int (nI k6)), (0, .ref (mA G 107))] 178 [] := by
                            intro fu
                            induction fu with
                            | zero => intro k6 X6 hkn6 hx6 hfu; exact absurd hfu (Nat.not_lt_zero _)
                            | succ fu ih178 =>
                              intro k6 X6 hkn6 hx6 hfu178
                              refine r_iload_n C dX8_digest_178 0 rfl ?_
                              refine r_iconst (v := 5) C dX8_digest_179 rfl ?_
                              refine r_aload_n C dX8_digest_180 1 rfl ?_
                              refine r_getr (q2 := 108) C dX8_digest_181 0 f_X8_7 rfl rfl ?_
                              refine r_bipush (v := 6) C dX8_digest_184 rfl ?_
                              refine r_ialdN (j := 6) (v := nI (vB V)) C dX8_digest_186 rfl (rfl) (by omega) (by decide) (hVN.1.2) ?_
                              refine r_imul C dX8_digest_187 ?_
                              refine r_valI (y := nI (5 * vB V)) (nI_mulN 5 (vB V)) ?_
                              refine r_icmp_ge (tgt := 211) C dX8_digest_188 (by decide) (fun c188 => ?_) (fun c188 => ?_)
                              ·
                                have h188 : k6 = 5 * vB V := by have := le_of_le (by omega) (by omega) c188; omega
                                refine r_aload_n C dX8_digest_211 1 rfl ?_
                                refine r_aload_n C dX8_digest_212 1 rfl ?_
                                refine r_callVI (As := []) (rest := [.ref (mA G 107)]) C dX8_digest_213 s_X8_172 (c_X8_suspectMany l G hG N (gset g 107 15 X6) V hW hVN) (by decide) rfl rfl rfl rfl (Nat.le_of_ble_eq_true rfl) (Nat.le_of_ble_eq_true rfl) (Nat.le_of_ble_eq_true rfl) (pk_I ?_)
                                refine r_callVV (As := [.int (susF V (vD V 6))]) (rest := []) C dX8_digest_216 s_X8_209 (c_X8_mix l G hG N (gset g 107 15 X6) g X6 rfl (susF V (vD V 6))) (by decide) rfl rfl rfl rfl (Nat.le_of_ble_eq_true rfl) (Nat.le_of_ble_eq_true rfl) (Nat.le_of_ble_eq_true rfl) (pk_V ?_)
                                refine r_aload_n C dX8_digest_219 1 rfl ?_
                                refine r_aload_n C dX8_digest_220 1 rfl ?_
                                refine r_geti C dX8_digest_221 3 f_X8_41 rfl rfl ?_
                                refine r_valI (y := nI Hs.length) ((hN.2 3 (by decide) (by decide)).trans hI.2.1.1) ?_
                                refine r_callVV (As := [.int (nI Hs.length)]) (rest := []) C dX8_digest_224 s_X8_209 (c_X8_mix l G hG N (gset g 107 15 (foldF X6 (susF V (vD V 6)).toInt64)) g (foldF X6 (susF V (vD V 6)).toInt64) rfl (nI Hs.length)) (by decide) rfl rfl rfl rfl (Nat.le_of_ble_eq_true rfl) (Nat.le_of_ble_eq_true rfl) (Nat.le_of_ble_eq_true rfl) (pk_V ?_)
                                refine r_aload_n C dX8_digest_227 1 rfl ?_
                                refine r_getl C dX8_digest_228 15 f_X8_203 rfl rfl ?_
                                exact hend _ _ _ _ _ dX8_digest_231 (⟨by rw [gset_at, hx6, h188, fBk_e, hx5, h151, fHk_e, hx3, h78, hx2, h51, hx, h29]; rfl, hN, _, rfl⟩)
                              ·
                                have hlt : k6 < 5 * vB V := lt_of_nle (by omega) c188
                                refine r_aload_n C dX8_digest_191 1 rfl ?_
                                refine r_aload_n C dX8_digest_192 1 rfl ?_
                                refine r_iload_n C dX8_digest_193 0 rfl ?_
                                refine r_iconst (v := 5) C dX8_digest_194 rfl ?_
                                refine r_idiv C dX8_digest_195 (by decide) ?_
                                refine r_valI (y := nI (k6 / 5)) (pk_div (d := 5) (by omega) (by decide) (by decide)) ?_
                                refine r_iload_n C dX8_digest_196 0 rfl ?_
                                refine r_iconst (v := 5) C dX8_digest_197 rfl ?_
                                refine r_irem C dX8_digest_198 (by decide) ?_
                                refine r_valI (y := nI (k6 % 5)) (pk_rem (d := 5) (by omega) (by decide) (by decide)) ?_
                                refine r_callVI (As := [.int (nI (k6 / 5)), .int (nI (k6 % 5))]) (rest := [.ref (mA G 107)]) C dX8_digest_199 s_X8_151 (c_X8_boilerOf l G hG N (gset g 107 15 X6) V hW hVN (hL (by omega)) (k6 / 5) (by omega) (k6 % 5) (by omega)) (by decide) rfl rfl rfl rfl (Nat.le_of_ble_eq_true rfl) (Nat.le_of_ble_eq_true rfl) (Nat.le_of_ble_eq_true rfl) (pk_I ?_)
                                refine r_callVV (As := [.int (boiF V (k6 / 5) (k6 % 5))]) (rest := []) C dX8_digest_202 s_X8_209 (c_X8_mix l G hG N (gset g 107 15 X6) g X6 rfl (boiF V (k6 / 5) (k6 % 5))) (by decide) rfl rfl rfl rfl (Nat.le_of_ble_eq_true rfl) (Nat.le_of_ble_eq_true rfl) (Nat.le_of_ble_eq_true rfl) (pk_V ?_)
                                refine r_iinc (v := nI (k6 + 1)) (L' := [(1, .int (nI (k6 + 1))), (0, .ref (mA G 107))]) C dX8_digest_205 0 rfl (nI_inc _) (by decide) rfl ?_
                                refine r_goto (tgt := 178) C dX8_digest_208 (by decide) ?_
                                refine r_sub (L' := [(1, .int (nI (k6 + 1))), (0, .ref (mA G 107))]) [0, 1] rfl ?_
                                exact ih178 (k6 + 1) _ (by omega) (by rw [hx6, fBk_s]) (by omega)
                          refine r_sub (L' := [(1, .int (nI 0)), (0, .ref (mA G 107))]) [0, 1] rfl ?_
                          exact lp178 _ 0 _ (by omega) rfl (Nat.lt_succ_self _)
                        ·
                          have hlt : k5 < 6 * vN V := lt_of_nle (by omega) c151
                          refine r_aload_n C dX8_digest_154 1 rfl ?_
                          refine r_aload_n C dX8_digest_155 1 rfl ?_
                          refine r_iload_n C dX8_digest_156 0 rfl ?_
                          refine r_bipush (v := 6) C dX8_digest_157 rfl ?_
                          refine r_idiv C dX8_digest_159 (by decide) ?_
                          refine r_valI (y := nI (k5 / 6)) (pk_div (d := 6) (by omega) (by decide) (by decide)) ?_
                          refine r_iload_n C dX8_digest_160 0 rfl ?_
                          refine r_bipush (v := 6) C dX8_digest_161 rfl ?_
                          refine r_irem C dX8_digest_163 (by decide) ?_
                          refine r_valI (y := nI (k5 % 6)) (pk_rem (d := 6) (by omega) (by decide) (by decide)) ?_
                          refine r_callVI (As := [.int (nI (k5 / 6)), .int (nI (k5 % 6))]) (rest := [.ref (mA G 107)]) C dX8_digest_164 s_X8_64 (c_X8_heatOf l G hG N (gset g 107 15 X5) V hW hVN hRN (k5 / 6) (by omega) (by omega) (k5 % 6) (by omega)) (by decide) rfl rfl rfl rfl (Nat.le_of_ble_eq_true rfl) (Nat.le_of_ble_eq_true rfl) (Nat.le_of_ble_eq_true rfl) (pk_I ?_)
                          refine r_callVV (As := [.int (heatF V (k5 / 6) (k5 % 6))]) (rest := []) C dX8_digest_167 s_X8_209 (c_X8_mix l G hG N (gset g 107 15 X5) g X5 rfl (heatF V (k5 / 6) (k5 % 6))) (by decide) rfl rfl rfl rfl (Nat.le_of_ble_eq_true rfl) (Nat.le_of_ble_eq_true rfl) (Nat.le_of_ble_eq_true rfl) (pk_V ?_)
                          refine r_iinc (v := nI (k5 + 1)) (L' := [(1, .int (nI (k5 + 1))), (0, .ref (mA G 107))]) C dX8_digest_170 0 rfl (nI_inc _) (by decide) rfl ?_
                          refine r_goto (tgt := 141) C dX8_digest_173 (by decide) ?_
                          refine r_sub (L' := [(1, .int (nI (k5 + 1))), (0, .ref (mA G 107))]) [0, 1] rfl ?_
                          exact ih141 (k5 + 1) _ (by omega) (by rw [hx5, fHk_s hkn5.1]) (by omega)
                    refine r_sub (L' := [(1, .int (nI 6)), (0, .ref (mA G 107))]) [0, 1] rfl ?_
                    exact lp141 _ 6 _ (by omega) rfl (Nat.lt_succ_self _)
                  ·
                    have hlt3 : k3 < vN V := lt_of_nle (by omega) c78
                    refine r_iconst (v := nI 0) C dX8_digest_81 rfl ?_
                    refine r_istore_n (L' := [(2, .int (nI 0)), (1, .int (nI k3)), (0, .ref (mA G 107))]) C dX8_digest_82 (by decide) rfl ?_
                    have lp83 : ∀ (fu : Nat) (w : Nat) (X4 : Int64), (w ≤ 12) → (X4 = foldA (nodeF V k3) w X3) → (12 - w) < fu → At p l e (rmD 6 0 0) s m args below meth c G 3 0 0 Q N (gset g 107 15 X4) [(2, .int (nI w)), (1, .int (nI k3)), (0, .ref (mA G 107))] 83 [] := by
                      intro fu
                      induction fu with
                      | zero => intro w X4 hkn4 hx4 hfu; exact absurd hfu (Nat.not_lt_zero _)
                      | succ fu ih83 =>
                        intro w X4 hkn4 hx4 hfu83
                        refine r_iload_n C dX8_digest_83 0 rfl ?_
                        refine r_bipush (v := 12) C dX8_digest_84 rfl ?_
                        refine r_icmp_ge (tgt := 105) C dX8_digest_86 (by decide) (fun c86 => ?_) (fun c86 => ?_)
                        ·
                          have h86 : w = 12 := by have := le_of_le (a := 12) (by decide) (by omega) c86; omega
                          refine r_aload_n C dX8_digest_105 2 rfl ?_
                          refine r_aload_n C dX8_digest_106 2 rfl ?_
                          refine r_iload_n C dX8_digest_107 1 rfl ?_
                          refine r_callVI (As := [.int (nI k3)]) (rest := [.ref (mA G 107)]) C dX8_digest_108 s_X8_160 (c_X8_balanceOf l G hG N (gset g 107 15 X4) V hW hVN k3 hlt3) (by decide) rfl rfl rfl rfl (Nat.le_of_ble_eq_true rfl) (Nat.le_of_ble_eq_true rfl) (Nat.le_of_ble_eq_true rfl) (pk_I ?_)
                          refine r_callVV (As := [.int (balF (vD V 6) (lkF V (vD V 6)) k3)]) (rest := []) C dX8_digest_111 s_X8_209 (c_X8_mix l G hG N (gset g 107 15 X4) g X4 rfl (balF (vD V 6) (lkF V (vD V 6)) k3)) (by decide) rfl rfl rfl rfl (Nat.le_of_ble_eq_true rfl) (Nat.le_of_ble_eq_true rfl) (Nat.le_of_ble_eq_true rfl) (pk_V ?_)
                          refine r_aload_n C dX8_digest_114 2 rfl ?_
                          refine r_aload_n C dX8_digest_115 2 rfl ?_
                          refine r_iload_n C dX8_digest_116 1 rfl ?_
                          refine r_callVI (As := [.int (nI k3)]) (rest := [.ref (mA G 107)]) C dX8_digest_117 s_X8_163 (c_X8_regionOf l G hG N (gset g 107 15 (foldF X4 (balF (vD V 6) (lkF V (vD V 6)) k3).toInt64)) V hW hVN k3 hlt3) (by decide) rfl rfl rfl rfl (Nat.le_of_ble_eq_true rfl) (Nat.le_of_ble_eq_true rfl) (Nat.le_of_ble_eq_true rfl) (pk_I ?_)
                          refine r_callVV (As := [.int (balF (vD V 6) (szF V (vD V 6)) k3)]) (rest := []) C dX8_digest_120 s_X8_209 (c_X8_mix l G hG N (gset g 107 15 (foldF X4 (balF (vD V 6) (lkF V (vD V 6)) k3).toInt64)) g (foldF X4 (balF (vD V 6) (lkF V (vD V 6)) k3).toInt64) rfl (balF (vD V 6) (szF V (vD V 6)) k3)) (by decide) rfl rfl rfl rfl (Nat.le_of_ble_eq_true rfl) (Nat.le_of_ble_eq_true rfl) (Nat.le_of_ble_eq_true rfl) (pk_V ?_)
                          refine r_aload_n C dX8_digest_123 2 rfl ?_
                          refine r_aload_n C dX8_digest_124 2 rfl ?_
                          refine r_iload_n C dX8_digest_125 1 rfl ?_
                          refine r_callVI (As := [.int (nI k3)]) (rest := [.ref (mA G 107)]) C dX8_digest_126 s_X8_169 (c_X8_nextOf l G hG N (gset g 107 15 (foldF (foldF X4 (balF (vD V 6) (lkF V (vD V 6)) k3).toInt64) (balF (vD V 6) (szF V (vD V 6)) k3).toInt64)) V hW hVN k3 hlt3) (by decide) rfl rfl rfl rfl (Nat.le_of_ble_eq_true rfl) (Nat.le_of_ble_eq_true rfl) (Nat.le_of_ble_eq_true rfl) (pk_I ?_)
                          refine r_callVV (As := [.int (nextF V (vD V 6) k3)]) (rest := []) C dX8_digest_129 s_X8_209 (c_X8_mix l G hG N (gset g 107 15 (foldF (foldF X4 (balF (vD V 6) (lkF V (vD V 6)) k3).toInt64) (balF (vD V 6) (szF V (vD V 6)) k3).toInt64)) g (foldF (foldF X4 (balF (vD V 6) (lkF V (vD V 6)) k3).toInt64) (balF (vD V 6) (szF V (vD V 6)) k3).toInt64) rfl (nextF V (vD V 6) k3)) (by decide) rfl rfl rfl rfl (Nat.le_of_ble_eq_true rfl) (Nat.le_of_ble_eq_true rfl) (Nat.le_of_ble_eq_true rfl) (pk_V ?_)
                          refine r_iinc (v := nI (k3 + 1)) (L' := [(1, .int (nI (k3 + 1))), (2, .int (nI w)), (0, .ref (mA G 107))]) C dX8_digest_132 1 rfl (nI_inc _) (by decide) rfl ?_
                          refine r_goto (tgt := 71) C dX8_digest_135 (by decide) ?_
                          refine r_sub (L' := [(1, .int (nI (k3 + 1))), (0, .ref (mA G 107))]) [0, 2] rfl ?_
                          exact ih71 (k3 + 1) _ (by omega) (by rw [hx4, h86, hx3]; rfl) (by omega)
                        ·
                          have hlt : w < 12 := lt_of_nle (b := 12) (by omega) c86
                          refine r_aload_n C dX8_digest_89 2 rfl ?_
                          refine r_aload_n C dX8_digest_90 2 rfl ?_
                          refine r_iload_n C dX8_digest_91 1 rfl ?_
                          refine r_iload_n C dX8_digest_92 0 rfl ?_
                          refine r_callVI (As := [.int (nI k3), .int (nI w)]) (rest := [.ref (mA G 107)]) C dX8_digest_93 s_X8_129 (c_X8_nodeOf l G hG N (gset g 107 15 X4) V hW hVN hRN k3 hlt3 w (by omega)) (by decide) rfl rfl rfl rfl (Nat.le_of_ble_eq_true rfl) (Nat.le_of_ble_eq_true rfl) (Nat.le_of_ble_eq_true rfl) (pk_I ?_)
                          refine r_callVV (As := [.int (nodeF V k3 w)]) (rest := []) C dX8_digest_96 s_X8_209 (c_X8_mix l G hG N (gset g 107 15 X4) g X4 rfl (nodeF V k3 w)) (by decide) rfl rfl rfl rfl (Nat.le_of_ble_eq_true rfl) (Nat.le_of_ble_eq_true rfl) (Nat.le_of_ble_eq_true rfl) (pk_V ?_)
                          refine r_iinc (v := nI (w + 1)) (L' := [(2, .int (nI (w + 1))), (1, .int (nI k3)), (0, .ref (mA G 107))]) C dX8_digest_99 0 rfl (nI_inc _) (by decide) rfl ?_
                          refine r_goto (tgt := 83) C dX8_digest_102 (by decide) ?_
                          refine r_sub (L' := [(2, .int (nI (w + 1))), (1, .int (nI k3)), (0, .ref (mA G 107))]) [0, 1, 2] rfl ?_
                          exact ih83 (w + 1) _ (by omega) (by rw [hx4]; rfl) (by omega)
                    refine r_sub (L' := [(2, .int (nI 0)), (1, .int (nI k3)), (0, .ref (mA G 107))]) [0, 1, 2] rfl ?_
                    exact lp83 _ 0 _ (by omega) rfl (Nat.lt_succ_self _)
              refine r_sub (L' := [(1, .int (nI 0)), (0, .ref (mA G 107))]) [0, 1] rfl ?_
              exact lp71 _ 0 _ (by omega) rfl (Nat.lt_succ_self _)
            ·
              have hlt : k2 < 3 := lt_of_nle (b := 3) (by omega) c51
              refine r_aload_n C dX8_digest_54 1 rfl ?_
              refine r_aload_n C dX8_digest_55 1 rfl ?_
              refine r_iload_n C dX8_digest_56 0 rfl ?_
              refine r_callVI (As := [.int (nI k2)]) (rest := [.ref (mA G 107)]) C dX8_digest_57 s_X8_144 (c_X8_sumOf l G hG N (gset g 107 15 X2) V hW hVN hRN k2 (by omega)) (by decide) rfl rfl rfl rfl (Nat.le_of_ble_eq_true rfl) (Nat.le_of_ble_eq_true rfl) (Nat.le_of_ble_eq_true rfl) (pk_I ?_)
              refine r_callVV (As := [.int (sumF V k2)]) (rest := []) C dX8_digest_60 s_X8_209 (c_X8_mix l G hG N (gset g 107 15 X2) g X2 rfl (sumF V k2)) (by decide) rfl rfl rfl rfl (Nat.le_of_ble_eq_true rfl) (Nat.le_of_ble_eq_true rfl) (Nat.le_of_ble_eq_true rfl) (pk_V ?_)
              refine r_iinc (v := nI (k2 + 1)) (L' := [(1, .int (nI (k2 + 1))), (0, .ref (mA G 107))]) C dX8_digest_63 0 rfl (nI_inc _) (by decide) rfl ?_
              refine r_goto (tgt := 49) C dX8_digest_66 (by decide) ?_
              refine r_sub (L' := [(1, .int (nI (k2 + 1))), (0, .ref (mA G 107))]) [0, 1] rfl ?_
              exact ih49 (k2 + 1) _ (by omega) (by rw [hx2]; rfl) (by omega)
        refine r_sub (L' := [(1, .int (nI 0)), (0, .ref (mA G 107))]) [0, 1] rfl ?_
        exact lp49 _ 0 _ (by omega) rfl (Nat.lt_succ_self _)
      ·
        have hlt : k < 15 := lt_of_nle (b := 15) (by omega) c29
        refine r_aload_n C dX8_digest_32 1 rfl ?_
        refine r_aload_n C dX8_digest_33 1 rfl ?_
        refine r_iload_n C dX8_digest_34 0 rfl ?_
        refine r_callVI (As := [.int (nI k)]) (rest := [.ref (mA G 107)]) C dX8_digest_35 s_X8_141 (c_X8_valueOf l G hG N (gset g 107 15 X) V hW hVN hRN k (by omega)) (by decide) rfl rfl rfl rfl (Nat.le_of_ble_eq_true rfl) (Nat.le_of_ble_eq_true rfl) (Nat.le_of_ble_eq_true rfl) (fun r35 M35 g35 hp35 => ?_)
        obtain ⟨⟨e35, hc35⟩, eg35⟩ := hp35
        rw [eg35]
        refine r_valI (y := valF V k) (e35) ?_
        refine r_callVV (As := [.int (valF V k)]) (rest := []) C dX8_digest_38 s_X8_209 (c_X8_mix l G hG M35 (gset g 107 15 X) g X rfl (valF V k)) (by decide) rfl rfl rfl rfl (Nat.le_of_ble_eq_true rfl) (Nat.le_of_ble_eq_true rfl) (Nat.le_of_ble_eq_true rfl) (pk_V ?_)
        refine r_iinc (v := nI (k + 1)) (L' := [(1, .int (nI (k + 1))), (0, .ref (mA G 107))]) C dX8_digest_41 0 rfl (nI_inc _) (by decide) rfl ?_
        refine r_goto (tgt := 26) C dX8_digest_44 (by decide) ?_
        refine r_sub (L' := [(1, .int (nI (k + 1))), (0, .ref (mA G 107))]) [0, 1] rfl ?_
        exact ih26 _ (k + 1) _ (by omega) (hN.tw hc35.fr) (hc35.ok hRN) (fun _ b hb => hc35.ld hb) (by rw [hx]; rfl) (by omega)
  refine r_sub (L' := [(1, .int (nI 0)), (0, .ref (mA G 107))]) [0, 1] rfl ?_
  exact lp26 _ _ 0 _ (by omega) hf6 hR6 (fun z => absurd z (by decide)) rfl (Nat.lt_succ_self _)

set_option maxRecDepth 20000 in
set_option maxHeartbeats 1000000 in
theorem c_X8_efficiency (l : Launch) (G : mG) (hG : mInj G) (M : Mem) (g : Glo) (V : View) (Hs : List View) (len : Nat) (T : Nat → Int32) (hW : wfV V) (hI : rINV M V Hs len T) : mcD l G yX8_efficiency cX8_efficiency 2 6 [.ref (mA G 107)] M g (fun r M' g' => r = effF V ∧ frT M M' ∧ g' = g) := by
  refine mcD_of (L0 := [(0, .ref (mA G 107))]) hG (by decide) (Nat.le_of_ble_eq_true rfl) rfl ?_
  intro p e s m args below meth c Q C hend
  have hT := hW.1
  obtain ⟨hn1, hn16, hb4, ⟨hd0, hd3, hd5, hd6⟩, hpar⟩ := id hT
  have hV := hI.1
  refine r_aload_n C dX8_efficiency_0 0 rfl ?_
  refine r_iconst (v := 0) C dX8_efficiency_1 rfl ?_
  refine r_puti C dX8_efficiency_2 6 fi_X8_37 rfl rfl ?_
  refine r_aload_n C dX8_efficiency_5 0 rfl ?_
  refine r_callVV (As := []) (rest := []) C dX8_efficiency_6 s_X8_126 (c_X8_works l G hG (mset M 107 6 0) g V hW (by rw [mset_ne (by decide)]; exact hV)) (by decide) rfl rfl rfl rfl (Nat.le_of_ble_eq_true rfl) (Nat.le_of_ble_eq_true rfl) (Nat.le_of_ble_eq_true rfl) (fun M6 g6 hp6 => ?_)
  obtain ⟨⟨o6, hR6⟩, eg6⟩ := hp6
  rw [eg6]
  have hf6 : frT M M6 := (((frW.rf M).t).th 0).tw (frW.of o6)
  have hV6 : rV (M6 108) V := by rw [hf6.1 108 (by decide) (by decide)]; exact hV
  refine r_aload_n C dX8_efficiency_9 0 rfl ?_
  refine r_getr (q2 := 112) C dX8_efficiency_10 7 f_X8_22 rfl rfl ?_
  refine r_iconst (v := 0) C dX8_efficiency_13 rfl ?_
  refine r_ialdN (j := 0) (v := flowF V 0) C dX8_efficiency_14 rfl (rfl) (by omega) (by decide) ((hR6 0 (by omega)).1) ?_
  refine r_aload_n C dX8_efficiency_15 0 rfl ?_
  refine r_getr (q2 := 108) C dX8_efficiency_16 0 f_X8_7 rfl rfl ?_
  refine r_iconst (v := 0) C dX8_efficiency_19 rfl ?_
  refine r_ialdN (j := 0) (v := vS V 0) C dX8_efficiency_20 rfl (rfl) (by omega) (by decide) (hV6.2.1.1) ?_
  refine r_imul C dX8_efficiency_21 ?_
  refine r_istore_n (L' := [(1, .int ((flowF V 0) * (vS V 0))), (0, .ref (mA G 107))]) C dX8_efficiency_22 (by decide) rfl ?_
  refine r_iload_n C dX8_efficiency_23 0 rfl ?_
  refine r_if_ne (tgt := 31) C dX8_efficiency_24 (by decide) (fun c24 => ?_) (fun c24 => ?_)
  ·
    refine r_aload_n C dX8_efficiency_31 1 rfl ?_
    refine r_iconst (v := 0) C dX8_efficiency_32 rfl ?_
    refine r_callVI (As := [.int 0]) (rest := []) C dX8_efficiency_33 s_X8_144 (c_X8_sumOf l G hG M6 g V hW hV6 hR6 0 (by decide)) (by decide) rfl rfl rfl rfl (Nat.le_of_ble_eq_true rfl) (Nat.le_of_ble_eq_true rfl) (Nat.le_of_ble_eq_true rfl) (pk_I ?_)
    refine r_i2d C dX8_efficiency_36 ?_
    refine r_iload_n C dX8_efficiency_37 0 rfl ?_
    refine r_i2d C dX8_efficiency_38 ?_
    refine r_ddiv C dX8_efficiency_39 (dv_nn c24) ?_
    exact hend _ _ _ _ _ dX8_efficiency_40 (⟨(if_neg c24).symm, hf6, rfl⟩)
  ·
    refine r_dconst0 C dX8_efficiency_27 ?_
    refine r_goto (tgt := 40) C dX8_efficiency_28 (by decide) ?_
    exact hend _ _ _ _ _ dX8_efficiency_40 (⟨(if_pos c24).symm, hf6, rfl⟩)
