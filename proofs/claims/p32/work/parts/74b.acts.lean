set_option maxRecDepth 20000 in
set_option maxHeartbeats 8000000 in
theorem ac_0 {p : Program} {l : Launch} {e : Env} {s : State} {m : MethodId} {args : Array Value} {below : List Frame} {meth : Method} {c : Code} {G : mG} {Q : State → Prop} {M : Mem} {g : Glo} (hG : mInj G) (C : mCx p s m args c cL_acts 19 RL G) (hfl : l.stackTraces = false) (V : View) (Hs : List View) (len : Nat) (T : Nat → Int32) (hI : cINV M V Hs len T) (hE : eOK M V) (v n : Nat) (nb z : Int32) (hv : v < 10000000) (hnb : (nb = 1 ∧ vN V = 1) ∨ (nb = 0 ∧ 0 < n ∧ n < vN V)) (hend : ∀ (V' : View) (Hs' : List View) (M' : Mem) (L' : List (Nat × Value)) (pc kk nn : Nat), kk ≤ 6 → nn ≤ 36 → decode cL_acts pc = .ok (.ireturn, 1) → (cINV M' V' Hs' len T ∧ eOK M' V') → At p l e (rmD 9 6 36) s m args below meth c G 19 kk nn Q M' g L' pc [.int 1]) : At p l e (rmD 9 6 36) s m args below meth c G 19 0 0 Q M g [(8, .int nb), (7, .int (nI n)), (6, .int (nI v)), (0, .ref (mA G 0)), (1, .ref (mA G 107)), (2, .ref (mA G 108)), (3, .ref (mA G 109)), (4, .ref (mA G 110)), (5, .int z)] 124 [] := by
  obtain ⟨hC9, hW, hH9, hHs9, hTx9, hP09⟩ := id hI
  have hT := hW.1
  obtain ⟨hn1, hn16, hb4, ⟨hd0, hd3, hd5, hd6⟩, hpar⟩ := id hT
  have h8 := hE.le
  refine r_aload_n C dL_acts_124 4 rfl ?_
  refine r_iconst (v := 0) C dL_acts_125 rfl ?_
  refine r_ialdN (j := 0) (v := vS V 0) C dL_acts_126 rfl (rfl) (by omega) (by decide) (hE.s 0 (by decide)) ?_
  refine r_istore (L' := [(9, .int (vS V 0)), (8, .int nb), (7, .int (nI n)), (6, .int (nI v)), (0, .ref (mA G 0)), (1, .ref (mA G 107)), (2, .ref (mA G 108)), (3, .ref (mA G 109)), (4, .ref (mA G 110)), (5, .int z)]) C dL_acts_127 (by decide) rfl ?_
  refine r_aload_n C dL_acts_129 5 rfl ?_
  refine r_iconst (v := 0) C dL_acts_130 rfl ?_
  refine r_sipush (v := 400) C dL_acts_131 rfl ?_
  refine r_iload C dL_acts_134 3 rfl ?_
  refine r_sipush (v := 801) C dL_acts_136 rfl ?_
  refine r_irem C dL_acts_139 (by decide) ?_
  refine r_valI (y := nI (v % 801)) (pk_rem (a := v) (d := 801) (by omega) (by omega) (by omega)) ?_
  refine r_iadd C dL_acts_140 ?_
  refine r_valI (y := nI (400 + (v % 801))) (nI_add 400 (v % 801)) ?_
  refine r_iastN (j := 0) C dL_acts_141 rfl (rfl) (by omega) (by decide) ?_
  refine r_aload_n C dL_acts_142 5 rfl ?_
  refine r_iconst (v := 1) C dL_acts_143 rfl ?_
  refine r_iload C dL_acts_144 3 rfl ?_
  refine r_sipush (v := 801) C dL_acts_146 rfl ?_
  refine r_idiv C dL_acts_149 (by decide) ?_
  refine r_valI (y := nI (v / 801)) (pk_div (a := v) (d := 801) (by omega) (by omega) (by omega)) ?_
  refine r_sipush (v := 501) C dL_acts_150 rfl ?_
  refine r_irem C dL_acts_153 (by decide) ?_
  refine r_valI (y := nI ((v / 801) % 501)) (pk_rem (a := v / 801) (d := 501) (by omega) (by omega) (by omega)) ?_
  refine r_sipush (v := 200) C dL_acts_154 rfl ?_
  refine r_isub C dL_acts_157 ?_
  refine r_iastN (j := 1) C dL_acts_158 rfl (rfl) (by omega) (by decide) ?_
  refine r_aload_n C dL_acts_159 4 rfl ?_
  refine r_aload_n C dL_acts_160 5 rfl ?_
  refine r_iconst (v := 0) C dL_acts_161 rfl ?_
  refine r_ialdN (j := 0) (v := nI (400 + (v % 801))) C dL_acts_162 rfl (rfl) (by omega) (by decide) (by rw [mset_at, upd_ne (by omega), mset_at, upd_at]) ?_
  refine r_aload_n C dL_acts_163 5 rfl ?_
  refine r_iconst (v := 1) C dL_acts_164 rfl ?_
  refine r_ialdN (j := 1) (v := (nI ((v / 801) % 501)) - 200) C dL_acts_165 rfl (rfl) (by omega) (by decide) (by rw [mset_at, upd_at]) ?_
  refine r_lS (As := [.ref (mA G 0), .int (nI (400 + (v % 801))), .int ((nI ((v / 801) % 501)) - 200)]) (rest := []) C dL_acts_166 w_L_20 (c_L_warms l G hG (mset (mset M 107 0 (nI (400 + (v % 801)))) 107 1 ((nI ((v / 801) % 501)) - 200)) g hfl V Hs len T (hI.lw (fun q hq => by rw [mset_ne (by omega), mset_ne (by omega)])) (nI (400 + (v % 801))) ((nI ((v / 801) % 501)) - 200)) (Nat.le_of_ble_eq_true rfl) (Nat.le_of_ble_eq_true rfl) rfl rfl (Nat.le_of_ble_eq_true rfl) (Nat.le_of_ble_eq_true rfl) (Nat.le_of_ble_eq_true rfl) (fun r9 M9 g9 hp166 => ?_)
  obtain ⟨⟨hr, hI9, ho9⟩, rfl⟩ := wr_ok hp166 (eTemp_0 (inWN (a := 400) (c := 1200) (by omega) (by omega) (by decide)) (inWs (by omega)))
  refine r_iload C dL_acts_169 0 rfl ?_
  refine r_icmp_ne (tgt := 178) C dL_acts_171 (by decide) (fun h => absurd (hr) h) (fun _ => ?_)
  refine r_iconst (v := 1) C dL_acts_174 rfl ?_
  refine r_goto (tgt := 179) C dL_acts_175 (by decide) ?_
  exact hend _ _ _ _ _ _ _ (Nat.le_of_ble_eq_true rfl) (Nat.le_of_ble_eq_true rfl) dL_acts_179 (⟨hI9, ((hE.sc (i := 0) (by decide)).sc (i := 1) (by decide)).offC ho9⟩)

set_option maxRecDepth 20000 in
set_option maxHeartbeats 8000000 in
theorem ac_2 {p : Program} {l : Launch} {e : Env} {s : State} {m : MethodId} {args : Array Value} {below : List Frame} {meth : Method} {c : Code} {G : mG} {Q : State → Prop} {M : Mem} {g : Glo} (hG : mInj G) (C : mCx p s m args c cL_acts 19 RL G) (hfl : l.stackTraces = false) (V : View) (Hs : List View) (len : Nat) (T : Nat → Int32) (hI : cINV M V Hs len T) (hE : eOK M V) (v n : Nat) (nb z : Int32) (hv : v < 10000000) (hnb : (nb = 1 ∧ vN V = 1) ∨ (nb = 0 ∧ 0 < n ∧ n < vN V)) (hend : ∀ (V' : View) (Hs' : List View) (M' : Mem) (L' : List (Nat × Value)) (pc kk nn : Nat), kk ≤ 6 → nn ≤ 36 → decode cL_acts pc = .ok (.ireturn, 1) → (cINV M' V' Hs' len T ∧ eOK M' V') → At p l e (rmD 9 6 36) s m args below meth c G 19 kk nn Q M' g L' pc [.int 1]) : At p l e (rmD 9 6 36) s m args below meth c G 19 0 0 Q M g [(8, .int nb), (7, .int (nI n)), (6, .int (nI v)), (0, .ref (mA G 0)), (1, .ref (mA G 107)), (2, .ref (mA G 108)), (3, .ref (mA G 109)), (4, .ref (mA G 110)), (5, .int z)] 180 [] := by
  obtain ⟨hC9, hW, hH9, hHs9, hTx9, hP09⟩ := id hI
  have hT := hW.1
  obtain ⟨hn1, hn16, hb4, ⟨hd0, hd3, hd5, hd6⟩, hpar⟩ := id hT
  have h8 := hE.le
  refine r_iload C dL_acts_180 0 rfl ?_
  refine r_if_eq (tgt := 205) C dL_acts_182 (by decide) (fun c182 => ?_) (fun c182 => ?_)
  ·
    obtain ⟨hn0, hnN⟩ : 0 < n ∧ n < vN V := by rcases hnb with q | q; (rw [q.1] at c182; exact absurd c182 (by decide)); exact q.2
    have hcl : (nI n).toNatClampNeg = n := nI_clamp (by omega)
    refine r_aload_n C dL_acts_205 5 rfl ?_
    refine r_bipush (v := 8) C dL_acts_206 rfl ?_
    refine r_iload C dL_acts_208 1 rfl ?_
    refine r_imul C dL_acts_210 ?_
    refine r_valI (y := nI (8 * n)) (pk_mul 8 n) ?_
    refine r_iconst (v := 3) C dL_acts_211 rfl ?_
    refine r_iadd C dL_acts_212 ?_
    refine r_valI (y := nI (8 * n + 3)) (nI_add (8 * n) 3) ?_
    refine r_ialdN (j := 8 * n + 3) (v := vD V 3 n) C dL_acts_213 rfl (rfl) (by omega) (by decide) (hE.e n 3 hnN (by decide) (by omega)) ?_
    refine r_istore (L' := [(10, .int (vD V 3 n)), (8, .int nb), (7, .int (nI n)), (6, .int (nI v)), (0, .ref (mA G 0)), (1, .ref (mA G 107)), (2, .ref (mA G 108)), (3, .ref (mA G 109)), (4, .ref (mA G 110)), (5, .int z)]) C dL_acts_214 (by decide) rfl ?_
    refine r_aload_n C dL_acts_216 6 rfl ?_
    refine r_bipush (v := 8) C dL_acts_217 rfl ?_
    refine r_iload C dL_acts_219 2 rfl ?_
    refine r_imul C dL_acts_221 ?_
    refine r_valI (y := nI (8 * n)) (pk_mul 8 n) ?_
    refine r_iconst (v := 3) C dL_acts_222 rfl ?_
    refine r_iadd C dL_acts_223 ?_
    refine r_valI (y := nI (8 * n + 3)) (nI_add (8 * n) 3) ?_
    refine r_iload C dL_acts_224 3 rfl ?_
    refine r_iconst (v := 3) C dL_acts_226 rfl ?_
    refine r_irem C dL_acts_227 (by decide) ?_
    refine r_valI (y := nI (v % 3)) (pk_rem (a := v) (d := 3) (by omega) (by omega) (by omega)) ?_
    refine r_if_ne (tgt := 235) C dL_acts_228 (by decide) (fun c228 => ?_) (fun c228 => ?_)
    ·
      refine r_iload C dL_acts_235 3 rfl ?_
      refine r_iconst (v := 3) C dL_acts_237 rfl ?_
      refine r_idiv C dL_acts_238 (by decide) ?_
      refine r_valI (y := nI (v / 3)) (pk_div (a := v) (d := 3) (by omega) (by omega) (by omega)) ?_
      refine r_sipush (v := 501) C dL_acts_239 rfl ?_
      refine r_irem C dL_acts_242 (by decide) ?_
      refine r_valI (y := nI ((v / 3) % 501)) (pk_rem (a := v / 3) (d := 501) (by omega) (by omega) (by omega)) ?_
      refine r_iastN (j := 8 * n + 3) C dL_acts_243 rfl (rfl) (by omega) (by decide) ?_
      refine r_aload_n C dL_acts_244 6 rfl ?_
      refine r_bipush (v := 8) C dL_acts_245 rfl ?_
      refine r_iload C dL_acts_247 2 rfl ?_
      refine r_imul C dL_acts_249 ?_
      refine r_valI (y := nI (8 * n)) (pk_mul 8 n) ?_
      refine r_iconst (v := 4) C dL_acts_250 rfl ?_
      refine r_iadd C dL_acts_251 ?_
      refine r_valI (y := nI (8 * n + 4)) (nI_add (8 * n) 4) ?_
      refine r_iload C dL_acts_252 3 rfl ?_
      refine r_sipush (v := 1503) C dL_acts_254 rfl ?_
      refine r_idiv C dL_acts_257 (by decide) ?_
      refine r_valI (y := nI (v / 1503)) (pk_div (a := v) (d := 1503) (by omega) (by omega) (by omega)) ?_
      refine r_sipush (v := 1201) C dL_acts_258 rfl ?_
      refine r_irem C dL_acts_261 (by decide) ?_
      refine r_valI (y := nI ((v / 1503) % 1201)) (pk_rem (a := v / 1503) (d := 1201) (by omega) (by omega) (by omega)) ?_
      refine r_iastN (j := 8 * n + 4) C dL_acts_262 rfl (rfl) (by omega) (by decide) ?_
      refine r_aload_n C dL_acts_263 4 rfl ?_
      refine r_iload C dL_acts_264 2 rfl ?_
      refine r_aload_n C dL_acts_266 6 rfl ?_
      refine r_bipush (v := 8) C dL_acts_267 rfl ?_
      refine r_iload C dL_acts_269 2 rfl ?_
      refine r_imul C dL_acts_271 ?_
      refine r_valI (y := nI (8 * n)) (pk_mul 8 n) ?_
      refine r_iconst (v := 3) C dL_acts_272 rfl ?_
      refine r_iadd C dL_acts_273 ?_
      refine r_valI (y := nI (8 * n + 3)) (nI_add (8 * n) 3) ?_
      refine r_ialdN (j := 8 * n + 3) (v := nI ((v / 3) % 501)) C dL_acts_274 rfl (rfl) (by omega) (by decide) (by rw [mset_at, upd_ne (by omega), mset_at, upd_at]) ?_
      refine r_aload_n C dL_acts_275 6 rfl ?_
      refine r_bipush (v := 8) C dL_acts_276 rfl ?_
      refine r_iload C dL_acts_278 2 rfl ?_
      refine r_imul C dL_acts_280 ?_
      refine r_valI (y := nI (8 * n)) (pk_mul 8 n) ?_
      refine r_iconst (v := 4) C dL_acts_281 rfl ?_
      refine r_iadd C dL_acts_282 ?_
      refine r_valI (y := nI (8 * n + 4)) (nI_add (8 * n) 4) ?_
      refine r_ialdN (j := 8 * n + 4) (v := nI ((v / 1503) % 1201)) C dL_acts_283 rfl (rfl) (by omega) (by decide) (by rw [mset_at, upd_at]) ?_
      refine r_lS (As := [.ref (mA G 0), .int (nI n), .int (nI ((v / 3) % 501)), .int (nI ((v / 1503) % 1201))]) (rest := []) C dL_acts_284 w_L_24 (c_L_draws l G hG (mset (mset M 108 (8 * n + 3) (nI ((v / 3) % 501))) 108 (8 * n + 4) (nI ((v / 1503) % 1201))) g hfl V Hs len T (hI.lw (fun q hq => by rw [mset_ne (by omega), mset_ne (by omega)])) (nI n) (nI ((v / 3) % 501)) (nI ((v / 1503) % 1201))) (Nat.le_of_ble_eq_true rfl) (Nat.le_of_ble_eq_true rfl) rfl rfl (Nat.le_of_ble_eq_true rfl) (Nat.le_of_ble_eq_true rfl) (Nat.le_of_ble_eq_true rfl) (fun r9 M9 g9 hp284 => ?_)
      rw [hcl] at hp284
      obtain ⟨⟨hr, hI9, ho9⟩, rfl⟩ := wr_ok hp284 (eDraw_0 ⟨nI_le (a := 1) hn0 (by omega), nI_lt hnN (by omega)⟩ (inWN (a := 0) (c := 500) (by omega) (by omega) (by decide)) (inWN (a := 0) (c := 1200) (by omega) (by omega) (by decide)))
      refine r_iload C dL_acts_287 0 rfl ?_
      refine r_icmp_ne (tgt := 296) C dL_acts_289 (by decide) (fun h => absurd (hr) h) (fun _ => ?_)
      refine r_iconst (v := 1) C dL_acts_292 rfl ?_
      refine r_goto (tgt := 297) C dL_acts_293 (by decide) ?_
      exact hend _ _ _ _ _ _ _ (Nat.le_of_ble_eq_true rfl) (Nat.le_of_ble_eq_true rfl) dL_acts_297 (⟨hI9, ((hE.dd (n := n) (w := 3) hnN (by decide)).dd (n := n) (w := 4) hnN (by decide)).offC ho9⟩)
    ·
      refine r_iconst (v := 0) C dL_acts_231 rfl ?_
      refine r_goto (tgt := 243) C dL_acts_232 (by decide) ?_
      refine r_iastN (j := 8 * n + 3) C dL_acts_243 rfl (rfl) (by omega) (by decide) ?_
      refine r_aload_n C dL_acts_244 6 rfl ?_
      refine r_bipush (v := 8) C dL_acts_245 rfl ?_
      refine r_iload C dL_acts_247 2 rfl ?_
      refine r_imul C dL_acts_249 ?_
      refine r_valI (y := nI (8 * n)) (pk_mul 8 n) ?_
      refine r_iconst (v := 4) C dL_acts_250 rfl ?_
      refine r_iadd C dL_acts_251 ?_
      refine r_valI (y := nI (8 * n + 4)) (nI_add (8 * n) 4) ?_
      refine r_iload C dL_acts_252 3 rfl ?_
      refine r_sipush (v := 1503) C dL_acts_254 rfl ?_
      refine r_idiv C dL_acts_257 (by decide) ?_
      refine r_valI (y := nI (v / 1503)) (pk_div (a := v) (d := 1503) (by omega) (by omega) (by omega)) ?_
      refine r_sipush (v := 1201) C dL_acts_258 rfl ?_
      refine r_irem C dL_acts_261 (by decide) ?_
      refine r_valI (y := nI ((v / 1503) % 1201)) (pk_rem (a := v / 1503) (d := 1201) (by omega) (by omega) (by omega)) ?_
      refine r_iastN (j := 8 * n + 4) C dL_acts_262 rfl (rfl) (by omega) (by decide) ?_
      refine r_aload_n C dL_acts_263 4 rfl ?_
      refine r_iload C dL_acts_264 2 rfl ?_
      refine r_aload_n C dL_acts_266 6 rfl ?_
      refine r_bipush (v := 8) C dL_acts_267 rfl ?_
      refine r_iload C dL_acts_269 2 rfl ?_
      refine r_imul C dL_acts_271 ?_
      refine r_valI (y := nI (8 * n)) (pk_mul 8 n) ?_
      refine r_iconst (v := 3) C dL_acts_272 rfl ?_
      refine r_iadd C dL_acts_273 ?_
      refine r_valI (y := nI (8 * n + 3)) (nI_add (8 * n) 3) ?_
      refine r_ialdN (j := 8 * n + 3) (v := 0) C dL_acts_274 rfl (rfl) (by omega) (by decide) (by rw [mset_at, upd_ne (by omega), mset_at, upd_at]) ?_
      refine r_aload_n C dL_acts_275 6 rfl ?_
      refine r_bipush (v := 8) C dL_acts_276 rfl ?_
      refine r_iload C dL_acts_278 2 rfl ?_
      refine r_imul C dL_acts_280 ?_
      refine r_valI (y := nI (8 * n)) (pk_mul 8 n) ?_
      refine r_iconst (v := 4) C dL_acts_281 rfl ?_
      refine r_iadd C dL_acts_282 ?_
      refine r_valI (y := nI (8 * n + 4)) (nI_add (8 * n) 4) ?_
      refine r_ialdN (j := 8 * n + 4) (v := nI ((v / 1503) % 1201)) C dL_acts_283 rfl (rfl) (by omega) (by decide) (by rw [mset_at, upd_at]) ?_
      refine r_lS (As := [.ref (mA G 0), .int (nI n), .int 0, .int (nI ((v / 1503) % 1201))]) (rest := []) C dL_acts_284 w_L_24 (c_L_draws l G hG (mset (mset M 108 (8 * n + 3) 0) 108 (8 * n + 4) (nI ((v / 1503) % 1201))) g hfl V Hs len T (hI.lw (fun q hq => by rw [mset_ne (by omega), mset_ne (by omega)])) (nI n) 0 (nI ((v / 1503) % 1201))) (Nat.le_of_ble_eq_true rfl) (Nat.le_of_ble_eq_true rfl) rfl rfl (Nat.le_of_ble_eq_true rfl) (Nat.le_of_ble_eq_true rfl) (Nat.le_of_ble_eq_true rfl) (fun r9 M9 g9 hp284 => ?_)
      rw [hcl] at hp284
      obtain ⟨⟨hr, hI9, ho9⟩, rfl⟩ := wr_ok hp284 (eDraw_0 ⟨nI_le (a := 1) hn0 (by omega), nI_lt hnN (by omega)⟩ (⟨by decide, by decide⟩) (inWN (a := 0) (c := 1200) (by omega) (by omega) (by decide)))
      refine r_iload C dL_acts_287 0 rfl ?_
      refine r_icmp_ne (tgt := 296) C dL_acts_289 (by decide) (fun h => absurd (hr) h) (fun _ => ?_)
      refine r_iconst (v := 1) C dL_acts_292 rfl ?_
      refine r_goto (tgt := 297) C dL_acts_293 (by decide) ?_
      exact hend _ _ _ _ _ _ _ (Nat.le_of_ble_eq_true rfl) (Nat.le_of_ble_eq_true rfl) dL_acts_297 (⟨hI9, ((hE.dd (n := n) (w := 3) hnN (by decide)).dd (n := n) (w := 4) hnN (by decide)).offC ho9⟩)
  ·
    have hN1 : vN V = 1 := by rcases hnb with q | q; exact q.2; exact absurd q.1 c182
    refine r_aload_n C dL_acts_185 3 rfl ?_
    refine r_iconst (v := 1) C dL_acts_186 rfl ?_
    refine r_sipush (v := 501) C dL_acts_187 rfl ?_
    refine r_iconst (v := 0) C dL_acts_190 rfl ?_
    refine r_lS (As := [.ref (mA G 0), .int 1, .int 501, .int 0]) (rest := []) C dL_acts_191 w_L_24 (c_L_draws l G hG M g hfl V Hs len T (hI.lw (fun q hq => rfl)) 1 501 0) (Nat.le_of_ble_eq_true rfl) (Nat.le_of_ble_eq_true rfl) rfl rfl (Nat.le_of_ble_eq_true rfl) (Nat.le_of_ble_eq_true rfl) (Nat.le_of_ble_eq_true rfl) (fun r9 M9 g9 hp191 => ?_)
    obtain ⟨hr, rfl, rfl⟩ := wr_no hp191 0 (-1000000001) rfl (if_pos (fun z => absurd z.2 (by rw [hN1]; decide)))
    refine r_ldc (v := -1000000001) C dL_acts_194 (gd_t 515 (by decide +kernel) rfl) ?_
    refine r_icmp_ne (tgt := 203) C dL_acts_196 (by decide) (fun h => absurd (hr) h) (fun _ => ?_)
    refine r_iconst (v := 1) C dL_acts_199 rfl ?_
    refine r_goto (tgt := 204) C dL_acts_200 (by decide) ?_
    exact hend _ _ _ _ _ _ _ (Nat.le_of_ble_eq_true rfl) (Nat.le_of_ble_eq_true rfl) dL_acts_204 (⟨hI, hE⟩)

set_option maxRecDepth 20000 in
set_option maxHeartbeats 8000000 in
theorem ac_4 {p : Program} {l : Launch} {e : Env} {s : State} {m : MethodId} {args : Array Value} {below : List Frame} {meth : Method} {c : Code} {G : mG} {Q : State → Prop} {M : Mem} {g : Glo} (hG : mInj G) (C : mCx p s m args c cL_acts 19 RL G) (hfl : l.stackTraces = false) (V : View) (Hs : List View) (len : Nat) (T : Nat → Int32) (hI : cINV M V Hs len T) (hE : eOK M V) (v n : Nat) (nb z : Int32) (hv : v < 10000000) (hnb : (nb = 1 ∧ vN V = 1) ∨ (nb = 0 ∧ 0 < n ∧ n < vN V)) (hend : ∀ (V' : View) (Hs' : List View) (M' : Mem) (L' : List (Nat × Value)) (pc kk nn : Nat), kk ≤ 6 → nn ≤ 36 → decode cL_acts pc = .ok (.ireturn, 1) → (cINV M' V' Hs' len T ∧ eOK M' V') → At p l e (rmD 9 6 36) s m args below meth c G 19 kk nn Q M' g L' pc [.int 1]) : At p l e (rmD 9 6 36) s m args below meth c G 19 0 0 Q M g [(8, .int nb), (7, .int (nI n)), (6, .int (nI v)), (0, .ref (mA G 0)), (1, .ref (mA G 107)), (2, .ref (mA G 108)), (3, .ref (mA G 109)), (4, .ref (mA G 110)), (5, .int z)] 298 [] := by
  obtain ⟨hC9, hW, hH9, hHs9, hTx9, hP09⟩ := id hI
  have hT := hW.1
  obtain ⟨hn1, hn16, hb4, ⟨hd0, hd3, hd5, hd6⟩, hpar⟩ := id hT
  have h8 := hE.le
  refine r_iload C dL_acts_298 0 rfl ?_
  refine r_if_eq (tgt := 320) C dL_acts_300 (by decide) (fun c300 => ?_) (fun c300 => ?_)
  ·
    obtain ⟨hn0, hnN⟩ : 0 < n ∧ n < vN V := by rcases hnb with q | q; (rw [q.1] at c300; exact absurd c300 (by decide)); exact q.2
    have hcl : (nI n).toNatClampNeg = n := nI_clamp (by omega)
    refine r_aload_n C dL_acts_320 5 rfl ?_
    refine r_bipush (v := 8) C dL_acts_321 rfl ?_
    refine r_iload C dL_acts_323 1 rfl ?_
    refine r_imul C dL_acts_325 ?_
    refine r_valI (y := nI (8 * n)) (pk_mul 8 n) ?_
    refine r_iconst (v := 5) C dL_acts_326 rfl ?_
    refine r_iadd C dL_acts_327 ?_
    refine r_valI (y := nI (8 * n + 5)) (nI_add (8 * n) 5) ?_
    refine r_ialdN (j := 8 * n + 5) (v := vD V 5 n) C dL_acts_328 rfl (rfl) (by omega) (by decide) (hE.e n 5 hnN (by decide) (by omega)) ?_
    refine r_istore (L' := [(11, .int (vD V 5 n)), (8, .int nb), (7, .int (nI n)), (6, .int (nI v)), (0, .ref (mA G 0)), (1, .ref (mA G 107)), (2, .ref (mA G 108)), (3, .ref (mA G 109)), (4, .ref (mA G 110)), (5, .int z)]) C dL_acts_329 (by decide) rfl ?_
    refine r_aload_n C dL_acts_331 6 rfl ?_
    refine r_bipush (v := 8) C dL_acts_332 rfl ?_
    refine r_iload C dL_acts_334 2 rfl ?_
    refine r_imul C dL_acts_336 ?_
    refine r_valI (y := nI (8 * n)) (pk_mul 8 n) ?_
    refine r_iconst (v := 5) C dL_acts_337 rfl ?_
    refine r_iadd C dL_acts_338 ?_
    refine r_valI (y := nI (8 * n + 5)) (nI_add (8 * n) 5) ?_
    refine r_iload C dL_acts_339 3 rfl ?_
    refine r_iconst (v := 3) C dL_acts_341 rfl ?_
    refine r_irem C dL_acts_342 (by decide) ?_
    refine r_valI (y := nI (v % 3)) (pk_rem (a := v) (d := 3) (by omega) (by omega) (by omega)) ?_
    refine r_if_ne (tgt := 350) C dL_acts_343 (by decide) (fun c343 => ?_) (fun c343 => ?_)
    ·
      refine r_iload C dL_acts_350 3 rfl ?_
      refine r_iconst (v := 3) C dL_acts_352 rfl ?_
      refine r_idiv C dL_acts_353 (by decide) ?_
      refine r_valI (y := nI (v / 3)) (pk_div (a := v) (d := 3) (by omega) (by omega) (by omega)) ?_
      refine r_bipush (v := 101) C dL_acts_354 rfl ?_
      refine r_irem C dL_acts_356 (by decide) ?_
      refine r_valI (y := nI ((v / 3) % 101)) (pk_rem (a := v / 3) (d := 101) (by omega) (by omega) (by omega)) ?_
      refine r_iastN (j := 8 * n + 5) C dL_acts_357 rfl (rfl) (by omega) (by decide) ?_
      refine r_aload_n C dL_acts_358 4 rfl ?_
      refine r_iload C dL_acts_359 2 rfl ?_
      refine r_aload_n C dL_acts_361 6 rfl ?_
      refine r_bipush (v := 8) C dL_acts_362 rfl ?_
      refine r_iload C dL_acts_364 2 rfl ?_
      refine r_imul C dL_acts_366 ?_
      refine r_valI (y := nI (8 * n)) (pk_mul 8 n) ?_
      refine r_iconst (v := 5) C dL_acts_367 rfl ?_
      refine r_iadd C dL_acts_368 ?_
      refine r_valI (y := nI (8 * n + 5)) (nI_add (8 * n) 5) ?_
      refine r_ialdN (j := 8 * n + 5) (v := nI ((v / 3) % 101)) C dL_acts_369 rfl (rfl) (by omega) (by decide) (by rw [mset_at, upd_at]) ?_
      refine r_lS (As := [.ref (mA G 0), .int (nI n), .int (nI ((v / 3) % 101))]) (rest := []) C dL_acts_370 w_L_29 (c_L_leaks l G hG (mset M 108 (8 * n + 5) (nI ((v / 3) % 101))) g hfl V Hs len T (hI.lw (fun q hq => by rw [mset_ne (by omega)])) (nI n) (nI ((v / 3) % 101))) (Nat.le_of_ble_eq_true rfl) (Nat.le_of_ble_eq_true rfl) rfl rfl (Nat.le_of_ble_eq_true rfl) (Nat.le_of_ble_eq_true rfl) (Nat.le_of_ble_eq_true rfl) (fun r9 M9 g9 hp370 => ?_)
      rw [hcl] at hp370
      obtain ⟨⟨hr, hI9, ho9⟩, rfl⟩ := wr_ok hp370 (eLeak_0 ⟨nI_le (a := 1) hn0 (by omega), nI_lt hnN (by omega)⟩ (inWN (a := 0) (c := 100) (by omega) (by omega) (by decide)))
      refine r_iload C dL_acts_373 0 rfl ?_
      refine r_icmp_ne (tgt := 382) C dL_acts_375 (by decide) (fun h => absurd (hr) h) (fun _ => ?_)
      refine r_iconst (v := 1) C dL_acts_378 rfl ?_
      refine r_goto (tgt := 383) C dL_acts_379 (by decide) ?_
      exact hend _ _ _ _ _ _ _ (Nat.le_of_ble_eq_true rfl) (Nat.le_of_ble_eq_true rfl) dL_acts_383 (⟨hI9, (hE.dd (n := n) (w := 5) hnN (by decide)).offC ho9⟩)
    ·
      refine r_iconst (v := 0) C dL_acts_346 rfl ?_
      refine r_goto (tgt := 357) C dL_acts_347 (by decide) ?_
      refine r_iastN (j := 8 * n + 5) C dL_acts_357 rfl (rfl) (by omega) (by decide) ?_
      refine r_aload_n C dL_acts_358 4 rfl ?_
      refine r_iload C dL_acts_359 2 rfl ?_
      refine r_aload_n C dL_acts_361 6 rfl ?_
      refine r_bipush (v := 8) C dL_acts_362 rfl ?_
      refine r_iload C dL_acts_364 2 rfl ?_
      refine r_imul C dL_acts_366 ?_
      refine r_valI (y := nI (8 * n)) (pk_mul 8 n) ?_
      refine r_iconst (v := 5) C dL_acts_367 rfl ?_
      refine r_iadd C dL_acts_368 ?_
      refine r_valI (y := nI (8 * n + 5)) (nI_add (8 * n) 5) ?_
      refine r_ialdN (j := 8 * n + 5) (v := 0) C dL_acts_369 rfl (rfl) (by omega) (by decide) (by rw [mset_at, upd_at]) ?_
      refine r_lS (As := [.ref (mA G 0), .int (nI n), .int 0]) (rest := []) C dL_acts_370 w_L_29 (c_L_leaks l G hG (mset M 108 (8 * n + 5) 0) g hfl V Hs len T (hI.lw (fun q hq => by rw [mset_ne (by omega)])) (nI n) 0) (Nat.le_of_ble_eq_true rfl) (Nat.le_of_ble_eq_true rfl) rfl rfl (Nat.le_of_ble_eq_true rfl) (Nat.le_of_ble_eq_true rfl) (Nat.le_of_ble_eq_true rfl) (fun r9 M9 g9 hp370 => ?_)
      rw [hcl] at hp370
      obtain ⟨⟨hr, hI9, ho9⟩, rfl⟩ := wr_ok hp370 (eLeak_0 ⟨nI_le (a := 1) hn0 (by omega), nI_lt hnN (by omega)⟩ (⟨by decide, by decide⟩))
      refine r_iload C dL_acts_373 0 rfl ?_
      refine r_icmp_ne (tgt := 382) C dL_acts_375 (by decide) (fun h => absurd (hr) h) (fun _ => ?_)
      refine r_iconst (v := 1) C dL_acts_378 rfl ?_
      refine r_goto (tgt := 383) C dL_acts_379 (by decide) ?_
      exact hend _ _ _ _ _ _ _ (Nat.le_of_ble_eq_true rfl) (Nat.le_of_ble_eq_true rfl) dL_acts_383 (⟨hI9, (hE.dd (n := n) (w := 5) hnN (by decide)).offC ho9⟩)
  ·
    have hN1 : vN V = 1 := by rcases hnb with q | q; exact q.2; exact absurd q.1 c300
    refine r_aload_n C dL_acts_303 3 rfl ?_
    refine r_iconst (v := 0) C dL_acts_304 rfl ?_
    refine r_iconst (v := 5) C dL_acts_305 rfl ?_
    refine r_lS (As := [.ref (mA G 0), .int 0, .int 5]) (rest := []) C dL_acts_306 w_L_29 (c_L_leaks l G hG M g hfl V Hs len T (hI.lw (fun q hq => rfl)) 0 5) (Nat.le_of_ble_eq_true rfl) (Nat.le_of_ble_eq_true rfl) rfl rfl (Nat.le_of_ble_eq_true rfl) (Nat.le_of_ble_eq_true rfl) (Nat.le_of_ble_eq_true rfl) (fun r9 M9 g9 hp306 => ?_)
    obtain ⟨hr, rfl, rfl⟩ := wr_no hp306 0 (-1000000001) rfl (if_pos (fun z => absurd z.1 (by decide)))
    refine r_ldc (v := -1000000001) C dL_acts_309 (gd_t 515 (by decide +kernel) rfl) ?_
    refine r_icmp_ne (tgt := 318) C dL_acts_311 (by decide) (fun h => absurd (hr) h) (fun _ => ?_)
    refine r_iconst (v := 1) C dL_acts_314 rfl ?_
    refine r_goto (tgt := 319) C dL_acts_315 (by decide) ?_
    exact hend _ _ _ _ _ _ _ (Nat.le_of_ble_eq_true rfl) (Nat.le_of_ble_eq_true rfl) dL_acts_319 (⟨hI, hE⟩)

set_option maxRecDepth 20000 in
set_option maxHeartbeats 8000000 in
theorem ac_6 {p : Program} {l : Launch} {e : Env} {s : State} {m : MethodId} {args : Array Value} {below : List Frame} {meth : Method} {c : Code} {G : mG} {Q : State → Prop} {M : Mem} {g : Glo} (hG : mInj G) (C : mCx p s m args c cL_acts 19 RL G) (hfl : l.stackTraces = false) (V : View) (Hs : List View) (len : Nat) (T : Nat → Int32) (hI : cINV M V Hs len T) (hE : eOK M V) (v n : Nat) (nb z : Int32) (hv : v < 10000000) (hnb : (nb = 1 ∧ vN V = 1) ∨ (nb = 0 ∧ 0 < n ∧ n < vN V)) (hend : ∀ (V' : View) (Hs' : List View) (M' : Mem) (L' : List (Nat × Value)) (pc kk nn : Nat), kk ≤ 6 → nn ≤ 36 → decode cL_acts pc = .ok (.ireturn, 1) → (cINV M' V' Hs' len T ∧ eOK M' V') → At p l e (rmD 9 6 36) s m args below meth c G 19 kk nn Q M' g L' pc [.int 1]) : At p l e (rmD 9 6 36) s m args below meth c G 19 0 0 Q M g [(8, .int nb), (7, .int (nI n)), (6, .int (nI v)), (0, .ref (mA G 0)), (1, .ref (mA G 107)), (2, .ref (mA G 108)), (3, .ref (mA G 109)), (4, .ref (mA G 110)), (5, .int z)] 384 [] := by
  obtain ⟨hC9, hW, hH9, hHs9, hTx9, hP09⟩ := id hI
  have hT := hW.1
  obtain ⟨hn1, hn16, hb4, ⟨hd0, hd3, hd5, hd6⟩, hpar⟩ := id hT
  have h8 := hE.le
  refine r_aload_n C dL_acts_384 4 rfl ?_
  refine r_bipush (v := 6) C dL_acts_385 rfl ?_
  refine r_ialdN (j := 6) (v := nI (vB V)) C dL_acts_387 rfl (rfl) (by omega) (by decide) (hE.b) ?_
  refine r_iconst (v := 4) C dL_acts_388 rfl ?_
  refine r_icmp_ne (tgt := 410) C dL_acts_389 (by decide) (fun c389 => ?_) (fun c389 => ?_)
  ·
    have hB4 : vB V < 4 := by rcases Nat.lt_or_ge (vB V) 4 with q | q; exact q; (have e9 : vB V = 4 := by omega); exact absurd (by rw [e9]; rfl) c389
    refine r_iconst (v := 3) C dL_acts_410 rfl ?_
    refine r_aload_n C dL_acts_411 4 rfl ?_
    refine r_bipush (v := 6) C dL_acts_412 rfl ?_
    refine r_ialdN (j := 6) (v := nI (vB V)) C dL_acts_414 rfl (rfl) (by omega) (by decide) (hE.b) ?_
    refine r_imul C dL_acts_415 ?_
    refine r_valI (y := nI (3 * (vB V))) (pk_mul 3 (vB V)) ?_
    refine r_istore (L' := [(12, .int (nI (3 * (vB V)))), (8, .int nb), (7, .int (nI n)), (6, .int (nI v)), (0, .ref (mA G 0)), (1, .ref (mA G 107)), (2, .ref (mA G 108)), (3, .ref (mA G 109)), (4, .ref (mA G 110)), (5, .int z)]) C dL_acts_416 (by decide) rfl ?_
    refine r_aload_n C dL_acts_418 7 rfl ?_
    refine r_iload C dL_acts_419 0 rfl ?_
    refine r_iconst (v := 1) C dL_acts_421 rfl ?_
    refine r_iload C dL_acts_422 3 rfl ?_
    refine r_iload C dL_acts_424 3 rfl ?_
    refine r_iconst (v := 2) C dL_acts_426 rfl ?_
    refine r_irem C dL_acts_427 (by decide) ?_
    refine r_valI (y := nI (v % 2)) (pk_rem (a := v) (d := 2) (by omega) (by omega) (by omega)) ?_
    refine r_if_ne (tgt := 436) C dL_acts_428 (by decide) (fun c428 => ?_) (fun c428 => ?_)
    ·
      refine r_ldc (v := 300000) C dL_acts_436 (gd_t 554 (by decide +kernel) rfl) ?_
      refine r_irem C dL_acts_438 (by decide) ?_
      refine r_valI (y := nI (v % 300000)) (pk_rem (a := v) (d := 300000) (by omega) (by omega) (by omega)) ?_
      refine r_iadd C dL_acts_439 ?_
      refine r_valI (y := nI (1 + (v % 300000))) (nI_add 1 (v % 300000)) ?_
      refine r_iastN (j := 3 * (vB V)) C dL_acts_440 rfl (rfl) (by omega) (by decide) ?_
      refine r_aload_n C dL_acts_441 7 rfl ?_
      refine r_iload C dL_acts_442 0 rfl ?_
      refine r_iconst (v := 1) C dL_acts_444 rfl ?_
      refine r_iadd C dL_acts_445 ?_
      refine r_valI (y := nI ((3 * (vB V)) + 1)) (nI_add (3 * (vB V)) 1) ?_
      refine r_iload C dL_acts_446 3 rfl ?_
      refine r_iconst (v := 5) C dL_acts_448 rfl ?_
      refine r_idiv C dL_acts_449 (by decide) ?_
      refine r_valI (y := nI (v / 5)) (pk_div (a := v) (d := 5) (by omega) (by omega) (by omega)) ?_
      refine r_aload_n C dL_acts_450 7 rfl ?_
      refine r_iload C dL_acts_451 0 rfl ?_
      refine r_ialdN (j := 3 * (vB V)) (v := nI (1 + (v % 300000))) C dL_acts_453 rfl (rfl) (by omega) (by decide) (by rw [mset_at, upd_at]) ?_
      refine r_iconst (v := 1) C dL_acts_454 rfl ?_
      refine r_iadd C dL_acts_455 ?_
      refine r_valI (y := nI ((1 + (v % 300000)) + 1)) (nI_add (1 + (v % 300000)) 1) ?_
      refine r_irem C dL_acts_456 (nI_ne0 (by omega) (by omega)) ?_
      refine r_valI (y := nI ((v / 5) % ((1 + (v % 300000)) + 1))) (pk_rem (a := v / 5) (d := (1 + (v % 300000)) + 1) (by omega) (by omega) (by omega)) ?_
      refine r_iastN (j := (3 * (vB V)) + 1) C dL_acts_457 rfl (rfl) (by omega) (by decide) ?_
      refine r_aload_n C dL_acts_458 7 rfl ?_
      refine r_iload C dL_acts_459 0 rfl ?_
      refine r_iconst (v := 2) C dL_acts_461 rfl ?_
      refine r_iadd C dL_acts_462 ?_
      refine r_valI (y := nI ((3 * (vB V)) + 2)) (nI_add (3 * (vB V)) 2) ?_
      refine r_iload C dL_acts_463 3 rfl ?_
      refine r_bipush (v := 7) C dL_acts_465 rfl ?_
      refine r_idiv C dL_acts_467 (by decide) ?_
      refine r_valI (y := nI (v / 7)) (pk_div (a := v) (d := 7) (by omega) (by omega) (by omega)) ?_
      refine r_iload C dL_acts_468 3 rfl ?_
      refine r_iconst (v := 3) C dL_acts_470 rfl ?_
      refine r_irem C dL_acts_471 (by decide) ?_
      refine r_valI (y := nI (v % 3)) (pk_rem (a := v) (d := 3) (by omega) (by omega) (by omega)) ?_
      refine r_if_ne (tgt := 480) C dL_acts_472 (by decide) (fun c472 => ?_) (fun c472 => ?_)
      ·
        refine r_iconst (v := 4) C dL_acts_480 rfl ?_
        refine r_irem C dL_acts_481 (by decide) ?_
        refine r_valI (y := nI ((v / 7) % 4)) (pk_rem (a := v / 7) (d := 4) (by omega) (by omega) (by omega)) ?_
        refine r_iastN (j := (3 * (vB V)) + 2) C dL_acts_482 rfl (rfl) (by omega) (by decide) ?_
        refine r_aload_n C dL_acts_483 5 rfl ?_
        refine r_bipush (v := 6) C dL_acts_484 rfl ?_
        refine r_dup2 C dL_acts_486 rfl rfl ?_
        refine r_ialdN (j := 6) (v := nI (vB V)) C dL_acts_487 rfl (rfl) (by omega) (by decide) (by rw [mset_ne (by omega), mset_ne (by omega), mset_ne (by omega)]; exact hE.b) ?_
        refine r_iconst (v := 1) C dL_acts_488 rfl ?_
        refine r_iadd C dL_acts_489 ?_
        refine r_valI (y := nI (vB V + 1)) (nI_add (vB V) 1) ?_
        refine r_iastN (j := 6) C dL_acts_490 rfl (rfl) (by omega) (by decide) ?_
        refine r_aload_n C dL_acts_491 4 rfl ?_
        refine r_aload_n C dL_acts_492 7 rfl ?_
        refine r_iload C dL_acts_493 0 rfl ?_
        refine r_ialdN (j := 3 * (vB V)) (v := nI (1 + (v % 300000))) C dL_acts_495 rfl (rfl) (by omega) (by decide) (by rw [mset_ne (by omega), mset_at, upd_ne (by omega), mset_at, upd_ne (by omega), mset_at, upd_at]) ?_
        refine r_aload_n C dL_acts_496 7 rfl ?_
        refine r_iload C dL_acts_497 0 rfl ?_
        refine r_iconst (v := 1) C dL_acts_499 rfl ?_
        refine r_iadd C dL_acts_500 ?_
        refine r_valI (y := nI ((3 * (vB V)) + 1)) (nI_add (3 * (vB V)) 1) ?_
        refine r_ialdN (j := 3 * (vB V) + 1) (v := nI ((v / 5) % (1 + (v % 300000) + 1))) C dL_acts_501 rfl (rfl) (by omega) (by decide) (by rw [mset_ne (by omega), mset_at, upd_ne (by omega), mset_at, upd_at]) ?_
        refine r_aload_n C dL_acts_502 7 rfl ?_
        refine r_iload C dL_acts_503 0 rfl ?_
        refine r_iconst (v := 2) C dL_acts_505 rfl ?_
        refine r_iadd C dL_acts_506 ?_
        refine r_valI (y := nI ((3 * (vB V)) + 2)) (nI_add (3 * (vB V)) 2) ?_
        refine r_ialdN (j := 3 * (vB V) + 2) (v := nI ((v / 7) % 4)) C dL_acts_507 rfl (rfl) (by omega) (by decide) (by rw [mset_ne (by omega), mset_at, upd_at]) ?_
        refine r_lS (As := [.ref (mA G 0), .int (nI (1 + (v % 300000))), .int (nI ((v / 5) % (1 + (v % 300000) + 1))), .int (nI ((v / 7) % 4))]) (rest := []) C dL_acts_508 w_L_32 (c_L_boilers l G hG (mset (mset (mset (mset M 109 (3 * (vB V)) (nI (1 + (v % 300000)))) 109 ((3 * (vB V)) + 1) (nI ((v / 5) % ((1 + (v % 300000)) + 1)))) 109 ((3 * (vB V)) + 2) (nI ((v / 7) % 4))) 107 6 (nI (vB V + 1))) g hfl V Hs len T (hI.lw (fun q hq => by rw [mset_ne (by omega), mset_ne (by omega), mset_ne (by omega), mset_ne (by omega)])) (nI (1 + (v % 300000))) (nI ((v / 5) % (1 + (v % 300000) + 1))) (nI ((v / 7) % 4))) (Nat.le_of_ble_eq_true rfl) (Nat.le_of_ble_eq_true rfl) rfl rfl (Nat.le_of_ble_eq_true rfl) (Nat.le_of_ble_eq_true rfl) (Nat.le_of_ble_eq_true rfl) (fun r9 M9 g9 hp508 => ?_)
        obtain ⟨⟨hr, hI9, ho9⟩, rfl⟩ := wr_ok hp508 (eBoi_0 (inWN (a := 1) (c := 9999999) (by omega) (by omega) (by decide)) (inWN (a := 0) (by omega) (mod_le (by omega)) (by omega)) (inWN (a := 0) (c := 99) (by omega) (by omega) (by decide)) (by omega))
        refine r_aload_n C dL_acts_511 5 rfl ?_
        refine r_bipush (v := 6) C dL_acts_512 rfl ?_
        refine r_ialdN (j := 6) (v := nI (vB V + 1)) C dL_acts_514 rfl (rfl) (by omega) (by decide) (by rw [ho9 107 (by omega), mset_at, upd_at]) ?_
        refine r_iconst (v := 1) C dL_acts_515 rfl ?_
        refine r_isub C dL_acts_516 ?_
        refine r_valI (y := nI (vB V)) (nI_pred _) ?_
        refine r_icmp_ne (tgt := 524) C dL_acts_517 (by decide) (fun h => absurd (hr) h) (fun _ => ?_)
        refine r_iconst (v := 1) C dL_acts_520 rfl ?_
        refine r_goto (tgt := 525) C dL_acts_521 (by decide) ?_
        exact hend _ _ _ _ _ _ _ (Nat.le_of_ble_eq_true rfl) (Nat.le_of_ble_eq_true rfl) dL_acts_525 (⟨hI9, hE.boi (by rw [ho9 108 (by omega), mset_ne (by omega), mset_ne (by omega), mset_ne (by omega), mset_ne (by omega)]) (fun j hj => by rw [ho9 107 (by omega), mset_at, upd_ne hj, mset_ne (by omega), mset_ne (by omega), mset_ne (by omega)]) (by rw [ho9 107 (by omega), mset_at, upd_at]) (fun j hj => by rw [ho9 109 (by omega), mset_ne (by omega), mset_at, upd_ne (by omega), mset_at, upd_ne (by omega), mset_at, upd_ne (by omega)]) (by rw [ho9 109 (by omega), mset_ne (by omega), mset_at, upd_ne (by omega), mset_at, upd_ne (by omega), mset_at, upd_at]) (by rw [ho9 109 (by omega), mset_ne (by omega), mset_at, upd_ne (by omega), mset_at, upd_at]) (by rw [ho9 109 (by omega), mset_ne (by omega), mset_at, upd_at])⟩)
      ·
        refine r_bipush (v := 100) C dL_acts_475 rfl ?_
        refine r_goto (tgt := 481) C dL_acts_477 (by decide) ?_
        refine r_irem C dL_acts_481 (by decide) ?_
        refine r_valI (y := nI ((v / 7) % 100)) (pk_rem (a := v / 7) (d := 100) (by omega) (by omega) (by omega)) ?_
        refine r_iastN (j := (3 * (vB V)) + 2) C dL_acts_482 rfl (rfl) (by omega) (by decide) ?_
        refine r_aload_n C dL_acts_483 5 rfl ?_
        refine r_bipush (v := 6) C dL_acts_484 rfl ?_
        refine r_dup2 C dL_acts_486 rfl rfl ?_
        refine r_ialdN (j := 6) (v := nI (vB V)) C dL_acts_487 rfl (rfl) (by omega) (by decide) (by rw [mset_ne (by omega), mset_ne (by omega), mset_ne (by omega)]; exact hE.b) ?_
        refine r_iconst (v := 1) C dL_acts_488 rfl ?_
        refine r_iadd C dL_acts_489 ?_
        refine r_valI (y := nI (vB V + 1)) (nI_add (vB V) 1) ?_
        refine r_iastN (j := 6) C dL_acts_490 rfl (rfl) (by omega) (by decide) ?_
        refine r_aload_n C dL_acts_491 4 rfl ?_
        refine r_aload_n C dL_acts_492 7 rfl ?_
        refine r_iload C dL_acts_493 0 rfl ?_
        refine r_ialdN (j := 3 * (vB V)) (v := nI (1 + (v % 300000))) C dL_acts_495 rfl (rfl) (by omega) (by decide) (by rw [mset_ne (by omega), mset_at, upd_ne (by omega), mset_at, upd_ne (by omega), mset_at, upd_at]) ?_
        refine r_aload_n C dL_acts_496 7 rfl ?_
        refine r_iload C dL_acts_497 0 rfl ?_
        refine r_iconst (v := 1) C dL_acts_499 rfl ?_
        refine r_iadd C dL_acts_500 ?_
        refine r_valI (y := nI ((3 * (vB V)) + 1)) (nI_add (3 * (vB V)) 1) ?_
        refine r_ialdN (j := 3 * (vB V) + 1) (v := nI ((v / 5) % (1 + (v % 300000) + 1))) C dL_acts_501 rfl (rfl) (by omega) (by decide) (by rw [mset_ne (by omega), mset_at, upd_ne (by omega), mset_at, upd_at]) ?_
        refine r_aload_n C dL_acts_502 7 rfl ?_
        refine r_iload C dL_acts_503 0 rfl ?_
        refine r_iconst (v := 2) C dL_acts_505 rfl ?_
        refine r_iadd C dL_acts_506 ?_
        refine r_valI (y := nI ((3 * (vB V)) + 2)) (nI_add (3 * (vB V)) 2) ?_
        refine r_ialdN (j := 3 * (vB V) + 2) (v := nI ((v / 7) % 100)) C dL_acts_507 rfl (rfl) (by omega) (by decide) (by rw [mset_ne (by omega), mset_at, upd_at]) ?_
        refine r_lS (As := [.ref (mA G 0), .int (nI (1 + (v % 300000))), .int (nI ((v / 5) % (1 + (v % 300000) + 1))), .int (nI ((v / 7) % 100))]) (rest := []) C dL_acts_508 w_L_32 (c_L_boilers l G hG (mset (mset (mset (mset M 109 (3 * (vB V)) (nI (1 + (v % 300000)))) 109 ((3 * (vB V)) + 1) (nI ((v / 5) % ((1 + (v % 300000)) + 1)))) 109 ((3 * (vB V)) + 2) (nI ((v / 7) % 100))) 107 6 (nI (vB V + 1))) g hfl V Hs len T (hI.lw (fun q hq => by rw [mset_ne (by omega), mset_ne (by omega), mset_ne (by omega), mset_ne (by omega)])) (nI (1 + (v % 300000))) (nI ((v / 5) % (1 + (v % 300000) + 1))) (nI ((v / 7) % 100))) (Nat.le_of_ble_eq_true rfl) (Nat.le_of_ble_eq_true rfl) rfl rfl (Nat.le_of_ble_eq_true rfl) (Nat.le_of_ble_eq_true rfl) (Nat.le_of_ble_eq_true rfl) (fun r9 M9 g9 hp508 => ?_)
        obtain ⟨⟨hr, hI9, ho9⟩, rfl⟩ := wr_ok hp508 (eBoi_0 (inWN (a := 1) (c := 9999999) (by omega) (by omega) (by decide)) (inWN (a := 0) (by omega) (mod_le (by omega)) (by omega)) (inWN (a := 0) (c := 99) (by omega) (by omega) (by decide)) (by omega))
        refine r_aload_n C dL_acts_511 5 rfl ?_
        refine r_bipush (v := 6) C dL_acts_512 rfl ?_
        refine r_ialdN (j := 6) (v := nI (vB V + 1)) C dL_acts_514 rfl (rfl) (by omega) (by decide) (by rw [ho9 107 (by omega), mset_at, upd_at]) ?_
        refine r_iconst (v := 1) C dL_acts_515 rfl ?_
        refine r_isub C dL_acts_516 ?_
        refine r_valI (y := nI (vB V)) (nI_pred _) ?_
        refine r_icmp_ne (tgt := 524) C dL_acts_517 (by decide) (fun h => absurd (hr) h) (fun _ => ?_)
        refine r_iconst (v := 1) C dL_acts_520 rfl ?_
        refine r_goto (tgt := 525) C dL_acts_521 (by decide) ?_
        exact hend _ _ _ _ _ _ _ (Nat.le_of_ble_eq_true rfl) (Nat.le_of_ble_eq_true rfl) dL_acts_525 (⟨hI9, hE.boi (by rw [ho9 108 (by omega), mset_ne (by omega), mset_ne (by omega), mset_ne (by omega), mset_ne (by omega)]) (fun j hj => by rw [ho9 107 (by omega), mset_at, upd_ne hj, mset_ne (by omega), mset_ne (by omega), mset_ne (by omega)]) (by rw [ho9 107 (by omega), mset_at, upd_at]) (fun j hj => by rw [ho9 109 (by omega), mset_ne (by omega), mset_at, upd_ne (by omega), mset_at, upd_ne (by omega), mset_at, upd_ne (by omega)]) (by rw [ho9 109 (by omega), mset_ne (by omega), mset_at, upd_ne (by omega), mset_at, upd_ne (by omega), mset_at, upd_at]) (by rw [ho9 109 (by omega), mset_ne (by omega), mset_at, upd_ne (by omega), mset_at, upd_at]) (by rw [ho9 109 (by omega), mset_ne (by omega), mset_at, upd_at])⟩)
    ·
      refine r_ldc (v := 2000000) C dL_acts_431 (gd_t 553 (by decide +kernel) rfl) ?_
      refine r_goto (tgt := 438) C dL_acts_433 (by decide) ?_
      refine r_irem C dL_acts_438 (by decide) ?_
      refine r_valI (y := nI (v % 2000000)) (pk_rem (a := v) (d := 2000000) (by omega) (by omega) (by omega)) ?_
      refine r_iadd C dL_acts_439 ?_
      refine r_valI (y := nI (1 + (v % 2000000))) (nI_add 1 (v % 2000000)) ?_
      refine r_iastN (j := 3 * (vB V)) C dL_acts_440 rfl (rfl) (by omega) (by decide) ?_
      refine r_aload_n C dL_acts_441 7 rfl ?_
      refine r_iload C dL_acts_442 0 rfl ?_
      refine r_iconst (v := 1) C dL_acts_444 rfl ?_
      refine r_iadd C dL_acts_445 ?_
      refine r_valI (y := nI ((3 * (vB V)) + 1)) (nI_add (3 * (vB V)) 1) ?_
      refine r_iload C dL_acts_446 3 rfl ?_
      refine r_iconst (v := 5) C dL_acts_448 rfl ?_
      refine r_idiv C dL_acts_449 (by decide) ?_
      refine r_valI (y := nI (v / 5)) (pk_div (a := v) (d := 5) (by omega) (by omega) (by omega)) ?_
      refine r_aload_n C dL_acts_450 7 rfl ?_
      refine r_iload C dL_acts_451 0 rfl ?_
      refine r_ialdN (j := 3 * (vB V)) (v := nI (1 + (v % 2000000))) C dL_acts_453 rfl (rfl) (by omega) (by decide) (by rw [mset_at, upd_at]) ?_
      refine r_iconst (v := 1) C dL_acts_454 rfl ?_
      refine r_iadd C dL_acts_455 ?_
      refine r_valI (y := nI ((1 + (v % 2000000)) + 1)) (nI_add (1 + (v % 2000000)) 1) ?_
      refine r_irem C dL_acts_456 (nI_ne0 (by omega) (by omega)) ?_
      refine r_valI (y := nI ((v / 5) % ((1 + (v % 2000000)) + 1))) (pk_rem (a := v / 5) (d := (1 + (v % 2000000)) + 1) (by omega) (by omega) (by omega)) ?_
      refine r_iastN (j := (3 * (vB V)) + 1) C dL_acts_457 rfl (rfl) (by omega) (by decide) ?_
      refine r_aload_n C dL_acts_458 7 rfl ?_
      refine r_iload C dL_acts_459 0 rfl ?_
      refine r_iconst (v := 2) C dL_acts_461 rfl ?_
      refine r_iadd C dL_acts_462 ?_
      refine r_valI (y := nI ((3 * (vB V)) + 2)) (nI_add (3 * (vB V)) 2) ?_
      refine r_iload C dL_acts_463 3 rfl ?_
      refine r_bipush (v := 7) C dL_acts_465 rfl ?_
      refine r_idiv C dL_acts_467 (by decide) ?_
      refine r_valI (y := nI (v / 7)) (pk_div (a := v) (d := 7) (by omega) (by omega) (by omega)) ?_
      refine r_iload C dL_acts_468 3 rfl ?_
      refine r_iconst (v := 3) C dL_acts_470 rfl ?_
      refine r_irem C dL_acts_471 (by decide) ?_
      refine r_valI (y := nI (v % 3)) (pk_rem (a := v) (d := 3) (by omega) (by omega) (by omega)) ?_
      refine r_if_ne (tgt := 480) C dL_acts_472 (by decide) (fun c472 => ?_) (fun c472 => ?_)
      ·
        refine r_iconst (v := 4) C dL_acts_480 rfl ?_
        refine r_irem C dL_acts_481 (by decide) ?_
        refine r_valI (y := nI ((v / 7) % 4)) (pk_rem (a := v / 7) (d := 4) (by omega) (by omega) (by omega)) ?_
        refine r_iastN (j := (3 * (vB V)) + 2) C dL_acts_482 rfl (rfl) (by omega) (by decide) ?_
        refine r_aload_n C dL_acts_483 5 rfl ?_
        refine r_bipush (v := 6) C dL_acts_484 rfl ?_
        refine r_dup2 C dL_acts_486 rfl rfl ?_
        refine r_ialdN (j := 6) (v := nI (vB V)) C dL_acts_487 rfl (rfl) (by omega) (by decide) (by rw [mset_ne (by omega), mset_ne (by omega), mset_ne (by omega)]; exact hE.b) ?_
        refine r_iconst (v := 1) C dL_acts_488 rfl ?_
        refine r_iadd C dL_acts_489 ?_
        refine r_valI (y := nI (vB V + 1)) (nI_add (vB V) 1) ?_
        refine r_iastN (j := 6) C dL_acts_490 rfl (rfl) (by omega) (by decide) ?_
        refine r_aload_n C dL_acts_491 4 rfl ?_
        refine r_aload_n C dL_acts_492 7 rfl ?_
        refine r_iload C dL_acts_493 0 rfl ?_
        refine r_ialdN (j := 3 * (vB V)) (v := nI (1 + (v % 2000000))) C dL_acts_495 rfl (rfl) (by omega) (by decide) (by rw [mset_ne (by omega), mset_at, upd_ne (by omega), mset_at, upd_ne (by omega), mset_at, upd_at]) ?_
        refine r_aload_n C dL_acts_496 7 rfl ?_
        refine r_iload C dL_acts_497 0 rfl ?_
        refine r_iconst (v := 1) C dL_acts_499 rfl ?_
        refine r_iadd C dL_acts_500 ?_
        refine r_valI (y := nI ((3 * (vB V)) + 1)) (nI_add (3 * (vB V)) 1) ?_
        refine r_ialdN (j := 3 * (vB V) + 1) (v := nI ((v / 5) % (1 + (v % 2000000) + 1))) C dL_acts_501 rfl (rfl) (by omega) (by decide) (by rw [mset_ne (by omega), mset_at, upd_ne (by omega), mset_at, upd_at]) ?_
        refine r_aload_n C dL_acts_502 7 rfl ?_
        refine r_iload C dL_acts_503 0 rfl ?_
        refine r_iconst (v := 2) C dL_acts_505 rfl ?_
        refine r_iadd C dL_acts_506 ?_
        refine r_valI (y := nI ((3 * (vB V)) + 2)) (nI_add (3 * (vB V)) 2) ?_
        refine r_ialdN (j := 3 * (vB V) + 2) (v := nI ((v / 7) % 4)) C dL_acts_507 rfl (rfl) (by omega) (by decide) (by rw [mset_ne (by omega), mset_at, upd_at]) ?_
        refine r_lS (As := [.ref (mA G 0), .int (nI (1 + (v % 2000000))), .int (nI ((v / 5) % (1 + (v % 2000000) + 1))), .int (nI ((v / 7) % 4))]) (rest := []) C dL_acts_508 w_L_32 (c_L_boilers l G hG (mset (mset (mset (mset M 109 (3 * (vB V)) (nI (1 + (v % 2000000)))) 109 ((3 * (vB V)) + 1) (nI ((v / 5) % ((1 + (v % 2000000)) + 1)))) 109 ((3 * (vB V)) + 2) (nI ((v / 7) % 4))) 107 6 (nI (vB V + 1))) g hfl V Hs len T (hI.lw (fun q hq => by rw [mset_ne (by omega), mset_ne (by omega), mset_ne (by omega), mset_ne (by omega)])) (nI (1 + (v % 2000000))) (nI ((v / 5) % (1 + (v % 2000000) + 1))) (nI ((v / 7) % 4))) (Nat.le_of_ble_eq_true rfl) (Nat.le_of_ble_eq_true rfl) rfl rfl (Nat.le_of_ble_eq_true rfl) (Nat.le_of_ble_eq_true rfl) (Nat.le_of_ble_eq_true rfl) (fun r9 M9 g9 hp508 => ?_)
        obtain ⟨⟨hr, hI9, ho9⟩, rfl⟩ := wr_ok hp508 (eBoi_0 (inWN (a := 1) (c := 9999999) (by omega) (by omega) (by decide)) (inWN (a := 0) (by omega) (mod_le (by omega)) (by omega)) (inWN (a := 0) (c := 99) (by omega) (by omega) (by decide)) (by omega))
        refine r_aload_n C dL_acts_511 5 rfl ?_
        refine r_bipush (v := 6) C dL_acts_512 rfl ?_
        refine r_ialdN (j := 6) (v := nI (vB V + 1)) C dL_acts_514 rfl (rfl) (by omega) (by decide) (by rw [ho9 107 (by omega), mset_at, upd_at]) ?_
        refine r_iconst (v := 1) C dL_acts_515 rfl ?_
        refine r_isub C dL_acts_516 ?_
        refine r_valI (y := nI (vB V)) (nI_pred _) ?_
        refine r_icmp_ne (tgt := 524) C dL_acts_517 (by decide) (fun h => absurd (hr) h) (fun _ => ?_)
        refine r_iconst (v := 1) C dL_acts_520 rfl ?_
        refine r_goto (tgt := 525) C dL_acts_521 (by decide) ?_
        exact hend _ _ _ _ _ _ _ (Nat.le_of_ble_eq_true rfl) (Nat.le_of_ble_eq_true rfl) dL_acts_525 (⟨hI9, hE.boi (by rw [ho9 108 (by omega), mset_ne (by omega), mset_ne (by omega), mset_ne (by omega), mset_ne (by omega)]) (fun j hj => by rw [ho9 107 (by omega), mset_at, upd_ne hj, mset_ne (by omega), mset_ne (by omega), mset_ne (by omega)]) (by rw [ho9 107 (by omega), mset_at, upd_at]) (fun j hj => by rw [ho9 109 (by omega), mset_ne (by omega), mset_at, upd_ne (by omega), mset_at, upd_ne (by omega), mset_at, upd_ne (by omega)]) (by rw [ho9 109 (by omega), mset_ne (by omega), mset_at, upd_ne (by omega), mset_at, upd_ne (by omega), mset_at, upd_at]) (by rw [ho9 109 (by omega), mset_ne (by omega), mset_at, upd_ne (by omega), mset_at, upd_at]) (by rw [ho9 109 (by omega), mset_ne (by omega), mset_at, upd_at])⟩)
      ·
        refine r_bipush (v := 100) C dL_acts_475 rfl ?_
        refine r_goto (tgt := 481) C dL_acts_477 (by decide) ?_
        refine r_irem C dL_acts_481 (by decide) ?_
        refine r_valI (y := nI ((v / 7) % 100)) (pk_rem (a := v / 7) (d := 100) (by omega) (by omega) (by omega)) ?_
        refine r_iastN (j := (3 * (vB V)) + 2) C dL_acts_482 rfl (rfl) (by omega) (by decide) ?_
        refine r_aload_n C dL_acts_483 5 rfl ?_
        refine r_bipush (v := 6) C dL_acts_484 rfl ?_
        refine r_dup2 C dL_acts_486 rfl rfl ?_
        refine r_ialdN (j := 6) (v := nI (vB V)) C dL_acts_487 rfl (rfl) (by omega) (by decide) (by rw [mset_ne (by omega), mset_ne (by omega), mset_ne (by omega)]; exact hE.b) ?_
        refine r_iconst (v := 1) C dL_acts_488 rfl ?_
        refine r_iadd C dL_acts_489 ?_
        refine r_valI (y := nI (vB V + 1)) (nI_add (vB V) 1) ?_
        refine r_iastN (j := 6) C dL_acts_490 rfl (rfl) (by omega) (by decide) ?_
        refine r_aload_n C dL_acts_491 4 rfl ?_
        refine r_aload_n C dL_acts_492 7 rfl ?_
        refine r_iload C dL_acts_493 0 rfl ?_
        refine r_ialdN (j := 3 * (vB V)) (v := nI (1 + (v % 2000000))) C dL_acts_495 rfl (rfl) (by omega) (by decide) (by rw [mset_ne (by omega), mset_at, upd_ne (by omega), mset_at, upd_ne (by omega), mset_at, upd_at]) ?_
        refine r_aload_n C dL_acts_496 7 rfl ?_
        refine r_iload C dL_acts_497 0 rfl ?_
        refine r_iconst (v := 1) C dL_acts_499 rfl ?_
        refine r_iadd C dL_acts_500 ?_
        refine r_valI (y := nI ((3 * (vB V)) + 1)) (nI_add (3 * (vB V)) 1) ?_
        refine r_ialdN (j := 3 * (vB V) + 1) (v := nI ((v / 5) % (1 + (v % 2000000) + 1))) C dL_acts_501 rfl (rfl) (by omega) (by decide) (by rw [mset_ne (by omega), mset_at, upd_ne (by omega), mset_at, upd_at]) ?_
        refine r_aload_n C dL_acts_502 7 rfl ?_
        refine r_iload C dL_acts_503 0 rfl ?_
        refine r_iconst (v := 2) C dL_acts_505 rfl ?_
        refine r_iadd C dL_acts_506 ?_
        refine r_valI (y := nI ((3 * (vB V)) + 2)) (nI_add (3 * (vB V)) 2) ?_
        refine r_ialdN (j := 3 * (vB V) + 2) (v := nI ((v / 7) % 100)) C dL_acts_507 rfl (rfl) (by omega) (by decide) (by rw [mset_ne (by omega), mset_at, upd_at]) ?_
        refine r_lS (As := [.ref (mA G 0), .int (nI (1 + (v % 2000000))), .int (nI ((v / 5) % (1 + (v % 2000000) + 1))), .int (nI ((v / 7) % 100))]) (rest := []) C dL_acts_508 w_L_32 (c_L_boilers l G hG (mset (mset (mset (mset M 109 (3 * (vB V)) (nI (1 + (v % 2000000)))) 109 ((3 * (vB V)) + 1) (nI ((v / 5) % ((1 + (v % 2000000)) + 1)))) 109 ((3 * (vB V)) + 2) (nI ((v / 7) % 100))) 107 6 (nI (vB V + 1))) g hfl V Hs len T (hI.lw (fun q hq => by rw [mset_ne (by omega), mset_ne (by omega), mset_ne (by omega), mset_ne (by omega)])) (nI (1 + (v % 2000000))) (nI ((v / 5) % (1 + (v % 2000000) + 1))) (nI ((v / 7) % 100))) (Nat.le_of_ble_eq_true rfl) (Nat.le_of_ble_eq_true rfl) rfl rfl (Nat.le_of_ble_eq_true rfl) (Nat.le_of_ble_eq_true rfl) (Nat.le_of_ble_eq_true rfl) (fun r9 M9 g9 hp508 => ?_)
        obtain ⟨⟨hr, hI9, ho9⟩, rfl⟩ := wr_ok hp508 (eBoi_0 (inWN (a := 1) (c := 9999999) (by omega) (by omega) (by decide)) (inWN (a := 0) (by omega) (mod_le (by omega)) (by omega)) (inWN (a := 0) (c := 99) (by omega) (by omega) (by decide)) (by omega))
        refine r_aload_n C dL_acts_511 5 rfl ?_
        refine r_bipush (v := 6) C dL_acts_512 rfl ?_
        refine r_ialdN (j := 6) (v := nI (vB V + 1)) C dL_acts_514 rfl (rfl) (by omega) (by decide) (by rw [ho9 107 (by omega), mset_at, upd_at]) ?_
        refine r_iconst (v := 1) C dL_acts_515 rfl ?_
        refine r_isub C dL_acts_516 ?_
        refine r_valI (y := nI (vB V)) (nI_pred _) ?_
        refine r_icmp_ne (tgt := 524) C dL_acts_517 (by decide) (fun h => absurd (hr) h) (fun _ => ?_)
        refine r_iconst (v := 1) C dL_acts_520 rfl ?_
        refine r_goto (tgt := 525) C dL_acts_521 (by decide) ?_
        exact hend _ _ _ _ _ _ _ (Nat.le_of_ble_eq_true rfl) (Nat.le_of_ble_eq_true rfl) dL_acts_525 (⟨hI9, hE.boi (by rw [ho9 108 (by omega), mset_ne (by omega), mset_ne (by omega), mset_ne (by omega), mset_ne (by omega)]) (fun j hj => by rw [ho9 107 (by omega), mset_at, upd_ne hj, mset_ne (by omega), mset_ne (by omega), mset_ne (by omega)]) (by rw [ho9 107 (by omega), mset_at, upd_at]) (fun j hj => by rw [ho9 109 (by omega), mset_ne (by omega), mset_at, upd_ne (by omega), mset_at, upd_ne (by omega), mset_at, upd_ne (by omega)]) (by rw [ho9 109 (by omega), mset_ne (by omega), mset_at, upd_ne (by omega), mset_at, upd_ne (by omega), mset_at, upd_at]) (by rw [ho9 109 (by omega), mset_ne (by omega), mset_at, upd_ne (by omega), mset_at, upd_at]) (by rw [ho9 109 (by omega), mset_ne (by omega), mset_at, upd_at])⟩)
  ·
    have hB4 : vB V = 4 := (nI_eq (b := 4) (by omega) (by decide)).mp c389
    refine r_aload_n C dL_acts_392 3 rfl ?_
    refine r_iconst (v := 1) C dL_acts_393 rfl ?_
    refine r_iconst (v := 0) C dL_acts_394 rfl ?_
    refine r_iconst (v := 1) C dL_acts_395 rfl ?_
    refine r_lS (As := [.ref (mA G 0), .int 1, .int 0, .int 1]) (rest := []) C dL_acts_396 w_L_32 (c_L_boilers l G hG M g hfl V Hs len T (hI.lw (fun q hq => rfl)) 1 0 1) (Nat.le_of_ble_eq_true rfl) (Nat.le_of_ble_eq_true rfl) rfl rfl (Nat.le_of_ble_eq_true rfl) (Nat.le_of_ble_eq_true rfl) (Nat.le_of_ble_eq_true rfl) (fun r9 M9 g9 hp396 => ?_)
    obtain ⟨hr, rfl, rfl⟩ := wr_no hp396 1 (-1000000003) rfl (eBoi_2 ⟨by decide, by decide⟩ ⟨by decide, by decide⟩ ⟨by decide, by decide⟩ hB4)
    refine r_ldc (v := -1000000003) C dL_acts_399 (gd_t 552 (by decide +kernel) rfl) ?_
    refine r_icmp_ne (tgt := 408) C dL_acts_401 (by decide) (fun h => absurd (hr) h) (fun _ => ?_)
    refine r_iconst (v := 1) C dL_acts_404 rfl ?_
    refine r_goto (tgt := 409) C dL_acts_405 (by decide) ?_
    exact hend _ _ _ _ _ _ _ (Nat.le_of_ble_eq_true rfl) (Nat.le_of_ble_eq_true rfl) dL_acts_409 (⟨hI, hE⟩)

set_option maxRecDepth 20000 in
set_option maxHeartbeats 8000000 in
theorem ac_8 {p : Program} {l : Launch} {e : Env} {s : State} {m : MethodId} {args : Array Value} {below : List Frame} {meth : Method} {c : Code} {G : mG} {Q : State → Prop} {M : Mem} {g : Glo} (hG : mInj G) (C : mCx p s m args c cL_acts 19 RL G) (hfl : l.stackTraces = false) (V : View) (Hs : List View) (len : Nat) (T : Nat → Int32) (hI : cINV M V Hs len T) (hE : eOK M V) (v n : Nat) (nb z : Int32) (hv : v < 10000000) (hnb : (nb = 1 ∧ vN V = 1) ∨ (nb = 0 ∧ 0 < n ∧ n < vN V)) (hend : ∀ (V' : View) (Hs' : List View) (M' : Mem) (L' : List (Nat × Value)) (pc kk nn : Nat), kk ≤ 6 → nn ≤ 36 → decode cL_acts pc = .ok (.ireturn, 1) → (cINV M' V' Hs' len T ∧ eOK M' V') → At p l e (rmD 9 6 36) s m args below meth c G 19 kk nn Q M' g L' pc [.int 1]) : At p l e (rmD 9 6 36) s m args below meth c G 19 0 0 Q M g [(8, .int nb), (7, .int (nI n)), (6, .int (nI v)), (0, .ref (mA G 0)), (1, .ref (mA G 107)), (2, .ref (mA G 108)), (3, .ref (mA G 109)), (4, .ref (mA G 110)), (5, .int z)] 526 [] := by
  obtain ⟨hC9, hW, hH9, hHs9, hTx9, hP09⟩ := id hI
  have hT := hW.1
  obtain ⟨hn1, hn16, hb4, ⟨hd0, hd3, hd5, hd6⟩, hpar⟩ := id hT
  have h8 := hE.le
  refine r_aload_n C dL_acts_526 4 rfl ?_
  refine r_bipush (v := 6) C dL_acts_527 rfl ?_
  refine r_ialdN (j := 6) (v := nI (vB V)) C dL_acts_529 rfl (rfl) (by omega) (by decide) (hE.b) ?_
  refine r_if_ne (tgt := 551) C dL_acts_530 (by decide) (fun c530 => ?_) (fun c530 => ?_)
  ·
    have hB0 : 0 < vB V := by rcases Nat.eq_zero_or_pos (vB V) with q | q; exact absurd (by rw [q]; rfl) c530; exact q
    obtain ⟨kb, hkb, ekb⟩ : ∃ kb, kb < vB V ∧ v % vB V = kb := ⟨_, Nat.mod_lt _ hB0, rfl⟩
    refine r_iload C dL_acts_551 2 rfl ?_
    refine r_aload_n C dL_acts_553 4 rfl ?_
    refine r_bipush (v := 6) C dL_acts_554 rfl ?_
    refine r_ialdN (j := 6) (v := nI (vB V)) C dL_acts_556 rfl (rfl) (by omega) (by decide) (hE.b) ?_
    refine r_irem C dL_acts_557 (nI_ne0 hB0 (by omega)) ?_
    refine r_valI (y := nI kb) ((pk_rem (by omega) hB0 (by omega)).trans (congrArg nI ekb)) ?_
    refine r_istore (L' := [(13, .int (nI kb)), (8, .int nb), (7, .int (nI n)), (6, .int (nI v)), (0, .ref (mA G 0)), (1, .ref (mA G 107)), (2, .ref (mA G 108)), (3, .ref (mA G 109)), (4, .ref (mA G 110)), (5, .int z)]) C dL_acts_558 (by decide) rfl ?_
    refine r_aload_n C dL_acts_560 7 rfl ?_
    refine r_iconst (v := 3) C dL_acts_561 rfl ?_
    refine r_iload C dL_acts_562 0 rfl ?_
    refine r_imul C dL_acts_564 ?_
    refine r_valI (y := nI (3 * kb)) (pk_mul 3 kb) ?_
    refine r_iconst (v := 2) C dL_acts_565 rfl ?_
    refine r_iadd C dL_acts_566 ?_
    refine r_valI (y := nI (3 * kb + 2)) (nI_add (3 * kb) 2) ?_
    refine r_ialdN (j := 3 * kb + 2) (v := vO V 2 kb) C dL_acts_567 rfl (rfl) (by omega) (by decide) (hE.o kb 2 hkb (by decide)) ?_
    refine r_istore (L' := [(14, .int (vO V 2 kb)), (13, .int (nI kb)), (8, .int nb), (7, .int (nI n)), (6, .int (nI v)), (0, .ref (mA G 0)), (1, .ref (mA G 107)), (2, .ref (mA G 108)), (3, .ref (mA G 109)), (4, .ref (mA G 110)), (5, .int z)]) C dL_acts_568 (by decide) rfl ?_
    refine r_aload_n C dL_acts_570 8 rfl ?_
    refine r_iconst (v := 3) C dL_acts_571 rfl ?_
    refine r_iload C dL_acts_572 1 rfl ?_
    refine r_imul C dL_acts_574 ?_
    refine r_valI (y := nI (3 * kb)) (pk_mul 3 kb) ?_
    refine r_iconst (v := 2) C dL_acts_575 rfl ?_
    refine r_iadd C dL_acts_576 ?_
    refine r_valI (y := nI (3 * kb + 2)) (nI_add (3 * kb) 2) ?_
    refine r_iload C dL_acts_577 4 rfl ?_
    refine r_iconst (v := 4) C dL_acts_579 rfl ?_
    refine r_idiv C dL_acts_580 (by decide) ?_
    refine r_valI (y := nI (v / 4)) (pk_div (a := v) (d := 4) (by omega) (by omega) (by omega)) ?_
    refine r_bipush (v := 100) C dL_acts_581 rfl ?_
    refine r_irem C dL_acts_583 (by decide) ?_
    refine r_valI (y := nI ((v / 4) % 100)) (pk_rem (a := v / 4) (d := 100) (by omega) (by omega) (by omega)) ?_
    refine r_iastN (j := 3 * kb + 2) C dL_acts_584 rfl (rfl) (by omega) (by decide) ?_
    refine r_aload_n C dL_acts_585 5 rfl ?_
    refine r_iload C dL_acts_586 1 rfl ?_
    refine r_aload_n C dL_acts_588 8 rfl ?_
    refine r_iconst (v := 3) C dL_acts_589 rfl ?_
    refine r_iload C dL_acts_590 1 rfl ?_
    refine r_imul C dL_acts_592 ?_
    refine r_valI (y := nI (3 * kb)) (pk_mul 3 kb) ?_
    refine r_iconst (v := 2) C dL_acts_593 rfl ?_
    refine r_iadd C dL_acts_594 ?_
    refine r_valI (y := nI (3 * kb + 2)) (nI_add (3 * kb) 2) ?_
    refine r_ialdN (j := 3 * kb + 2) (v := nI ((v / 4) % 100)) C dL_acts_595 rfl (rfl) (by omega) (by decide) (by rw [mset_at, upd_at]) ?_
    refine r_lS (As := [.ref (mA G 0), .int (nI kb), .int (nI ((v / 4) % 100))]) (rest := []) C dL_acts_596 w_L_38 (c_L_costsOf l G hG (mset M 109 (3 * kb + 2) (nI ((v / 4) % 100))) g hfl V Hs len T (hI.lw (fun q hq => by rw [mset_ne (by omega)])) (nI kb) (nI ((v / 4) % 100))) (Nat.le_of_ble_eq_true rfl) (Nat.le_of_ble_eq_true rfl) rfl rfl (Nat.le_of_ble_eq_true rfl) (Nat.le_of_ble_eq_true rfl) (Nat.le_of_ble_eq_true rfl) (fun r9 M9 g9 hp596 => ?_)
    rw [show (nI kb).toNatClampNeg = kb from nI_clamp (by omega)] at hp596
    obtain ⟨⟨hr, hI9, ho9⟩, rfl⟩ := wr_ok hp596 (eCost_0 ⟨nI_pos' (by omega), nI_lt hkb (by omega)⟩ (inWN (a := 0) (c := 99) (by omega) (by omega) (by decide)))
    refine r_iload C dL_acts_599 0 rfl ?_
    refine r_icmp_ne (tgt := 608) C dL_acts_601 (by decide) (fun h => absurd (hr) h) (fun _ => ?_)
    refine r_iconst (v := 1) C dL_acts_604 rfl ?_
    refine r_goto (tgt := 609) C dL_acts_605 (by decide) ?_
    exact hend _ _ _ _ _ _ _ (Nat.le_of_ble_eq_true rfl) (Nat.le_of_ble_eq_true rfl) dL_acts_609 (⟨hI9, (hE.bo (k := kb) (w := 2) hkb (by decide)).offC ho9⟩)
  ·
    refine r_aload_n C dL_acts_533 3 rfl ?_
    refine r_iconst (v := 0) C dL_acts_534 rfl ?_
    refine r_bipush (v := 100) C dL_acts_535 rfl ?_
    refine r_lS (As := [.ref (mA G 0), .int 0, .int 100]) (rest := []) C dL_acts_537 w_L_38 (c_L_costsOf l G hG M g hfl V Hs len T (hI.lw (fun q hq => rfl)) 0 100) (Nat.le_of_ble_eq_true rfl) (Nat.le_of_ble_eq_true rfl) rfl rfl (Nat.le_of_ble_eq_true rfl) (Nat.le_of_ble_eq_true rfl) (Nat.le_of_ble_eq_true rfl) (fun r9 M9 g9 hp537 => ?_)
    obtain ⟨hr, rfl, rfl⟩ := wr_no hp537 0 (-1000000001) rfl (if_pos (fun z => absurd z.2 (by rw [c530]; decide)))
    refine r_ldc (v := -1000000001) C dL_acts_540 (gd_t 515 (by decide +kernel) rfl) ?_
    refine r_icmp_ne (tgt := 549) C dL_acts_542 (by decide) (fun h => absurd (hr) h) (fun _ => ?_)
    refine r_iconst (v := 1) C dL_acts_545 rfl ?_
    refine r_goto (tgt := 550) C dL_acts_546 (by decide) ?_
    exact hend _ _ _ _ _ _ _ (Nat.le_of_ble_eq_true rfl) (Nat.le_of_ble_eq_true rfl) dL_acts_550 (⟨hI, hE⟩)

set_option maxRecDepth 20000 in
set_option maxHeartbeats 8000000 in
theorem ac_9 {p : Program} {l : Launch} {e : Env} {s : State} {m : MethodId} {args : Array Value} {below : List Frame} {meth : Method} {c : Code} {G : mG} {Q : State → Prop} {M : Mem} {g : Glo} (hG : mInj G) (C : mCx p s m args c cL_acts 19 RL G) (hfl : l.stackTraces = false) (V : View) (Hs : List View) (len : Nat) (T : Nat → Int32) (hI : cINV M V Hs len T) (hE : eOK M V) (v n : Nat) (nb z : Int32) (hv : v < 10000000) (hnb : (nb = 1 ∧ vN V = 1) ∨ (nb = 0 ∧ 0 < n ∧ n < vN V)) (hend : ∀ (V' : View) (Hs' : List View) (M' : Mem) (L' : List (Nat × Value)) (pc kk nn : Nat), kk ≤ 6 → nn ≤ 36 → decode cL_acts pc = .ok (.ireturn, 1) → (cINV M' V' Hs' len T ∧ eOK M' V') → At p l e (rmD 9 6 36) s m args below meth c G 19 kk nn Q M' g L' pc [.int 1]) : At p l e (rmD 9 6 36) s m args below meth c G 19 0 0 Q M g [(8, .int nb), (7, .int (nI n)), (6, .int (nI v)), (0, .ref (mA G 0)), (1, .ref (mA G 107)), (2, .ref (mA G 108)), (3, .ref (mA G 109)), (4, .ref (mA G 110)), (5, .int z)] 610 [] := by
  obtain ⟨hC9, hW, hH9, hHs9, hTx9, hP09⟩ := id hI
  have hT := hW.1
  obtain ⟨hn1, hn16, hb4, ⟨hd0, hd3, hd5, hd6⟩, hpar⟩ := id hT
  have h8 := hE.le
  refine r_aload_n C dL_acts_610 4 rfl ?_
  refine r_iconst (v := 2) C dL_acts_611 rfl ?_
  refine r_ialdN (j := 2) (v := vS V 2) C dL_acts_612 rfl (rfl) (by omega) (by decide) (hE.s 2 (by decide)) ?_
  refine r_istore (L' := [(15, .int (vS V 2)), (8, .int nb), (7, .int (nI n)), (6, .int (nI v)), (0, .ref (mA G 0)), (1, .ref (mA G 107)), (2, .ref (mA G 108)), (3, .ref (mA G 109)), (4, .ref (mA G 110)), (5, .int z)]) C dL_acts_613 (by decide) rfl ?_
  refine r_aload_n C dL_acts_615 5 rfl ?_
  refine r_iconst (v := 2) C dL_acts_616 rfl ?_
  refine r_iload C dL_acts_617 3 rfl ?_
  refine r_sipush (v := 1000) C dL_acts_619 rfl ?_
  refine r_irem C dL_acts_622 (by decide) ?_
  refine r_valI (y := nI (v % 1000)) (pk_rem (a := v) (d := 1000) (by omega) (by omega) (by omega)) ?_
  refine r_iastN (j := 2) C dL_acts_623 rfl (rfl) (by omega) (by decide) ?_
  refine r_aload_n C dL_acts_624 5 rfl ?_
  refine r_iconst (v := 3) C dL_acts_625 rfl ?_
  refine r_iload C dL_acts_626 3 rfl ?_
  refine r_sipush (v := 1000) C dL_acts_628 rfl ?_
  refine r_idiv C dL_acts_631 (by decide) ?_
  refine r_valI (y := nI (v / 1000)) (pk_div (a := v) (d := 1000) (by omega) (by omega) (by omega)) ?_
  refine r_sipush (v := 1201) C dL_acts_632 rfl ?_
  refine r_irem C dL_acts_635 (by decide) ?_
  refine r_valI (y := nI ((v / 1000) % 1201)) (pk_rem (a := v / 1000) (d := 1201) (by omega) (by omega) (by omega)) ?_
  refine r_iastN (j := 3) C dL_acts_636 rfl (rfl) (by omega) (by decide) ?_
  refine r_aload_n C dL_acts_637 5 rfl ?_
  refine r_iconst (v := 4) C dL_acts_638 rfl ?_
  refine r_iload C dL_acts_639 3 rfl ?_
  refine r_bipush (v := 9) C dL_acts_641 rfl ?_
  refine r_idiv C dL_acts_643 (by decide) ?_
  refine r_valI (y := nI (v / 9)) (pk_div (a := v) (d := 9) (by omega) (by omega) (by omega)) ?_
  refine r_bipush (v := 100) C dL_acts_644 rfl ?_
  refine r_irem C dL_acts_646 (by decide) ?_
  refine r_valI (y := nI ((v / 9) % 100)) (pk_rem (a := v / 9) (d := 100) (by omega) (by omega) (by omega)) ?_
  refine r_iastN (j := 4) C dL_acts_647 rfl (rfl) (by omega) (by decide) ?_
  refine r_aload_n C dL_acts_648 4 rfl ?_
  refine r_aload_n C dL_acts_649 5 rfl ?_
  refine r_iconst (v := 2) C dL_acts_650 rfl ?_
  refine r_ialdN (j := 2) (v := nI (v % 1000)) C dL_acts_651 rfl (rfl) (by omega) (by decide) (by rw [mset_at, upd_ne (by omega), mset_at, upd_ne (by omega), mset_at, upd_at]) ?_
  refine r_aload_n C dL_acts_652 5 rfl ?_
  refine r_iconst (v := 3) C dL_acts_653 rfl ?_
  refine r_ialdN (j := 3) (v := nI ((v / 1000) % 1201)) C dL_acts_654 rfl (rfl) (by omega) (by decide) (by rw [mset_at, upd_ne (by omega), mset_at, upd_at]) ?_
  refine r_aload_n C dL_acts_655 5 rfl ?_
  refine r_iconst (v := 4) C dL_acts_656 rfl ?_
  refine r_ialdN (j := 4) (v := nI ((v / 9) % 100)) C dL_acts_657 rfl (rfl) (by omega) (by decide) (by rw [mset_at, upd_at]) ?_
  refine r_lS (As := [.ref (mA G 0), .int (nI (v % 1000)), .int (nI ((v / 1000) % 1201)), .int (nI ((v / 9) % 100))]) (rest := []) C dL_acts_658 w_L_41 (c_L_tariffs l G hG (mset (mset (mset M 107 2 (nI (v % 1000))) 107 3 (nI ((v / 1000) % 1201))) 107 4 (nI ((v / 9) % 100))) g hfl V Hs len T (hI.lw (fun q hq => by rw [mset_ne (by omega), mset_ne (by omega), mset_ne (by omega)])) (nI (v % 1000)) (nI ((v / 1000) % 1201)) (nI ((v / 9) % 100))) (Nat.le_of_ble_eq_true rfl) (Nat.le_of_ble_eq_true rfl) rfl rfl (Nat.le_of_ble_eq_true rfl) (Nat.le_of_ble_eq_true rfl) (Nat.le_of_ble_eq_true rfl) (fun r9 M9 g9 hp658 => ?_)
  obtain ⟨⟨hr, hI9, ho9⟩, rfl⟩ := wr_ok hp658 (eTar_0 (inWN (a := 0) (c := 999) (by omega) (by omega) (by decide)) (inWN (a := 0) (c := 1200) (by omega) (by omega) (by decide)) (inWN (a := 0) (c := 99) (by omega) (by omega) (by decide)))
  refine r_iload C dL_acts_661 0 rfl ?_
  refine r_icmp_ne (tgt := 670) C dL_acts_663 (by decide) (fun h => absurd (hr) h) (fun _ => ?_)
  refine r_iconst (v := 1) C dL_acts_666 rfl ?_
  refine r_goto (tgt := 671) C dL_acts_667 (by decide) ?_
  exact hend _ _ _ _ _ _ _ (Nat.le_of_ble_eq_true rfl) (Nat.le_of_ble_eq_true rfl) dL_acts_671 (⟨hI9, (((hE.sc (i := 2) (by decide)).sc (i := 3) (by decide)).sc (i := 4) (by decide)).offC ho9⟩)

set_option maxRecDepth 20000 in
set_option maxHeartbeats 8000000 in
theorem ac_10 {p : Program} {l : Launch} {e : Env} {s : State} {m : MethodId} {args : Array Value} {below : List Frame} {meth : Method} {c : Code} {G : mG} {Q : State → Prop} {M : Mem} {g : Glo} (hG : mInj G) (C : mCx p s m args c cL_acts 19 RL G) (hfl : l.stackTraces = false) (V : View) (Hs : List View) (len : Nat) (T : Nat → Int32) (hI : cINV M V Hs len T) (hE : eOK M V) (v n : Nat) (nb z : Int32) (hv : v < 10000000) (hnb : (nb = 1 ∧ vN V = 1) ∨ (nb = 0 ∧ 0 < n ∧ n < vN V)) (hend : ∀ (V' : View) (Hs' : List View) (M' : Mem) (L' : List (Nat × Value)) (pc kk nn : Nat), kk ≤ 6 → nn ≤ 36 → decode cL_acts pc = .ok (.ireturn, 1) → (cINV M' V' Hs' len T ∧ eOK M' V') → At p l e (rmD 9 6 36) s m args below meth c G 19 kk nn Q M' g L' pc [.int 1]) : At p l e (rmD 9 6 36) s m args below meth c G 19 0 0 Q M g [(8, .int nb), (7, .int (nI n)), (6, .int (nI v)), (0, .ref (mA G 0)), (1, .ref (mA G 107)), (2, .ref (mA G 108)), (3, .ref (mA G 109)), (4, .ref (mA G 110)), (5, .int z)] 672 [] := by
  obtain ⟨hC9, hW, hH9, hHs9, hTx9, hP09⟩ := id hI
  have hT := hW.1
  obtain ⟨hn1, hn16, hb4, ⟨hd0, hd3, hd5, hd6⟩, hpar⟩ := id hT
  have h8 := hE.le
  refine r_iconst (v := 1) C dL_acts_672 rfl ?_
  refine r_iload C dL_acts_673 2 rfl ?_
  refine r_bipush (v := 30) C dL_acts_675 rfl ?_
  refine r_irem C dL_acts_677 (by decide) ?_
  refine r_valI (y := nI (v % 30)) (pk_rem (a := v) (d := 30) (by omega) (by omega) (by omega)) ?_
  refine r_iadd C dL_acts_678 ?_
  refine r_valI (y := nI (1 + (v % 30))) (nI_add 1 (v % 30)) ?_
  refine r_istore (L' := [(16, .int (nI (1 + (v % 30)))), (8, .int nb), (7, .int (nI n)), (6, .int (nI v)), (0, .ref (mA G 0)), (1, .ref (mA G 107)), (2, .ref (mA G 108)), (3, .ref (mA G 109)), (4, .ref (mA G 110)), (5, .int z)]) C dL_acts_679 (by decide) rfl ?_
  refine r_aload_n C dL_acts_681 5 rfl ?_
  refine r_bipush (v := 8) C dL_acts_682 rfl ?_
  refine r_ialdN (j := 8) (v := vS V 8) C dL_acts_684 rfl (rfl) (by omega) (by decide) (hE.h) ?_
  refine r_iload C dL_acts_685 0 rfl ?_
  refine r_iadd C dL_acts_687 ?_
  refine r_sipush (v := 200) C dL_acts_688 rfl ?_
  refine r_icmp_le (tgt := 711) C dL_acts_691 (by decide) (fun c691 => ?_) (fun c691 => ?_)
  ·
    refine r_aload_n C dL_acts_711 5 rfl ?_
    refine r_aload_n C dL_acts_712 6 rfl ?_
    refine r_aload_n C dL_acts_713 7 rfl ?_
    refine r_aload C dL_acts_714 8 rfl ?_
    refine r_callSV (As := [.ref (mA G 107), .ref (mA G 108), .ref (mA G 109), .ref (mA G 110)]) (rest := []) C dL_acts_716 s_L_48 (c_L_works l G hG M g V hW hE) (by decide) rfl rfl (Nat.le_of_ble_eq_true rfl) (Nat.le_of_ble_eq_true rfl) (Nat.le_of_ble_eq_true rfl) (fun M7 g7 hp716 => ?_)
    obtain ⟨⟨f, rfl, hO⟩, eg716⟩ := hp716
    rw [eg716]
    refine r_mem (M' := mrow (mrow M 110 f) 108 (M 108)) (mrow_idr (by omega)) ?_
    refine r_iconst (v := nI 1) C dL_acts_719 rfl ?_
    refine r_istore (L' := [(17, .int (nI 1)), (16, .int (nI (1 + (v % 30)))), (8, .int nb), (7, .int (nI n)), (6, .int (nI v)), (0, .ref (mA G 0)), (1, .ref (mA G 107)), (2, .ref (mA G 108)), (3, .ref (mA G 109)), (4, .ref (mA G 110)), (5, .int z)]) C dL_acts_720 (by decide) rfl ?_
    have lp722 : ∀ (fu : Nat) (k : Nat) (F : Nat → Int32), (0 < k) → (k ≤ vN V) → (∀ i w, i < vN V → w < 8 → ¬ (i = 0 ∧ w = 0) → F (8 * i + w) = if w = 7 ∧ i ≠ 0 ∧ i < k then vD V 7 i + nI (1 + (v % 30)) * billF V i else vD V w i) → (∀ j, 8 * vN V ≤ j → F j = 0) → (vN V - k) < fu → At p l e (rmD 9 6 36) s m args below meth c G 19 0 0 Q (mrow (mrow M 110 f) 108 F) g [(17, .int (nI k)), (16, .int (nI (1 + (v % 30)))), (8, .int nb), (7, .int (nI n)), (6, .int (nI v)), (0, .ref (mA G 0)), (1, .ref (mA G 107)), (2, .ref (mA G 108)), (3, .ref (mA G 109)), (4, .ref (mA G 110)), (5, .int z)] 722 [] := by
      intro fu
      induction fu with
      | zero => intro k F hk0 hkn hF hFz hfu; exact absurd hfu (Nat.not_lt_zero _)
      | succ fu ih722 =>
        intro k F hk0 hkn hF hFz hfu722
        refine r_iload C dL_acts_722 0 rfl ?_
        refine r_aload_n C dL_acts_724 6 rfl ?_
        refine r_iconst (v := 5) C dL_acts_725 rfl ?_
        refine r_ialdN (j := 5) (v := nI (vN V)) C dL_acts_726 rfl (rfl) (by omega) (by decide) (by rw [mrow_ne (by omega), mrow_ne (by omega)]; exact hE.n) ?_
        refine r_icmp_ge (tgt := 761) C dL_acts_727 (by decide) (fun c727 => ?_) (fun c727 => ?_)
        ·
          have hk2 : k = vN V := by have := le_of_le (by omega) (by omega) c727; omega
          refine r_aload_n C dL_acts_761 6 rfl ?_
          refine r_bipush (v := 7) C dL_acts_762 rfl ?_
          refine r_dup2 C dL_acts_764 rfl rfl ?_
          refine r_ialdN (j := 7) (v := vS V 7) C dL_acts_765 rfl (rfl) (by omega) (by decide) (by rw [mrow_ne (by omega), mrow_ne (by omega)]; exact hE.c) ?_
          refine r_iload C dL_acts_766 1 rfl ?_
          refine r_aload C dL_acts_768 9 rfl ?_
          refine r_bipush (v := 37) C dL_acts_770 rfl ?_
          refine r_ialdN (j := 37) (v := costF V (ndF V)) C dL_acts_772 rfl (rfl) (by omega) (by decide) (by rw [mrow_ne (by omega), mrow_at]; exact hO.co) ?_
          refine r_imul C dL_acts_773 ?_
          refine r_iadd C dL_acts_774 ?_
          refine r_iastN (j := 7) C dL_acts_775 rfl (rfl) (by omega) (by decide) ?_
          refine r_aload_n C dL_acts_776 6 rfl ?_
          refine r_bipush (v := 8) C dL_acts_777 rfl ?_
          refine r_dup2 C dL_acts_779 rfl rfl ?_
          refine r_ialdN (j := 8) (v := vS V 8) C dL_acts_780 rfl (rfl) (by omega) (by decide) (by rw [mset_at, upd_ne (by omega), mrow_ne (by omega), mrow_ne (by omega)]; exact hE.h) ?_
          refine r_iload C dL_acts_781 1 rfl ?_
          refine r_iadd C dL_acts_783 ?_
          refine r_iastN (j := 8) C dL_acts_784 rfl (rfl) (by omega) (by decide) ?_
          refine r_aload_n C dL_acts_785 5 rfl ?_
          refine r_iload C dL_acts_786 1 rfl ?_
          refine r_lS (As := [.ref (mA G 0), .int (nI (1 + (v % 30)))]) (rest := []) C dL_acts_788 w_L_44 (c_L_passes l G hG (mset (mset (mrow (mrow M 110 f) 108 F) 107 7 ((vS V 7) + ((nI (1 + (v % 30))) * (costF V (ndF V))))) 107 8 ((vS V 8) + (nI (1 + (v % 30))))) g hfl V Hs len T (hI.lw (fun q hq => by rw [mset_ne (by omega), mset_ne (by omega), mrow_ne (by omega), mrow_ne (by omega)])) (nI (1 + (v % 30)))) (Nat.le_of_ble_eq_true rfl) (Nat.le_of_ble_eq_true rfl) rfl rfl (Nat.le_of_ble_eq_true rfl) (Nat.le_of_ble_eq_true rfl) (Nat.le_of_ble_eq_true rfl) (fun r9 M9 g9 hp788 => ?_)
          obtain ⟨⟨hr, hI9, ho9⟩, rfl⟩ := wr_ok hp788 (ePass_0 (inWN (a := 1) (c := 100) (by omega) (by omega) (by decide)) (i32_nlt.mpr c691))
          refine r_aload_n C dL_acts_791 6 rfl ?_
          refine r_bipush (v := 8) C dL_acts_792 rfl ?_
          refine r_ialdN (j := 8) (v := (vS V 8) + nI (1 + (v % 30))) C dL_acts_794 rfl (rfl) (by omega) (by decide) (by rw [ho9 107 (by omega), mset_at, upd_at]) ?_
          refine r_icmp_ne (tgt := 802) C dL_acts_795 (by decide) (fun h => absurd (hr) h) (fun _ => ?_)
          refine r_iconst (v := 1) C dL_acts_798 rfl ?_
          refine r_goto (tgt := 803) C dL_acts_799 (by decide) ?_
          exact hend _ _ _ _ _ _ _ (Nat.le_of_ble_eq_true rfl) (Nat.le_of_ble_eq_true rfl) dL_acts_803 (⟨hI9, (hE.pass (M' := mset (mset (mrow (mrow M 110 f) 108 F) 107 7 ((vS V 7) + (nI (1 + (v % 30)) * costF V (ndF V)))) 107 8 ((vS V 8) + nI (1 + (v % 30)))) (h9 := nI (1 + (v % 30))) (fun j h1 h2 => by rw [mset_at, upd_ne h2, mset_at, upd_ne h1, mrow_ne (by omega), mrow_ne (by omega)]) (by rw [mset_at, upd_ne (by omega), mset_at, upd_at]) (by rw [mset_at, upd_at]) (fun i w hi hw hz => by rw [mset_ne (by omega), mset_ne (by omega), mrow_at, hF i w hi hw hz]; by_cases y : w = 7 ∧ i ≠ 0; (rw [if_pos y, if_pos ⟨y.1, y.2, by omega⟩]); (rw [if_neg y, if_neg (fun x => y ⟨x.1, x.2.1⟩)])) (fun j hj => by rw [mset_ne (by omega), mset_ne (by omega), mrow_at]; exact hFz j hj) (by rw [mset_ne (by omega), mset_ne (by omega), mrow_ne (by omega), mrow_ne (by omega)])).offC ho9⟩)
        ·
          have hlt : k < vN V := lt_of_nle (by omega) c727
          refine r_aload_n C dL_acts_730 7 rfl ?_
          refine r_bipush (v := 8) C dL_acts_731 rfl ?_
          refine r_iload C dL_acts_733 0 rfl ?_
          refine r_imul C dL_acts_735 ?_
          refine r_valI (y := nI (8 * k)) (pk_mul 8 k) ?_
          refine r_bipush (v := 7) C dL_acts_736 rfl ?_
          refine r_iadd C dL_acts_738 ?_
          refine r_valI (y := nI (8 * k + 7)) (nI_add (8 * k) 7) ?_
          refine r_dup2 C dL_acts_739 rfl rfl ?_
          refine r_ialdN (j := 8 * k + 7) (v := vD V 7 k) C dL_acts_740 rfl (rfl) (by omega) (by decide) (by rw [mrow_at, hF k 7 hlt (by decide) (by omega)]; exact if_neg (by omega)) ?_
          refine r_iload C dL_acts_741 1 rfl ?_
          refine r_aload_n C dL_acts_743 6 rfl ?_
          refine r_aload_n C dL_acts_744 7 rfl ?_
          refine r_aload C dL_acts_745 9 rfl ?_
          refine r_iload C dL_acts_747 0 rfl ?_
          refine r_callSI (As := [.ref (mA G 107), .ref (mA G 108), .ref (mA G 110), .int (nI k)]) (rest := [.int (nI (1 + (v % 30))), .int (vD V 7 k), .int (nI (8 * k + 7)), .ref (mA G 108)]) C dL_acts_749 s_L_52 (c_L_bill l G hG (mrow (mrow M 110 f) 108 F) g V hW k (by rw [mrow_at, hF k 3 hlt (by decide) (by omega)]; exact if_neg (by omega)) (by rw [mrow_ne (by omega), mrow_ne (by omega)]; exact hE.s 2 (by decide)) (by rw [mrow_ne (by omega), mrow_ne (by omega)]; exact hE.s 3 (by decide)) (by rw [mrow_ne (by omega), mrow_ne (by omega)]; exact hE.s 4 (by decide)) h8 (by rw [mrow_ne (by omega), mrow_at]; exact hO) hk0 hlt) (by decide) rfl rfl (Nat.le_of_ble_eq_true rfl) (Nat.le_of_ble_eq_true rfl) (Nat.le_of_ble_eq_true rfl) (pk_I ?_)
          refine r_imul C dL_acts_752 ?_
          refine r_iadd C dL_acts_753 ?_
          refine r_iastN (j := 8 * k + 7) C dL_acts_754 rfl (rfl) (by omega) (by decide) ?_
          refine r_mem (M' := mrow (mrow M 110 f) 108 (upd F (8 * k + 7) ((vD V 7 k) + (nI (1 + (v % 30)) * billF V k)))) (mset_row _ _ _ _ _) ?_
          refine r_iinc (v := nI (k + 1)) (L' := [(17, .int (nI (k + 1))), (16, .int (nI (1 + (v % 30)))), (8, .int nb), (7, .int (nI n)), (6, .int (nI v)), (0, .ref (mA G 0)), (1, .ref (mA G 107)), (2, .ref (mA G 108)), (3, .ref (mA G 109)), (4, .ref (mA G 110)), (5, .int z)]) C dL_acts_755 0 rfl (nI_inc _) (by decide) rfl ?_
          refine r_goto (tgt := 722) C dL_acts_758 (by decide) ?_
          refine r_sub (L' := [(17, .int (nI (k + 1))), (16, .int (nI (1 + (v % 30)))), (8, .int nb), (7, .int (nI n)), (6, .int (nI v)), (0, .ref (mA G 0)), (1, .ref (mA G 107)), (2, .ref (mA G 108)), (3, .ref (mA G 109)), (4, .ref (mA G 110)), (5, .int z)]) [0, 1, 2, 3, 4, 5, 6, 7, 8, 9, 10] rfl ?_
          exact ih722 (k + 1) (upd F (8 * k + 7) ((vD V 7 k) + (nI (1 + (v % 30)) * billF V k))) (by omega) (by omega) (fun i w hi hw hz => by by_cases y : i = k ∧ w = 7; (obtain ⟨rfl, rfl⟩ := y; rw [upd_at, if_pos ⟨rfl, by omega, by omega⟩]); (rw [upd_ne (by omega), hF i w hi hw hz]; by_cases x : w = 7 ∧ i ≠ 0 ∧ i < k; (rw [if_pos x, if_pos ⟨x.1, x.2.1, by omega⟩]); (rw [if_neg x, if_neg (fun q => x ⟨q.1, q.2.1, by omega⟩)]))) (fun j hj => by rw [upd_ne (by omega)]; exact hFz j hj) (by omega)
    refine r_sub (L' := [(17, .int (nI 1)), (16, .int (nI (1 + (v % 30)))), (8, .int nb), (7, .int (nI n)), (6, .int (nI v)), (0, .ref (mA G 0)), (1, .ref (mA G 107)), (2, .ref (mA G 108)), (3, .ref (mA G 109)), (4, .ref (mA G 110)), (5, .int z)]) [0, 1, 2, 3, 4, 5, 6, 7, 8, 9, 10] rfl ?_
    exact lp722 _ 1 (M 108) (by omega) hn1 (fun i w hi hw hz => by rw [if_neg (fun y => by omega)]; exact hE.e i w hi hw hz) (fun j hj => hE.2.2.2.2.1 j hj) (Nat.lt_succ_self _)
  ·
    refine r_aload_n C dL_acts_694 4 rfl ?_
    refine r_iload C dL_acts_695 0 rfl ?_
    refine r_lS (As := [.ref (mA G 0), .int (nI (1 + (v % 30)))]) (rest := []) C dL_acts_697 w_L_44 (c_L_passes l G hG M g hfl V Hs len T (hI.lw (fun q hq => rfl)) (nI (1 + (v % 30)))) (Nat.le_of_ble_eq_true rfl) (Nat.le_of_ble_eq_true rfl) rfl rfl (Nat.le_of_ble_eq_true rfl) (Nat.le_of_ble_eq_true rfl) (Nat.le_of_ble_eq_true rfl) (fun r9 M9 g9 hp697 => ?_)
    obtain ⟨hr, rfl, rfl⟩ := wr_no hp697 1 (-1000000003) rfl (ePass_2 (inWN (a := 1) (c := 100) (by omega) (by omega) (by decide)) (i32_nle.mp c691))
    refine r_ldc (v := -1000000003) C dL_acts_700 (gd_t 552 (by decide +kernel) rfl) ?_
    refine r_icmp_ne (tgt := 709) C dL_acts_702 (by decide) (fun h => absurd (hr) h) (fun _ => ?_)
    refine r_iconst (v := 1) C dL_acts_705 rfl ?_
    refine r_goto (tgt := 710) C dL_acts_706 (by decide) ?_
    exact hend _ _ _ _ _ _ _ (Nat.le_of_ble_eq_true rfl) (Nat.le_of_ble_eq_true rfl) dL_acts_710 (⟨hI, hE⟩)

set_option maxRecDepth 20000 in
set_option maxHeartbeats 8000000 in
theorem ac_12_0 {p : Program} {l : Launch} {e : Env} {s : State} {m : MethodId} {args : Array Value} {below : List Frame} {meth : Method} {c : Code} {G : mG} {Q : State → Prop} {M : Mem} {g : Glo} (hG : mInj G) (C : mCx p s m args c cL_acts 19 RL G) (hfl : l.stackTraces = false) (V : View) (Hs : List View) (len : Nat) (T : Nat → Int32) (hI : cINV M V Hs len T) (hE : eOK M V) (v n : Nat) (nb z : Int32) (hv : v < 10000000) (hnb : (nb = 1 ∧ vN V = 1) ∨ (nb = 0 ∧ 0 < n ∧ n < vN V)) (hn0 : 0 < n) (hnN : n < vN V) (hx5 : nI (v % 5) ≤ 2) (hend : ∀ (V' : View) (Hs' : List View) (M' : Mem) (L' : List (Nat × Value)) (pc kk nn : Nat), kk ≤ 6 → nn ≤ 36 → decode cL_acts pc = .ok (.ireturn, 1) → (cINV M' V' Hs' len T ∧ eOK M' V') → At p l e (rmD 9 6 36) s m args below meth c G 19 kk nn Q M' g L' pc [.int 1]) : At p l e (rmD 9 6 36) s m args below meth c G 19 0 0 Q M g [(8, .int nb), (7, .int (nI n)), (6, .int (nI v)), (0, .ref (mA G 0)), (1, .ref (mA G 107)), (2, .ref (mA G 108)), (3, .ref (mA G 109)), (4, .ref (mA G 110)), (5, .int z)] 826 [] := by
  obtain ⟨hC9, hW, hH9, hHs9, hTx9, hP09⟩ := id hI
  have hT := hW.1
  obtain ⟨hn1, hn16, hb4, ⟨hd0, hd3, hd5, hd6⟩, hpar⟩ := id hT
  have h8 := hE.le
  have hcl : (nI n).toNatClampNeg = n := nI_clamp (by omega)
  refine r_aload_n C dL_acts_826 5 rfl ?_
  refine r_bipush (v := 8) C dL_acts_827 rfl ?_
  refine r_iload C dL_acts_829 1 rfl ?_
  refine r_imul C dL_acts_831 ?_
  refine r_valI (y := nI (8 * n)) (pk_mul 8 n) ?_
  refine r_bipush (v := 6) C dL_acts_832 rfl ?_
  refine r_iadd C dL_acts_834 ?_
  refine r_valI (y := nI (8 * n + 6)) (nI_add (8 * n) 6) ?_
  refine r_iload C dL_acts_835 2 rfl ?_
  refine r_iconst (v := 5) C dL_acts_837 rfl ?_
  refine r_irem C dL_acts_838 (by decide) ?_
  refine r_valI (y := nI (v % 5)) (pk_rem (a := v) (d := 5) (by omega) (by omega) (by omega)) ?_
  refine r_iconst (v := 2) C dL_acts_839 rfl ?_
  refine r_icmp_le (tgt := 847) C dL_acts_840 (by decide) (fun _ => ?_) (fun h => absurd (hx5) h)
  refine r_iconst (v := 0) C dL_acts_847 rfl ?_
  refine r_iastN (j := 8 * n + 6) C dL_acts_848 rfl (rfl) (by omega) (by decide) ?_
  refine r_iconst (v := 0) C dL_acts_849 rfl ?_
  refine r_istore (L' := [(17, .int 0), (8, .int nb), (7, .int (nI n)), (6, .int (nI v)), (0, .ref (mA G 0)), (1, .ref (mA G 107)), (2, .ref (mA G 108)), (3, .ref (mA G 109)), (4, .ref (mA G 110)), (5, .int z)]) C dL_acts_850 (by decide) rfl ?_
  refine r_iconst (v := nI 1) C dL_acts_852 rfl ?_
  refine r_istore (L' := [(18, .int (nI 1)), (17, .int 0), (8, .int nb), (7, .int (nI n)), (6, .int (nI v)), (0, .ref (mA G 0)), (1, .ref (mA G 107)), (2, .ref (mA G 108)), (3, .ref (mA G 109)), (4, .ref (mA G 110)), (5, .int z)]) C dL_acts_853 (by decide) rfl ?_
  have lp855 : ∀ (fu : Nat) (k : Nat) (a : Int32), (0 < k) → (k ≤ vN V) → (a = sumP (vD (vSet V 6 n 0) 6) k) → (vN V - k) < fu → At p l e (rmD 9 6 36) s m args below meth c G 19 0 0 Q (mset M 108 (8 * n + 6) 0) g [(18, .int (nI k)), (17, .int a), (8, .int nb), (7, .int (nI n)), (6, .int (nI v)), (0, .ref (mA G 0)), (1, .ref (mA G 107)), (2, .ref (mA G 108)), (3, .ref (mA G 109)), (4, .ref (mA G 110)), (5, .int z)] 855 [] := by
    intro fu
    induction fu with
    | zero => intro k a hk0 hkn ha hfu; exact absurd hfu (Nat.not_lt_zero _)
    | succ fu ih855 =>
      intro k a hk0 hkn ha hfu855
      refine r_iload C dL_acts_855 0 rfl ?_
      refine r_aload_n C dL_acts_857 6 rfl ?_
      refine r_iconst (v := 5) C dL_acts_858 rfl ?_
      refine r_ialdN (j := 5) (v := nI (vN V)) C dL_acts_859 rfl (rfl) (by omega) (by decide) (by rw [mset_ne (by omega)]; exact hE.n) ?_
      refine r_icmp_ge (tgt := 884) C dL_acts_860 (by decide) (fun c860 => ?_) (fun c860 => ?_)
      ·
        have hk2 : k = vN V := by have := le_of_le (by omega) (by omega) c860; omega
        refine r_aload_n C dL_acts_884 5 rfl ?_
        refine r_iload C dL_acts_885 3 rfl ?_
        refine r_iload C dL_acts_887 4 rfl ?_
        refine r_iconst (v := 5) C dL_acts_889 rfl ?_
        refine r_irem C dL_acts_890 (by decide) ?_
        refine r_valI (y := nI (v % 5)) (pk_rem (a := v) (d := 5) (by omega) (by omega) (by omega)) ?_
        refine r_iconst (v := 2) C dL_acts_891 rfl ?_
        refine r_icmp_le (tgt := 899) C dL_acts_892 (by decide) (fun _ => ?_) (fun h => absurd (hx5) h)
        refine r_iconst (v := 0) C dL_acts_899 rfl ?_
        refine r_lS (As := [.ref (mA G 0), .int (nI n), .int 0]) (rest := []) C dL_acts_900 w_L_56 (c_L_meters l G hG (mset M 108 (8 * n + 6) 0) g hfl V Hs len T (hI.lw (fun q hq => by rw [mset_ne (by omega)])) (nI n) 0) (Nat.le_of_ble_eq_true rfl) (Nat.le_of_ble_eq_true rfl) rfl rfl (Nat.le_of_ble_eq_true rfl) (Nat.le_of_ble_eq_true rfl) (Nat.le_of_ble_eq_true rfl) (fun r9 M9 g9 hp900 => ?_)
        rw [hcl, show b2i (decide (¬ (0 : Int32) = 0)) = 0 from by decide] at hp900
        obtain ⟨⟨hr, hI9, ho9⟩, rfl⟩ := wr_ok hp900 (ePp_0 ⟨nI_le (a := 1) hn0 (by omega), nI_lt hnN (by omega)⟩)
        refine r_iload C dL_acts_903 1 rfl ?_
        refine r_icmp_ne (tgt := 912) C dL_acts_905 (by decide) (fun h => absurd (by rw [hr, ha, hk2]) h) (fun _ => ?_)
        refine r_iconst (v := 1) C dL_acts_908 rfl ?_
        refine r_goto (tgt := 913) C dL_acts_909 (by decide) ?_
        exact hend _ _ _ _ _ _ _ (Nat.le_of_ble_eq_true rfl) (Nat.le_of_ble_eq_true rfl) dL_acts_913 (⟨hI9, (hE.dd (n := n) (w := 6) (x := 0) hnN (by decide)).offC ho9⟩)
      ·
        have hlt : k < vN V := lt_of_nle (by omega) c860
        refine r_iload C dL_acts_863 1 rfl ?_
        refine r_aload_n C dL_acts_865 7 rfl ?_
        refine r_bipush (v := 8) C dL_acts_866 rfl ?_
        refine r_iload C dL_acts_868 0 rfl ?_
        refine r_imul C dL_acts_870 ?_
        refine r_valI (y := nI (8 * k)) (pk_mul 8 k) ?_
        refine r_bipush (v := 6) C dL_acts_871 rfl ?_
        refine r_iadd C dL_acts_873 ?_
        refine r_valI (y := nI (8 * k + 6)) (nI_add (8 * k) 6) ?_
        refine r_ialdN (j := 8 * k + 6) (v := vD (vSet V 6 n 0) 6 k) C dL_acts_874 rfl (rfl) (by omega) (by decide) ((hE.dd (n := n) (w := 6) (x := 0) hnN (by decide)).e k 6 hlt (by decide) (by omega)) ?_
        refine r_iadd C dL_acts_875 ?_
        refine r_istore (L' := [(17, .int (a + (vD (vSet V 6 n 0) 6 k))), (18, .int (nI k)), (8, .int nb), (7, .int (nI n)), (6, .int (nI v)), (0, .ref (mA G 0)), (1, .ref (mA G 107)), (2, .ref (mA G 108)), (3, .ref (mA G 109)), (4, .ref (mA G 110)), (5, .int z)]) C dL_acts_876 (by decide) rfl ?_
        refine r_iinc (v := nI (k + 1)) (L' := [(18, .int (nI (k + 1))), (17, .int (a + (vD (vSet V 6 n 0) 6 k))), (8, .int nb), (7, .int (nI n)), (6, .int (nI v)), (0, .ref (mA G 0)), (1, .ref (mA G 107)), (2, .ref (mA G 108)), (3, .ref (mA G 109)), (4, .ref (mA G 110)), (5, .int z)]) C dL_acts_878 1 rfl (nI_inc _) (by decide) rfl ?_
        refine r_goto (tgt := 855) C dL_acts_881 (by decide) ?_
        refine r_sub (L' := [(18, .int (nI (k + 1))), (17, .int (a + (vD (vSet V 6 n 0) 6 k))), (8, .int nb), (7, .int (nI n)), (6, .int (nI v)), (0, .ref (mA G 0)), (1, .ref (mA G 107)), (2, .ref (mA G 108)), (3, .ref (mA G 109)), (4, .ref (mA G 110)), (5, .int z)]) [0, 1, 2, 3, 4, 5, 6, 7, 8, 9, 10] rfl ?_
        exact ih855 (k + 1) _ (by omega) (by omega) (by rw [ha, sumP_s _ hk0]) (by omega)
  refine r_sub (L' := [(18, .int (nI 1)), (17, .int 0), (8, .int nb), (7, .int (nI n)), (6, .int (nI v)), (0, .ref (mA G 0)), (1, .ref (mA G 107)), (2, .ref (mA G 108)), (3, .ref (mA G 109)), (4, .ref (mA G 110)), (5, .int z)]) [0, 1, 2, 3, 4, 5, 6, 7, 8, 9, 10] rfl ?_
  exact lp855 _ 1 0 (by omega) hn1 (sumP_1 _).symm (Nat.lt_succ_self _)

set_option maxRecDepth 20000 in
set_option maxHeartbeats 8000000 in
theorem ac_12_1 {p : Program} {l : Launch} {e : Env} {s : State} {m : MethodId} {args : Array Value} {below : List Frame} {meth : Method} {c : Code} {G : mG} {Q : State → Prop} {M : Mem} {g : Glo} (hG : mInj G) (C : mCx p s m args c cL_acts 19 RL G) (hfl : l.stackTraces = false) (V : View) (Hs : List View) (len : Nat) (T : Nat → Int32) (hI : cINV M V Hs len T) (hE : eOK M V) (v n : Nat) (nb z : Int32) (hv : v < 10000000) (hnb : (nb = 1 ∧ vN V = 1) ∨ (nb = 0 ∧ 0 < n ∧ n < vN V)) (hn0 : 0 < n) (hnN : n < vN V) (hx5 : ¬ nI (v % 5) ≤ 2) (hend : ∀ (V' : View) (Hs' : List View) (M' : Mem) (L' : List (Nat × Value)) (pc kk nn : Nat), kk ≤ 6 → nn ≤ 36 → decode cL_acts pc = .ok (.ireturn, 1) → (cINV M' V' Hs' len T ∧ eOK M' V') → At p l e (rmD 9 6 36) s m args below meth c G 19 kk nn Q M' g L' pc [.int 1]) : At p l e (rmD 9 6 36) s m args below meth c G 19 0 0 Q M g [(8, .int nb), (7, .int (nI n)), (6, .int (nI v)), (0, .ref (mA G 0)), (1, .ref (mA G 107)), (2, .ref (mA G 108)), (3, .ref (mA G 109)), (4, .ref (mA G 110)), (5, .int z)] 826 [] := by
  obtain ⟨hC9, hW, hH9, hHs9, hTx9, hP09⟩ := id hI
  have hT := hW.1
  obtain ⟨hn1, hn16, hb4, ⟨hd0, hd3, hd5, hd6⟩, hpar⟩ := id hT
  have h8 := hE.le
  have hcl : (nI n).toNatClampNeg = n := nI_clamp (by omega)
  refine r_aload_n C dL_acts_826 5 rfl ?_
  refine r_bipush (v := 8) C dL_acts_827 rfl ?_
  refine r_iload C dL_acts_829 1 rfl ?_
  refine r_imul C dL_acts_831 ?_
  refine r_valI (y := nI (8 * n)) (pk_mul 8 n) ?_
  refine r_bipush (v := 6) C dL_acts_832 rfl ?_
  refine r_iadd C dL_acts_834 ?_
  refine r_valI (y := nI (8 * n + 6)) (nI_add (8 * n) 6) ?_
  refine r_iload C dL_acts_835 2 rfl ?_
  refine r_iconst (v := 5) C dL_acts_837 rfl ?_
  refine r_irem C dL_acts_838 (by decide) ?_
  refine r_valI (y := nI (v % 5)) (pk_rem (a := v) (d := 5) (by omega) (by omega) (by omega)) ?_
  refine r_iconst (v := 2) C dL_acts_839 rfl ?_
  refine r_icmp_le (tgt := 847) C dL_acts_840 (by decide) (fun h => absurd h (hx5)) (fun _ => ?_)
  refine r_iconst (v := 1) C dL_acts_843 rfl ?_
  refine r_goto (tgt := 848) C dL_acts_844 (by decide) ?_
  refine r_iastN (j := 8 * n + 6) C dL_acts_848 rfl (rfl) (by omega) (by decide) ?_
  refine r_iconst (v := 0) C dL_acts_849 rfl ?_
  refine r_istore (L' := [(17, .int 0), (8, .int nb), (7, .int (nI n)), (6, .int (nI v)), (0, .ref (mA G 0)), (1, .ref (mA G 107)), (2, .ref (mA G 108)), (3, .ref (mA G 109)), (4, .ref (mA G 110)), (5, .int z)]) C dL_acts_850 (by decide) rfl ?_
  refine r_iconst (v := nI 1) C dL_acts_852 rfl ?_
  refine r_istore (L' := [(18, .int (nI 1)), (17, .int 0), (8, .int nb), (7, .int (nI n)), (6, .int (nI v)), (0, .ref (mA G 0)), (1, .ref (mA G 107)), (2, .ref (mA G 108)), (3, .ref (mA G 109)), (4, .ref (mA G 110)), (5, .int z)]) C dL_acts_853 (by decide) rfl ?_
  have lp855 : ∀ (fu : Nat) (k : Nat) (a : Int32), (0 < k) → (k ≤ vN V) → (a = sumP (vD (vSet V 6 n 1) 6) k) → (vN V - k) < fu → At p l e (rmD 9 6 36) s m args below meth c G 19 0 0 Q (mset M 108 (8 * n + 6) 1) g [(18, .int (nI k)), (17, .int a), (8, .int nb), (7, .int (nI n)), (6, .int (nI v)), (0, .ref (mA G 0)), (1, .ref (mA G 107)), (2, .ref (mA G 108)), (3, .ref (mA G 109)), (4, .ref (mA G 110)), (5, .int z)] 855 [] := by
    intro fu
    induction fu with
    | zero => intro k a hk0 hkn ha hfu; exact absurd hfu (Nat.not_lt_zero _)
    | succ fu ih855 =>
      intro k a hk0 hkn ha hfu855
      refine r_iload C dL_acts_855 0 rfl ?_
      refine r_aload_n C dL_acts_857 6 rfl ?_
      refine r_iconst (v := 5) C dL_acts_858 rfl ?_
      refine r_ialdN (j := 5) (v := nI (vN V)) C dL_acts_859 rfl (rfl) (by omega) (by decide) (by rw [mset_ne (by omega)]; exact hE.n) ?_
      refine r_icmp_ge (tgt := 884) C dL_acts_860 (by decide) (fun c860 => ?_) (fun c860 => ?_)
      ·
        have hk2 : k = vN V := by have := le_of_le (by omega) (by omega) c860; omega
        refine r_aload_n C dL_acts_884 5 rfl ?_
        refine r_iload C dL_acts_885 3 rfl ?_
        refine r_iload C dL_acts_887 4 rfl ?_
        refine r_iconst (v := 5) C dL_acts_889 rfl ?_
        refine r_irem C dL_acts_890 (by decide) ?_
        refine r_valI (y := nI (v % 5)) (pk_rem (a := v) (d := 5) (by omega) (by omega) (by omega)) ?_
        refine r_iconst (v := 2) C dL_acts_891 rfl ?_
        refine r_icmp_le (tgt := 899) C dL_acts_892 (by decide) (fun h => absurd h (hx5)) (fun _ => ?_)
        refine r_iconst (v := 1) C dL_acts_895 rfl ?_
        refine r_goto (tgt := 900) C dL_acts_896 (by decide) ?_
        refine r_lS (As := [.ref (mA G 0), .int (nI n), .int 1]) (rest := []) C dL_acts_900 w_L_56 (c_L_meters l G hG (mset M 108 (8 * n + 6) 1) g hfl V Hs len T (hI.lw (fun q hq => by rw [mset_ne (by omega)])) (nI n) 1) (Nat.le_of_ble_eq_true rfl) (Nat.le_of_ble_eq_true rfl) rfl rfl (Nat.le_of_ble_eq_true rfl) (Nat.le_of_ble_eq_true rfl) (Nat.le_of_ble_eq_true rfl) (fun r9 M9 g9 hp900 => ?_)
        rw [hcl, show b2i (decide (¬ (1 : Int32) = 0)) = 1 from by decide] at hp900
        obtain ⟨⟨hr, hI9, ho9⟩, rfl⟩ := wr_ok hp900 (ePp_0 ⟨nI_le (a := 1) hn0 (by omega), nI_lt hnN (by omega)⟩)
        refine r_iload C dL_acts_903 1 rfl ?_
        refine r_icmp_ne (tgt := 912) C dL_acts_905 (by decide) (fun h => absurd (by rw [hr, ha, hk2]) h) (fun _ => ?_)
        refine r_iconst (v := 1) C dL_acts_908 rfl ?_
        refine r_goto (tgt := 913) C dL_acts_909 (by decide) ?_
        exact hend _ _ _ _ _ _ _ (Nat.le_of_ble_eq_true rfl) (Nat.le_of_ble_eq_true rfl) dL_acts_913 (⟨hI9, (hE.dd (n := n) (w := 6) (x := 1) hnN (by decide)).offC ho9⟩)
      ·
        have hlt : k < vN V := lt_of_nle (by omega) c860
        refine r_iload C dL_acts_863 1 rfl ?_
        refine r_aload_n C dL_acts_865 7 rfl ?_
        refine r_bipush (v := 8) C dL_acts_866 rfl ?_
        refine r_iload C dL_acts_868 0 rfl ?_
        refine r_imul C dL_acts_870 ?_
        refine r_valI (y := nI (8 * k)) (pk_mul 8 k) ?_
        refine r_bipush (v := 6) C dL_acts_871 rfl ?_
        refine r_iadd C dL_acts_873 ?_
        refine r_valI (y := nI (8 * k + 6)) (nI_add (8 * k) 6) ?_
        refine r_ialdN (j := 8 * k + 6) (v := vD (vSet V 6 n 1) 6 k) C dL_acts_874 rfl (rfl) (by omega) (by decide) ((hE.dd (n := n) (w := 6) (x := 1) hnN (by decide)).e k 6 hlt (by decide) (by omega)) ?_
        refine r_iadd C dL_acts_875 ?_
        refine r_istore (L' := [(17, .int (a + (vD (vSet V 6 n 1) 6 k))), (18, .int (nI k)), (8, .int nb), (7, .int (nI n)), (6, .int (nI v)), (0, .ref (mA G 0)), (1, .ref (mA G 107)), (2, .ref (mA G 108)), (3, .ref (mA G 109)), (4, .ref (mA G 110)), (5, .int z)]) C dL_acts_876 (by decide) rfl ?_
        refine r_iinc (v := nI (k + 1)) (L' := [(18, .int (nI (k + 1))), (17, .int (a + (vD (vSet V 6 n 1) 6 k))), (8, .int nb), (7, .int (nI n)), (6, .int (nI v)), (0, .ref (mA G 0)), (1, .ref (mA G 107)), (2, .ref (mA G 108)), (3, .ref (mA G 109)), (4, .ref (mA G 110)), (5, .int z)]) C dL_acts_878 1 rfl (nI_inc _) (by decide) rfl ?_
        refine r_goto (tgt := 855) C dL_acts_881 (by decide) ?_
        refine r_sub (L' := [(18, .int (nI (k + 1))), (17, .int (a + (vD (vSet V 6 n 1) 6 k))), (8, .int nb), (7, .int (nI n)), (6, .int (nI v)), (0, .ref (mA G 0)), (1, .ref (mA G 107)), (2, .ref (mA G 108)), (3, .ref (mA G 109)), (4, .ref (mA G 110)), (5, .int z)]) [0, 1, 2, 3, 4, 5, 6, 7, 8, 9, 10] rfl ?_
        exact ih855 (k + 1) _ (by omega) (by omega) (by rw [ha, sumP_s _ hk0]) (by omega)
  refine r_sub (L' := [(18, .int (nI 1)), (17, .int 0), (8, .int nb), (7, .int (nI n)), (6, .int (nI v)), (0, .ref (mA G 0)), (1, .ref (mA G 107)), (2, .ref (mA G 108)), (3, .ref (mA G 109)), (4, .ref (mA G 110)), (5, .int z)]) [0, 1, 2, 3, 4, 5, 6, 7, 8, 9, 10] rfl ?_
  exact lp855 _ 1 0 (by omega) hn1 (sumP_1 _).symm (Nat.lt_succ_self _)

set_option maxRecDepth 20000 in
set_option maxHeartbeats 8000000 in
theorem ac_12_n {p : Program} {l : Launch} {e : Env} {s : State} {m : MethodId} {args : Array Value} {below : List Frame} {meth : Method} {c : Code} {G : mG} {Q : State → Prop} {M : Mem} {g : Glo} (hG : mInj G) (C : mCx p s m args c cL_acts 19 RL G) (hfl : l.stackTraces = false) (V : View) (Hs : List View) (len : Nat) (T : Nat → Int32) (hI : cINV M V Hs len T) (hE : eOK M V) (v n : Nat) (nb z : Int32) (hv : v < 10000000) (hnb : (nb = 1 ∧ vN V = 1) ∨ (nb = 0 ∧ 0 < n ∧ n < vN V)) (hN1 : vN V = 1) (hend : ∀ (V' : View) (Hs' : List View) (M' : Mem) (L' : List (Nat × Value)) (pc kk nn : Nat), kk ≤ 6 → nn ≤ 36 → decode cL_acts pc = .ok (.ireturn, 1) → (cINV M' V' Hs' len T ∧ eOK M' V') → At p l e (rmD 9 6 36) s m args below meth c G 19 kk nn Q M' g L' pc [.int 1]) : At p l e (rmD 9 6 36) s m args below meth c G 19 0 0 Q M g [(8, .int nb), (7, .int (nI n)), (6, .int (nI v)), (0, .ref (mA G 0)), (1, .ref (mA G 107)), (2, .ref (mA G 108)), (3, .ref (mA G 109)), (4, .ref (mA G 110)), (5, .int z)] 809 [] := by
  obtain ⟨hC9, hW, hH9, hHs9, hTx9, hP09⟩ := id hI
  have hT := hW.1
  obtain ⟨hn1, hn16, hb4, ⟨hd0, hd3, hd5, hd6⟩, hpar⟩ := id hT
  have h8 := hE.le
  refine r_aload_n C dL_acts_809 3 rfl ?_
  refine r_iconst (v := 0) C dL_acts_810 rfl ?_
  refine r_iconst (v := 1) C dL_acts_811 rfl ?_
  refine r_lS (As := [.ref (mA G 0), .int 0, .int 1]) (rest := []) C dL_acts_812 w_L_56 (c_L_meters l G hG M g hfl V Hs len T (hI.lw (fun q hq => rfl)) 0 1) (Nat.le_of_ble_eq_true rfl) (Nat.le_of_ble_eq_true rfl) rfl rfl (Nat.le_of_ble_eq_true rfl) (Nat.le_of_ble_eq_true rfl) (Nat.le_of_ble_eq_true rfl) (fun r9 M9 g9 hp812 => ?_)
  obtain ⟨hr, rfl, rfl⟩ := wr_no hp812 0 (-1000000001) rfl (if_pos (fun z => absurd z.1 (by decide)))
  refine r_ldc (v := -1000000001) C dL_acts_815 (gd_t 515 (by decide +kernel) rfl) ?_
  refine r_icmp_ne (tgt := 824) C dL_acts_817 (by decide) (fun h => absurd (hr) h) (fun _ => ?_)
  refine r_iconst (v := 1) C dL_acts_820 rfl ?_
  refine r_goto (tgt := 825) C dL_acts_821 (by decide) ?_
  exact hend _ _ _ _ _ _ _ (Nat.le_of_ble_eq_true rfl) (Nat.le_of_ble_eq_true rfl) dL_acts_825 (⟨hI, hE⟩)

theorem ac_12 {p : Program} {l : Launch} {e : Env} {s : State} {m : MethodId} {args : Array Value} {below : List Frame} {meth : Method} {c : Code} {G : mG} {Q : State → Prop} {M : Mem} {g : Glo} (hG : mInj G) (C : mCx p s m args c cL_acts 19 RL G) (hfl : l.stackTraces = false) (V : View) (Hs : List View) (len : Nat) (T : Nat → Int32) (hI : cINV M V Hs len T) (hE : eOK M V) (v n : Nat) (nb z : Int32) (hv : v < 10000000) (hnb : (nb = 1 ∧ vN V = 1) ∨ (nb = 0 ∧ 0 < n ∧ n < vN V)) (hend : ∀ (V' : View) (Hs' : List View) (M' : Mem) (L' : List (Nat × Value)) (pc kk nn : Nat), kk ≤ 6 → nn ≤ 36 → decode cL_acts pc = .ok (.ireturn, 1) → (cINV M' V' Hs' len T ∧ eOK M' V') → At p l e (rmD 9 6 36) s m args below meth c G 19 kk nn Q M' g L' pc [.int 1]) : At p l e (rmD 9 6 36) s m args below meth c G 19 0 0 Q M g [(8, .int nb), (7, .int (nI n)), (6, .int (nI v)), (0, .ref (mA G 0)), (1, .ref (mA G 107)), (2, .ref (mA G 108)), (3, .ref (mA G 109)), (4, .ref (mA G 110)), (5, .int z)] 804 [] := by
  refine r_iload C dL_acts_804 0 rfl ?_
  refine r_if_eq (tgt := 826) C dL_acts_806 (by decide) (fun c806 => ?_) (fun c806 => ?_)
  · obtain ⟨hn0, hnN⟩ : 0 < n ∧ n < vN V := by
      rcases hnb with q | q
      · rw [q.1] at c806; exact absurd c806 (by decide)
      · exact q.2
    by_cases h : nI (v % 5) ≤ 2
    · exact ac_12_0 hG C hfl V Hs len T hI hE v n nb z hv hnb hn0 hnN h hend
    · exact ac_12_1 hG C hfl V Hs len T hI hE v n nb z hv hnb hn0 hnN h hend
  · have hN1 : vN V = 1 := by
      rcases hnb with q | q
      · exact q.2
      · exact absurd q.1 c806
    exact ac_12_n hG C hfl V Hs len T hI hE v n nb z hv hnb hN1 hend

set_option maxRecDepth 20000 in
set_option maxHeartbeats 8000000 in
theorem ac_d {p : Program} {l : Launch} {e : Env} {s : State} {m : MethodId} {args : Array Value} {below : List Frame} {meth : Method} {c : Code} {G : mG} {Q : State → Prop} {M : Mem} {g : Glo} (hG : mInj G) (C : mCx p s m args c cL_acts 19 RL G) (hfl : l.stackTraces = false) (V : View) (Hs : List View) (len : Nat) (T : Nat → Int32) (hI : cINV M V Hs len T) (hE : eOK M V) (v n : Nat) (nb z : Int32) (hv : v < 10000000) (hnb : (nb = 1 ∧ vN V = 1) ∨ (nb = 0 ∧ 0 < n ∧ n < vN V)) (hend : ∀ (V' : View) (Hs' : List View) (M' : Mem) (L' : List (Nat × Value)) (pc kk nn : Nat), kk ≤ 6 → nn ≤ 36 → decode cL_acts pc = .ok (.ireturn, 1) → (cINV M' V' Hs' len T ∧ eOK M' V') → At p l e (rmD 9 6 36) s m args below meth c G 19 kk nn Q M' g L' pc [.int 1]) : At p l e (rmD 9 6 36) s m args below meth c G 19 0 0 Q M g [(8, .int nb), (7, .int (nI n)), (6, .int (nI v)), (0, .ref (mA G 0)), (1, .ref (mA G 107)), (2, .ref (mA G 108)), (3, .ref (mA G 109)), (4, .ref (mA G 110)), (5, .int z)] 914 [] := by
  obtain ⟨hC9, hW, hH9, hHs9, hTx9, hP09⟩ := id hI
  have hT := hW.1
  obtain ⟨hn1, hn16, hb4, ⟨hd0, hd3, hd5, hd6⟩, hpar⟩ := id hT
  have h8 := hE.le
  refine r_aload_n C dL_acts_914 4 rfl ?_
  refine r_iconst (v := 5) C dL_acts_915 rfl ?_
  refine r_ialdN (j := 5) (v := nI (vN V)) C dL_acts_916 rfl (rfl) (by omega) (by decide) (hE.n) ?_
  refine r_bipush (v := 8) C dL_acts_917 rfl ?_
  refine r_icmp_ne (tgt := 942) C dL_acts_919 (by decide) (fun c919 => ?_) (fun c919 => ?_)
  ·
    have hN8 : vN V < 8 := by rcases Nat.lt_or_ge (vN V) 8 with q | q; exact q; (have e9 : vN V = 8 := by omega); exact absurd (by rw [e9]; rfl) c919
    obtain ⟨pb, hpb, epb⟩ : ∃ pb, pb < vN V ∧ v % vN V = pb := ⟨_, Nat.mod_lt _ (by omega), rfl⟩
    refine r_bipush (v := 8) C dL_acts_942 rfl ?_
    refine r_aload_n C dL_acts_944 4 rfl ?_
    refine r_iconst (v := 5) C dL_acts_945 rfl ?_
    refine r_ialdN (j := 5) (v := nI (vN V)) C dL_acts_946 rfl (rfl) (by omega) (by decide) (hE.n) ?_
    refine r_imul C dL_acts_947 ?_
    refine r_valI (y := nI (8 * (vN V))) (pk_mul 8 (vN V)) ?_
    refine r_istore (L' := [(18, .int (nI (8 * (vN V)))), (8, .int nb), (7, .int (nI n)), (6, .int (nI v)), (0, .ref (mA G 0)), (1, .ref (mA G 107)), (2, .ref (mA G 108)), (3, .ref (mA G 109)), (4, .ref (mA G 110)), (5, .int z)]) C dL_acts_948 (by decide) rfl ?_
    refine r_aload_n C dL_acts_950 6 rfl ?_
    refine r_iload C dL_acts_951 0 rfl ?_
    refine r_iload C dL_acts_953 3 rfl ?_
    refine r_aload_n C dL_acts_955 5 rfl ?_
    refine r_iconst (v := 5) C dL_acts_956 rfl ?_
    refine r_ialdN (j := 5) (v := nI (vN V)) C dL_acts_957 rfl (rfl) (by omega) (by decide) (hE.n) ?_
    refine r_irem C dL_acts_958 (nI_ne0 (by omega) (by omega)) ?_
    refine r_valI (y := nI pb) ((pk_rem (by omega) (by omega) (by omega)).trans (congrArg nI epb)) ?_
    refine r_iastN (j := 8 * (vN V)) C dL_acts_959 rfl (rfl) (by omega) (by decide) ?_
    refine r_aload_n C dL_acts_960 6 rfl ?_
    refine r_iload C dL_acts_961 0 rfl ?_
    refine r_iconst (v := 1) C dL_acts_963 rfl ?_
    refine r_iadd C dL_acts_964 ?_
    refine r_valI (y := nI ((8 * (vN V)) + 1)) (nI_add (8 * (vN V)) 1) ?_
    refine r_iconst (v := 1) C dL_acts_965 rfl ?_
    refine r_iload C dL_acts_966 3 rfl ?_
    refine r_bipush (v := 8) C dL_acts_968 rfl ?_
    refine r_idiv C dL_acts_970 (by decide) ?_
    refine r_valI (y := nI (v / 8)) (pk_div (a := v) (d := 8) (by omega) (by omega) (by omega)) ?_
    refine r_sipush (v := 500) C dL_acts_971 rfl ?_
    refine r_irem C dL_acts_974 (by decide) ?_
    refine r_valI (y := nI ((v / 8) % 500)) (pk_rem (a := v / 8) (d := 500) (by omega) (by omega) (by omega)) ?_
    refine r_iadd C dL_acts_975 ?_
    refine r_valI (y := nI (1 + ((v / 8) % 500))) (nI_add 1 ((v / 8) % 500)) ?_
    refine r_iastN (j := (8 * (vN V)) + 1) C dL_acts_976 rfl (rfl) (by omega) (by decide) ?_
    refine r_aload_n C dL_acts_977 6 rfl ?_
    refine r_iload C dL_acts_978 0 rfl ?_
    refine r_iconst (v := 2) C dL_acts_980 rfl ?_
    refine r_iadd C dL_acts_981 ?_
    refine r_valI (y := nI ((8 * (vN V)) + 2)) (nI_add (8 * (vN V)) 2) ?_
    refine r_iload C dL_acts_982 3 rfl ?_
    refine r_iconst (v := 3) C dL_acts_984 rfl ?_
    refine r_idiv C dL_acts_985 (by decide) ?_
    refine r_valI (y := nI (v / 3)) (pk_div (a := v) (d := 3) (by omega) (by omega) (by omega)) ?_
    refine r_bipush (v := 51) C dL_acts_986 rfl ?_
    refine r_irem C dL_acts_988 (by decide) ?_
    refine r_valI (y := nI ((v / 3) % 51)) (pk_rem (a := v / 3) (d := 51) (by omega) (by omega) (by omega)) ?_
    refine r_iastN (j := (8 * (vN V)) + 2) C dL_acts_989 rfl (rfl) (by omega) (by decide) ?_
    refine r_aload_n C dL_acts_990 6 rfl ?_
    refine r_iload C dL_acts_991 0 rfl ?_
    refine r_iconst (v := 3) C dL_acts_993 rfl ?_
    refine r_iadd C dL_acts_994 ?_
    refine r_valI (y := nI ((8 * (vN V)) + 3)) (nI_add (8 * (vN V)) 3) ?_
    refine r_iload C dL_acts_995 3 rfl ?_
    refine r_iconst (v := 4) C dL_acts_997 rfl ?_
    refine r_irem C dL_acts_998 (by decide) ?_
    refine r_valI (y := nI (v % 4)) (pk_rem (a := v) (d := 4) (by omega) (by omega) (by omega)) ?_
    refine r_if_ne (tgt := 1006) C dL_acts_999 (by decide) (fun c999 => ?_) (fun c999 => ?_)
    ·
      refine r_iload C dL_acts_1006 3 rfl ?_
      refine r_iconst (v := 5) C dL_acts_1008 rfl ?_
      refine r_idiv C dL_acts_1009 (by decide) ?_
      refine r_valI (y := nI (v / 5)) (pk_div (a := v) (d := 5) (by omega) (by omega) (by omega)) ?_
      refine r_sipush (v := 501) C dL_acts_1010 rfl ?_
      refine r_irem C dL_acts_1013 (by decide) ?_
      refine r_valI (y := nI ((v / 5) % 501)) (pk_rem (a := v / 5) (d := 501) (by omega) (by omega) (by omega)) ?_
      refine r_iastN (j := (8 * (vN V)) + 3) C dL_acts_1014 rfl (rfl) (by omega) (by decide) ?_
      refine r_aload_n C dL_acts_1015 6 rfl ?_
      refine r_iload C dL_acts_1016 0 rfl ?_
      refine r_iconst (v := 4) C dL_acts_1018 rfl ?_
      refine r_iadd C dL_acts_1019 ?_
      refine r_valI (y := nI ((8 * (vN V)) + 4)) (nI_add (8 * (vN V)) 4) ?_
      refine r_iload C dL_acts_1020 3 rfl ?_
      refine r_bipush (v := 7) C dL_acts_1022 rfl ?_
      refine r_idiv C dL_acts_1024 (by decide) ?_
      refine r_valI (y := nI (v / 7)) (pk_div (a := v) (d := 7) (by omega) (by omega) (by omega)) ?_
      refine r_sipush (v := 1201) C dL_acts_1025 rfl ?_
      refine r_irem C dL_acts_1028 (by decide) ?_
      refine r_valI (y := nI ((v / 7) % 1201)) (pk_rem (a := v / 7) (d := 1201) (by omega) (by omega) (by omega)) ?_
      refine r_iastN (j := (8 * (vN V)) + 4) C dL_acts_1029 rfl (rfl) (by omega) (by decide) ?_
      refine r_aload_n C dL_acts_1030 5 rfl ?_
      refine r_iconst (v := 5) C dL_acts_1031 rfl ?_
      refine r_dup2 C dL_acts_1032 rfl rfl ?_
      refine r_ialdN (j := 5) (v := nI (vN V)) C dL_acts_1033 rfl (rfl) (by omega) (by decide) (by rw [mset_ne (by omega), mset_ne (by omega), mset_ne (by omega), mset_ne (by omega), mset_ne (by omega)]; exact hE.n) ?_
      refine r_iconst (v := 1) C dL_acts_1034 rfl ?_
      refine r_iadd C dL_acts_1035 ?_
      refine r_valI (y := nI (vN V + 1)) (nI_add (vN V) 1) ?_
      refine r_iastN (j := 5) C dL_acts_1036 rfl (rfl) (by omega) (by decide) ?_
      refine r_aload_n C dL_acts_1037 4 rfl ?_
      refine r_aload_n C dL_acts_1038 6 rfl ?_
      refine r_iload C dL_acts_1039 0 rfl ?_
      refine r_ialdN (j := 8 * (vN V)) (v := nI pb) C dL_acts_1041 rfl (rfl) (by omega) (by decide) (by rw [mset_ne (by omega), mset_at, upd_ne (by omega), mset_at, upd_ne (by omega), mset_at, upd_ne (by omega), mset_at, upd_ne (by omega), mset_at, upd_at]) ?_
      refine r_aload_n C dL_acts_1042 6 rfl ?_
      refine r_iload C dL_acts_1043 0 rfl ?_
      refine r_iconst (v := 1) C dL_acts_1045 rfl ?_
      refine r_iadd C dL_acts_1046 ?_
      refine r_valI (y := nI ((8 * (vN V)) + 1)) (nI_add (8 * (vN V)) 1) ?_
      refine r_ialdN (j := 8 * (vN V) + 1) (v := nI (1 + ((v / 8) % 500))) C dL_acts_1047 rfl (rfl) (by omega) (by decide) (by rw [mset_ne (by omega), mset_at, upd_ne (by omega), mset_at, upd_ne (by omega), mset_at, upd_ne (by omega), mset_at, upd_at]) ?_
      refine r_aload_n C dL_acts_1048 6 rfl ?_
      refine r_iload C dL_acts_1049 0 rfl ?_
      refine r_iconst (v := 2) C dL_acts_1051 rfl ?_
      refine r_iadd C dL_acts_1052 ?_
      refine r_valI (y := nI ((8 * (vN V)) + 2)) (nI_add (8 * (vN V)) 2) ?_
      refine r_ialdN (j := 8 * (vN V) + 2) (v := nI ((v / 3) % 51)) C dL_acts_1053 rfl (rfl) (by omega) (by decide) (by rw [mset_ne (by omega), mset_at, upd_ne (by omega), mset_at, upd_ne (by omega), mset_at, upd_at]) ?_
      refine r_aload_n C dL_acts_1054 6 rfl ?_
      refine r_iload C dL_acts_1055 0 rfl ?_
      refine r_iconst (v := 3) C dL_acts_1057 rfl ?_
      refine r_iadd C dL_acts_1058 ?_
      refine r_valI (y := nI ((8 * (vN V)) + 3)) (nI_add (8 * (vN V)) 3) ?_
      refine r_ialdN (j := 8 * (vN V) + 3) (v := nI ((v / 5) % 501)) C dL_acts_1059 rfl (rfl) (by omega) (by decide) (by rw [mset_ne (by omega), mset_at, upd_ne (by omega), mset_at, upd_at]) ?_
      refine r_aload_n C dL_acts_1060 6 rfl ?_
      refine r_iload C dL_acts_1061 0 rfl ?_
      refine r_iconst (v := 4) C dL_acts_1063 rfl ?_
      refine r_iadd C dL_acts_1064 ?_
      refine r_valI (y := nI ((8 * (vN V)) + 4)) (nI_add (8 * (vN V)) 4) ?_
      refine r_ialdN (j := 8 * (vN V) + 4) (v := nI ((v / 7) % 1201)) C dL_acts_1065 rfl (rfl) (by omega) (by decide) (by rw [mset_ne (by omega), mset_at, upd_at]) ?_
      refine r_lS (As := [.ref (mA G 0), .int (nI pb), .int (nI (1 + ((v / 8) % 500))), .int (nI ((v / 3) % 51)), .int (nI ((v / 5) % 501)), .int (nI ((v / 7) % 1201))]) (rest := []) C dL_acts_1066 w_L_60 (c_L_adds l G hG (mset (mset (mset (mset (mset (mset M 108 (8 * (vN V)) (nI pb)) 108 ((8 * (vN V)) + 1) (nI (1 + ((v / 8) % 500)))) 108 ((8 * (vN V)) + 2) (nI ((v / 3) % 51))) 108 ((8 * (vN V)) + 3) (nI ((v / 5) % 501))) 108 ((8 * (vN V)) + 4) (nI ((v / 7) % 1201))) 107 5 (nI (vN V + 1))) g hfl V Hs len T (hI.lw (fun q hq => by rw [mset_ne (by omega), mset_ne (by omega), mset_ne (by omega), mset_ne (by omega), mset_ne (by omega), mset_ne (by omega)])) (nI pb) (nI (1 + ((v / 8) % 500))) (nI ((v / 3) % 51)) (nI ((v / 5) % 501)) (nI ((v / 7) % 1201))) (Nat.le_of_ble_eq_true rfl) (Nat.le_of_ble_eq_true rfl) rfl rfl (Nat.le_of_ble_eq_true rfl) (Nat.le_of_ble_eq_true rfl) (Nat.le_of_ble_eq_true rfl) (fun r9 M9 g9 hp1066 => ?_)
      obtain ⟨⟨hr, hI9, ho9⟩, rfl⟩ := wr_ok hp1066 (eAdd_0 ⟨nI_pos' (by omega), nI_lt hpb (by omega)⟩ (inWN (a := 1) (c := 500) (by omega) (by omega) (by decide)) (inWN (a := 0) (c := 50) (by omega) (by omega) (by decide)) (inWN (a := 0) (c := 500) (by omega) (by omega) (by decide)) (inWN (a := 0) (c := 1200) (by omega) (by omega) (by decide)) (by omega))
      refine r_aload_n C dL_acts_1069 5 rfl ?_
      refine r_iconst (v := 5) C dL_acts_1070 rfl ?_
      refine r_ialdN (j := 5) (v := nI (vN V + 1)) C dL_acts_1071 rfl (rfl) (by omega) (by decide) (by rw [ho9 107 (by omega), mset_at, upd_at]) ?_
      refine r_iconst (v := 1) C dL_acts_1072 rfl ?_
      refine r_isub C dL_acts_1073 ?_
      refine r_valI (y := nI (vN V)) (nI_pred _) ?_
      refine r_icmp_ne (tgt := 1081) C dL_acts_1074 (by decide) (fun h => absurd (hr) h) (fun _ => ?_)
      refine r_iconst (v := 1) C dL_acts_1077 rfl ?_
      refine r_goto (tgt := 1082) C dL_acts_1078 (by decide) ?_
      exact hend _ _ _ _ _ _ _ (Nat.le_of_ble_eq_true rfl) (Nat.le_of_ble_eq_true rfl) dL_acts_1082 (⟨hI9, hE.add hN8 (by rw [ho9 109 (by omega), mset_ne (by omega), mset_ne (by omega), mset_ne (by omega), mset_ne (by omega), mset_ne (by omega), mset_ne (by omega)]) (fun j hj => by rw [ho9 107 (by omega), mset_at, upd_ne hj, mset_ne (by omega), mset_ne (by omega), mset_ne (by omega), mset_ne (by omega), mset_ne (by omega)]) (by rw [ho9 107 (by omega), mset_at, upd_at]) (fun j hj => by rw [ho9 108 (by omega), mset_ne (by omega), mset_at, upd_ne (by omega), mset_at, upd_ne (by omega), mset_at, upd_ne (by omega), mset_at, upd_ne (by omega), mset_at, upd_ne (by omega)]) (by rw [ho9 108 (by omega), mset_ne (by omega), mset_at, upd_ne (by omega), mset_at, upd_ne (by omega), mset_at, upd_ne (by omega), mset_at, upd_ne (by omega), mset_at, upd_at]) (by rw [ho9 108 (by omega), mset_ne (by omega), mset_at, upd_ne (by omega), mset_at, upd_ne (by omega), mset_at, upd_ne (by omega), mset_at, upd_at]) (by rw [ho9 108 (by omega), mset_ne (by omega), mset_at, upd_ne (by omega), mset_at, upd_ne (by omega), mset_at, upd_at]) (by rw [ho9 108 (by omega), mset_ne (by omega), mset_at, upd_ne (by omega), mset_at, upd_at]) (by rw [ho9 108 (by omega), mset_ne (by omega), mset_at, upd_at])⟩)
    ·
      refine r_iconst (v := 0) C dL_acts_1002 rfl ?_
      refine r_goto (tgt := 1014) C dL_acts_1003 (by decide) ?_
      refine r_iastN (j := (8 * (vN V)) + 3) C dL_acts_1014 rfl (rfl) (by omega) (by decide) ?_
      refine r_aload_n C dL_acts_1015 6 rfl ?_
      refine r_iload C dL_acts_1016 0 rfl ?_
      refine r_iconst (v := 4) C dL_acts_1018 rfl ?_
      refine r_iadd C dL_acts_1019 ?_
      refine r_valI (y := nI ((8 * (vN V)) + 4)) (nI_add (8 * (vN V)) 4) ?_
      refine r_iload C dL_acts_1020 3 rfl ?_
      refine r_bipush (v := 7) C dL_acts_1022 rfl ?_
      refine r_idiv C dL_acts_1024 (by decide) ?_
      refine r_valI (y := nI (v / 7)) (pk_div (a := v) (d := 7) (by omega) (by omega) (by omega)) ?_
      refine r_sipush (v := 1201) C dL_acts_1025 rfl ?_
      refine r_irem C dL_acts_1028 (by decide) ?_
      refine r_valI (y := nI ((v / 7) % 1201)) (pk_rem (a := v / 7) (d := 1201) (by omega) (by omega) (by omega)) ?_
      refine r_iastN (j := (8 * (vN V)) + 4) C dL_acts_1029 rfl (rfl) (by omega) (by decide) ?_
      refine r_aload_n C dL_acts_1030 5 rfl ?_
      refine r_iconst (v := 5) C dL_acts_1031 rfl ?_
      refine r_dup2 C dL_acts_1032 rfl rfl ?_
      refine r_ialdN (j := 5) (v := nI (vN V)) C dL_acts_1033 rfl (rfl) (by omega) (by decide) (by rw [mset_ne (by omega), mset_ne (by omega), mset_ne (by omega), mset_ne (by omega), mset_ne (by omega)]; exact hE.n) ?_
      refine r_iconst (v := 1) C dL_acts_1034 rfl ?_
      refine r_iadd C dL_acts_1035 ?_
      refine r_valI (y := nI (vN V + 1)) (nI_add (vN V) 1) ?_
      refine r_iastN (j := 5) C dL_acts_1036 rfl (rfl) (by omega) (by decide) ?_
      refine r_aload_n C dL_acts_1037 4 rfl ?_
      refine r_aload_n C dL_acts_1038 6 rfl ?_
      refine r_iload C dL_acts_1039 0 rfl ?_
      refine r_ialdN (j := 8 * (vN V)) (v := nI pb) C dL_acts_1041 rfl (rfl) (by omega) (by decide) (by rw [mset_ne (by omega), mset_at, upd_ne (by omega), mset_at, upd_ne (by omega), mset_at, upd_ne (by omega), mset_at, upd_ne (by omega), mset_at, upd_at]) ?_
      refine r_aload_n C dL_acts_1042 6 rfl ?_
      refine r_iload C dL_acts_1043 0 rfl ?_
      refine r_iconst (v := 1) C dL_acts_1045 rfl ?_
      refine r_iadd C dL_acts_1046 ?_
      refine r_valI (y := nI ((8 * (vN V)) + 1)) (nI_add (8 * (vN V)) 1) ?_
      refine r_ialdN (j := 8 * (vN V) + 1) (v := nI (1 + ((v / 8) % 500))) C dL_acts_1047 rfl (rfl) (by omega) (by decide) (by rw [mset_ne (by omega), mset_at, upd_ne (by omega), mset_at, upd_ne (by omega), mset_at, upd_ne (by omega), mset_at, upd_at]) ?_
      refine r_aload_n C dL_acts_1048 6 rfl ?_
      refine r_iload C dL_acts_1049 0 rfl ?_
      refine r_iconst (v := 2) C dL_acts_1051 rfl ?_
      refine r_iadd C dL_acts_1052 ?_
      refine r_valI (y := nI ((8 * (vN V)) + 2)) (nI_add (8 * (vN V)) 2) ?_
      refine r_ialdN (j := 8 * (vN V) + 2) (v := nI ((v / 3) % 51)) C dL_acts_1053 rfl (rfl) (by omega) (by decide) (by rw [mset_ne (by omega), mset_at, upd_ne (by omega), mset_at, upd_ne (by omega), mset_at, upd_at]) ?_
      refine r_aload_n C dL_acts_1054 6 rfl ?_
      refine r_iload C dL_acts_1055 0 rfl ?_
      refine r_iconst (v := 3) C dL_acts_1057 rfl ?_
      refine r_iadd C dL_acts_1058 ?_
      refine r_valI (y := nI ((8 * (vN V)) + 3)) (nI_add (8 * (vN V)) 3) ?_
      refine r_ialdN (j := 8 * (vN V) + 3) (v := 0) C dL_acts_1059 rfl (rfl) (by omega) (by decide) (by rw [mset_ne (by omega), mset_at, upd_ne (by omega), mset_at, upd_at]) ?_
      refine r_aload_n C dL_acts_1060 6 rfl ?_
      refine r_iload C dL_acts_1061 0 rfl ?_
      refine r_iconst (v := 4) C dL_acts_1063 rfl ?_
      refine r_iadd C dL_acts_1064 ?_
      refine r_valI (y := nI ((8 * (vN V)) + 4)) (nI_add (8 * (vN V)) 4) ?_
      refine r_ialdN (j := 8 * (vN V) + 4) (v := nI ((v / 7) % 1201)) C dL_acts_1065 rfl (rfl) (by omega) (by decide) (by rw [mset_ne (by omega), mset_at, upd_at]) ?_
      refine r_lS (As := [.ref (mA G 0), .int (nI pb), .int (nI (1 + ((v / 8) % 500))), .int (nI ((v / 3) % 51)), .int 0, .int (nI ((v / 7) % 1201))]) (rest := []) C dL_acts_1066 w_L_60 (c_L_adds l G hG (mset (mset (mset (mset (mset (mset M 108 (8 * (vN V)) (nI pb)) 108 ((8 * (vN V)) + 1) (nI (1 + ((v / 8) % 500)))) 108 ((8 * (vN V)) + 2) (nI ((v / 3) % 51))) 108 ((8 * (vN V)) + 3) 0) 108 ((8 * (vN V)) + 4) (nI ((v / 7) % 1201))) 107 5 (nI (vN V + 1))) g hfl V Hs len T (hI.lw (fun q hq => by rw [mset_ne (by omega), mset_ne (by omega), mset_ne (by omega), mset_ne (by omega), mset_ne (by omega), mset_ne (by omega)])) (nI pb) (nI (1 + ((v / 8) % 500))) (nI ((v / 3) % 51)) 0 (nI ((v / 7) % 1201))) (Nat.le_of_ble_eq_true rfl) (Nat.le_of_ble_eq_true rfl) rfl rfl (Nat.le_of_ble_eq_true rfl) (Nat.le_of_ble_eq_true rfl) (Nat.le_of_ble_eq_true rfl) (fun r9 M9 g9 hp1066 => ?_)
      obtain ⟨⟨hr, hI9, ho9⟩, rfl⟩ := wr_ok hp1066 (eAdd_0 ⟨nI_pos' (by omega), nI_lt hpb (by omega)⟩ (inWN (a := 1) (c := 500) (by omega) (by omega) (by decide)) (inWN (a := 0) (c := 50) (by omega) (by omega) (by decide)) (⟨by decide, by decide⟩) (inWN (a := 0) (c := 1200) (by omega) (by omega) (by decide)) (by omega))
      refine r_aload_n C dL_acts_1069 5 rfl ?_
      refine r_iconst (v := 5) C dL_acts_1070 rfl ?_
      refine r_ialdN (j := 5) (v := nI (vN V + 1)) C dL_acts_1071 rfl (rfl) (by omega) (by decide) (by rw [ho9 107 (by omega), mset_at, upd_at]) ?_
      refine r_iconst (v := 1) C dL_acts_1072 rfl ?_
      refine r_isub C dL_acts_1073 ?_
      refine r_valI (y := nI (vN V)) (nI_pred _) ?_
      refine r_icmp_ne (tgt := 1081) C dL_acts_1074 (by decide) (fun h => absurd (hr) h) (fun _ => ?_)
      refine r_iconst (v := 1) C dL_acts_1077 rfl ?_
      refine r_goto (tgt := 1082) C dL_acts_1078 (by decide) ?_
      exact hend _ _ _ _ _ _ _ (Nat.le_of_ble_eq_true rfl) (Nat.le_of_ble_eq_true rfl) dL_acts_1082 (⟨hI9, hE.add hN8 (by rw [ho9 109 (by omega), mset_ne (by omega), mset_ne (by omega), mset_ne (by omega), mset_ne (by omega), mset_ne (by omega), mset_ne (by omega)]) (fun j hj => by rw [ho9 107 (by omega), mset_at, upd_ne hj, mset_ne (by omega), mset_ne (by omega), mset_ne (by omega), mset_ne (by omega), mset_ne (by omega)]) (by rw [ho9 107 (by omega), mset_at, upd_at]) (fun j hj => by rw [ho9 108 (by omega), mset_ne (by omega), mset_at, upd_ne (by omega), mset_at, upd_ne (by omega), mset_at, upd_ne (by omega), mset_at, upd_ne (by omega), mset_at, upd_ne (by omega)]) (by rw [ho9 108 (by omega), mset_ne (by omega), mset_at, upd_ne (by omega), mset_at, upd_ne (by omega), mset_at, upd_ne (by omega), mset_at, upd_ne (by omega), mset_at, upd_at]) (by rw [ho9 108 (by omega), mset_ne (by omega), mset_at, upd_ne (by omega), mset_at, upd_ne (by omega), mset_at, upd_ne (by omega), mset_at, upd_at]) (by rw [ho9 108 (by omega), mset_ne (by omega), mset_at, upd_ne (by omega), mset_at, upd_ne (by omega), mset_at, upd_at]) (by rw [ho9 108 (by omega), mset_ne (by omega), mset_at, upd_ne (by omega), mset_at, upd_at]) (by rw [ho9 108 (by omega), mset_ne (by omega), mset_at, upd_at])⟩)
  ·
    refine r_aload_n C dL_acts_922 3 rfl ?_
    refine r_iconst (v := 0) C dL_acts_923 rfl ?_
    refine r_iconst (v := 0) C dL_acts_924 rfl ?_
    refine r_iconst (v := 0) C dL_acts_925 rfl ?_
    refine r_iconst (v := 0) C dL_acts_926 rfl ?_
    refine r_iconst (v := 0) C dL_acts_927 rfl ?_
    refine r_lS (As := [.ref (mA G 0), .int 0, .int 0, .int 0, .int 0, .int 0]) (rest := []) C dL_acts_928 w_L_60 (c_L_adds l G hG M g hfl V Hs len T (hI.lw (fun q hq => rfl)) 0 0 0 0 0) (Nat.le_of_ble_eq_true rfl) (Nat.le_of_ble_eq_true rfl) rfl rfl (Nat.le_of_ble_eq_true rfl) (Nat.le_of_ble_eq_true rfl) (Nat.le_of_ble_eq_true rfl) (fun r9 M9 g9 hp928 => ?_)
    obtain ⟨hr, rfl, rfl⟩ := wr_no hp928 1 (-1000000002) rfl (eAdd_2 ⟨by decide, nI_lt (a := 0) (by omega) (by omega)⟩ (fun z => absurd z.1 (by decide)))
    refine r_ldc (v := -1000000002) C dL_acts_931 (gd_t 486 (by decide +kernel) rfl) ?_
    refine r_icmp_ne (tgt := 940) C dL_acts_933 (by decide) (fun h => absurd (hr) h) (fun _ => ?_)
    refine r_iconst (v := 1) C dL_acts_936 rfl ?_
    refine r_goto (tgt := 941) C dL_acts_937 (by decide) ?_
    exact hend _ _ _ _ _ _ _ (Nat.le_of_ble_eq_true rfl) (Nat.le_of_ble_eq_true rfl) dL_acts_941 (⟨hI, hE⟩)

set_option maxRecDepth 20000 in
set_option maxHeartbeats 4000000 in
theorem ac_p {p : Program} {l : Launch} {e : Env} {s : State} {m : MethodId} {args : Array Value} {below : List Frame} {meth : Method} {c : Code} {G : mG} {Q : State → Prop} {M : Mem} {g : Glo} (hG : mInj G) (C : mCx p s m args c cL_acts 19 RL G) (V : View) (Hs : List View) (len : Nat) (T : Nat → Int32) (hI : cINV M V Hs len T) (hE : eOK M V) (z : Int32) (next : ∀ (v n : Nat) (nb : Int32) (j : Nat), v < 10000000 → ((nb = 1 ∧ vN V = 1) ∨ (nb = 0 ∧ 0 < n ∧ n < vN V)) → j < 20 → At p l e (rmD 9 6 36) s m args below meth c G 19 0 0 Q M g [(8, .int nb), (7, .int (nI n)), (6, .int (nI v)), (0, .ref (mA G 0)), (1, .ref (mA G 107)), (2, .ref (mA G 108)), (3, .ref (mA G 109)), (4, .ref (mA G 110)), (5, .int z)] 55 [.int (nI j)]) : At p l e (rmD 9 6 36) s m args below meth c G 19 0 0 Q M g [(0, .ref (mA G 0)), (1, .ref (mA G 107)), (2, .ref (mA G 108)), (3, .ref (mA G 109)), (4, .ref (mA G 110)), (5, .int z)] 0 [] := by
  obtain ⟨hC9, hW, hH9, hHs9, hTx9, hP09⟩ := id hI
  have hT := hW.1
  obtain ⟨hn1, hn16, hb4, ⟨hd0, hd3, hd5, hd6⟩, hpar⟩ := id hT
  have h8 := hE.le
  refine r_iload C dL_acts_0 5 rfl ?_
  refine r_iconst (v := 5) C dL_acts_2 rfl ?_
  refine r_ishr C dL_acts_3 ?_
  refine r_ldc (v := 10000000) C dL_acts_4 (gd_t 384 (by decide +kernel) rfl) ?_
  refine r_callSI (As := [.int (z >>> (5 &&& 31)), .int 10000000]) (rest := []) C dL_acts_6 s_L_16 (c_L_low l G hG M g (z >>> (5 &&& 31)) 10000000 (by decide) (by decide)) (by decide) rfl rfl (Nat.le_of_ble_eq_true rfl) (Nat.le_of_ble_eq_true rfl) (Nat.le_of_ble_eq_true rfl) (fun r6 M6 g6 hp6 => ?_)
  obtain ⟨⟨v, hv, rfl⟩, eM6, eg6⟩ := hp6
  rw [eg6]
  rw [eM6]
  refine r_istore (L' := [(6, .int (nI v)), (0, .ref (mA G 0)), (1, .ref (mA G 107)), (2, .ref (mA G 108)), (3, .ref (mA G 109)), (4, .ref (mA G 110)), (5, .int z)]) C dL_acts_9 (by decide) rfl ?_
  refine r_aload_n C dL_acts_11 2 rfl ?_
  refine r_iconst (v := 5) C dL_acts_12 rfl ?_
  refine r_ialdN (j := 5) (v := nI (vN V)) C dL_acts_13 rfl (rfl) (by omega) (by decide) (hE.n) ?_
  refine r_iconst (v := 1) C dL_acts_14 rfl ?_
  refine r_icmp_ne (tgt := 22) C dL_acts_15 (by decide) (fun c15 => ?_) (fun c15 => ?_)
  ·
    have hN2 : 1 < vN V := by rcases Nat.lt_or_ge 1 (vN V) with q | q; exact q; (have e9 : vN V = 1 := by omega); exact absurd (by rw [e9]; rfl) c15
    obtain ⟨q, hq, eq9⟩ : ∃ q, q < vN V - 1 ∧ v % (vN V - 1) = q := ⟨_, Nat.mod_lt _ (by omega), rfl⟩
    refine r_iconst (v := 1) C dL_acts_22 rfl ?_
    refine r_iload C dL_acts_23 0 rfl ?_
    refine r_aload_n C dL_acts_25 2 rfl ?_
    refine r_iconst (v := 5) C dL_acts_26 rfl ?_
    refine r_ialdN (j := 5) (v := nI (vN V)) C dL_acts_27 rfl (rfl) (by omega) (by decide) (hE.n) ?_
    refine r_iconst (v := 1) C dL_acts_28 rfl ?_
    refine r_isub C dL_acts_29 ?_
    refine r_valI (y := nI (vN V - 1)) (pk_sub (b := 1) hn1) ?_
    refine r_irem C dL_acts_30 (nI_ne0 (by omega) (by omega)) ?_
    refine r_valI (y := nI q) ((pk_rem (by omega) (by omega) (by omega)).trans (congrArg nI eq9)) ?_
    refine r_iadd C dL_acts_31 ?_
    refine r_valI (y := nI (1 + q)) (nI_add 1 q) ?_
    refine r_istore (L' := [(7, .int (nI (1 + q))), (6, .int (nI v)), (0, .ref (mA G 0)), (1, .ref (mA G 107)), (2, .ref (mA G 108)), (3, .ref (mA G 109)), (4, .ref (mA G 110)), (5, .int z)]) C dL_acts_32 (by decide) rfl ?_
    refine r_aload_n C dL_acts_34 3 rfl ?_
    refine r_iconst (v := 5) C dL_acts_35 rfl ?_
    refine r_ialdN (j := 5) (v := nI (vN V)) C dL_acts_36 rfl (rfl) (by omega) (by decide) (hE.n) ?_
    refine r_iconst (v := 1) C dL_acts_37 rfl ?_
    refine r_icmp_ne (tgt := 45) C dL_acts_38 (by decide) (fun _ => ?_) (fun h => absurd h (c15))
    refine r_iconst (v := 0) C dL_acts_45 rfl ?_
    refine r_istore (L' := [(8, .int 0), (7, .int (nI (1 + q))), (6, .int (nI v)), (0, .ref (mA G 0)), (1, .ref (mA G 107)), (2, .ref (mA G 108)), (3, .ref (mA G 109)), (4, .ref (mA G 110)), (5, .int z)]) C dL_acts_46 (by decide) rfl ?_
    refine r_iload C dL_acts_48 8 rfl ?_
    refine r_bipush (v := 20) C dL_acts_50 rfl ?_
    refine r_callSI (As := [.int z, .int 20]) (rest := []) C dL_acts_52 s_L_16 (c_L_low l G hG M g z 20 (by decide) (by decide)) (by decide) rfl rfl (Nat.le_of_ble_eq_true rfl) (Nat.le_of_ble_eq_true rfl) (Nat.le_of_ble_eq_true rfl) (fun r52 M52 g52 hp52 => ?_)
    obtain ⟨⟨j, hj, rfl⟩, eM52, eg52⟩ := hp52
    rw [eg52]
    rw [eM52]
    refine r_sub (L' := [(8, .int 0), (7, .int (nI (1 + q))), (6, .int (nI v)), (0, .ref (mA G 0)), (1, .ref (mA G 107)), (2, .ref (mA G 108)), (3, .ref (mA G 109)), (4, .ref (mA G 110)), (5, .int z)]) [0, 1, 2, 3, 4, 5, 6, 7, 8] rfl ?_
    exact next v (1 + q) 0 j hv (Or.inr ⟨rfl, by omega, by omega⟩) hj
  ·
    have hN1 : vN V = 1 := (nI_eq (b := 1) (by omega) (by decide)).mp c15
    refine r_iconst (v := 1) C dL_acts_18 rfl ?_
    refine r_goto (tgt := 32) C dL_acts_19 (by decide) ?_
    refine r_istore (L' := [(7, .int 1), (6, .int (nI v)), (0, .ref (mA G 0)), (1, .ref (mA G 107)), (2, .ref (mA G 108)), (3, .ref (mA G 109)), (4, .ref (mA G 110)), (5, .int z)]) C dL_acts_32 (by decide) rfl ?_
    refine r_aload_n C dL_acts_34 3 rfl ?_
    refine r_iconst (v := 5) C dL_acts_35 rfl ?_
    refine r_ialdN (j := 5) (v := nI (vN V)) C dL_acts_36 rfl (rfl) (by omega) (by decide) (hE.n) ?_
    refine r_iconst (v := 1) C dL_acts_37 rfl ?_
    refine r_icmp_ne (tgt := 45) C dL_acts_38 (by decide) (fun h => absurd (c15) h) (fun _ => ?_)
    refine r_iconst (v := 1) C dL_acts_41 rfl ?_
    refine r_goto (tgt := 46) C dL_acts_42 (by decide) ?_
    refine r_istore (L' := [(8, .int 1), (7, .int 1), (6, .int (nI v)), (0, .ref (mA G 0)), (1, .ref (mA G 107)), (2, .ref (mA G 108)), (3, .ref (mA G 109)), (4, .ref (mA G 110)), (5, .int z)]) C dL_acts_46 (by decide) rfl ?_
    refine r_iload C dL_acts_48 8 rfl ?_
    refine r_bipush (v := 20) C dL_acts_50 rfl ?_
    refine r_callSI (As := [.int z, .int 20]) (rest := []) C dL_acts_52 s_L_16 (c_L_low l G hG M g z 20 (by decide) (by decide)) (by decide) rfl rfl (Nat.le_of_ble_eq_true rfl) (Nat.le_of_ble_eq_true rfl) (Nat.le_of_ble_eq_true rfl) (fun r52 M52 g52 hp52 => ?_)
    obtain ⟨⟨j, hj, rfl⟩, eM52, eg52⟩ := hp52
    rw [eg52]
    rw [eM52]
    refine r_sub (L' := [(8, .int 1), (7, .int 1), (6, .int (nI v)), (0, .ref (mA G 0)), (1, .ref (mA G 107)), (2, .ref (mA G 108)), (3, .ref (mA G 109)), (4, .ref (mA G 110)), (5, .int z)]) [0, 1, 2, 3, 4, 5, 6, 7, 8] rfl ?_
    exact next v 1 1 j hv (Or.inl ⟨rfl, hN1⟩) hj

set_option maxRecDepth 20000 in
set_option maxHeartbeats 4000000 in
theorem c_L_acts (l : Launch) (G : mG) (hG : mInj G) (M : Mem) (g : Glo) (hfl : l.stackTraces = false) (V : View) (Hs : List View) (len : Nat) (T : Nat → Int32) (hI : cINV M V Hs len T) (hE : eOK M V) (z : Int32) : mcA l G yL_acts cL_acts 19 .boolean 9 6 36 [.ref (mA G 0), .ref (mA G 107), .ref (mA G 108), .ref (mA G 109), .ref (mA G 110), .int z] M g (fun r M' g' => (r = 1 ∧ ∃ (V' : View) (Hs' : List View), cINV M' V' Hs' len T ∧ eOK M' V') ∧ g' = g) := by
  refine mcA_of (L0 := [(0, .ref (mA G 0)), (1, .ref (mA G 107)), (2, .ref (mA G 108)), (3, .ref (mA G 109)), (4, .ref (mA G 110)), (5, .int z)]) hG (by decide) (Nat.le_of_ble_eq_true rfl) rfl ?_
  intro p e s m args below meth c Q C hend
  refine ac_p hG C V Hs len T hI hE z (fun v n nb j hv hnb hj => ?_)
  have hc : j = 0 ∨ j = 1 ∨ j = 2 ∨ j = 3 ∨ j = 4 ∨ j = 5 ∨ j = 6 ∨ j = 7 ∨ j = 8 ∨ j = 9 ∨ j = 10 ∨ j = 11 ∨ j = 12 ∨ j = 13 ∨ j = 14 ∨ j = 15 ∨ j = 16 ∨ j = 17 ∨ j = 18 ∨ j = 19 := by omega
  rcases hc with rfl | rfl | rfl | rfl | rfl | rfl | rfl | rfl | rfl | rfl | rfl | rfl | rfl | rfl | rfl | rfl | rfl | rfl | rfl | rfl
  · exact r_tableIn (off := 69) (tgt := 124) C dL_acts_55 (by decide) (by decide) (by decide) (by decide) (ac_0 hG C hfl V Hs len T hI hE v n nb z hv hnb (fun V' Hs' M' L' pc kk nn hk hn hd h => hend 1 M' g L' pc kk nn hk hn hd rfl ⟨⟨rfl, V', Hs', h.1, h.2⟩, rfl⟩))
  · exact r_tableIn (off := 69) (tgt := 124) C dL_acts_55 (by decide) (by decide) (by decide) (by decide) (ac_0 hG C hfl V Hs len T hI hE v n nb z hv hnb (fun V' Hs' M' L' pc kk nn hk hn hd h => hend 1 M' g L' pc kk nn hk hn hd rfl ⟨⟨rfl, V', Hs', h.1, h.2⟩, rfl⟩))
  · exact r_tableIn (off := 125) (tgt := 180) C dL_acts_55 (by decide) (by decide) (by decide) (by decide) (ac_2 hG C hfl V Hs len T hI hE v n nb z hv hnb (fun V' Hs' M' L' pc kk nn hk hn hd h => hend 1 M' g L' pc kk nn hk hn hd rfl ⟨⟨rfl, V', Hs', h.1, h.2⟩, rfl⟩))
  · exact r_tableIn (off := 125) (tgt := 180) C dL_acts_55 (by decide) (by decide) (by decide) (by decide) (ac_2 hG C hfl V Hs len T hI hE v n nb z hv hnb (fun V' Hs' M' L' pc kk nn hk hn hd h => hend 1 M' g L' pc kk nn hk hn hd rfl ⟨⟨rfl, V', Hs', h.1, h.2⟩, rfl⟩))
  · exact r_tableIn (off := 243) (tgt := 298) C dL_acts_55 (by decide) (by decide) (by decide) (by decide) (ac_4 hG C hfl V Hs len T hI hE v n nb z hv hnb (fun V' Hs' M' L' pc kk nn hk hn hd h => hend 1 M' g L' pc kk nn hk hn hd rfl ⟨⟨rfl, V', Hs', h.1, h.2⟩, rfl⟩))
  · exact r_tableIn (off := 243) (tgt := 298) C dL_acts_55 (by decide) (by decide) (by decide) (by decide) (ac_4 hG C hfl V Hs len T hI hE v n nb z hv hnb (fun V' Hs' M' L' pc kk nn hk hn hd h => hend 1 M' g L' pc kk nn hk hn hd rfl ⟨⟨rfl, V', Hs', h.1, h.2⟩, rfl⟩))
  · exact r_tableIn (off := 329) (tgt := 384) C dL_acts_55 (by decide) (by decide) (by decide) (by decide) (ac_6 hG C hfl V Hs len T hI hE v n nb z hv hnb (fun V' Hs' M' L' pc kk nn hk hn hd h => hend 1 M' g L' pc kk nn hk hn hd rfl ⟨⟨rfl, V', Hs', h.1, h.2⟩, rfl⟩))
  · exact r_tableIn (off := 329) (tgt := 384) C dL_acts_55 (by decide) (by decide) (by decide) (by decide) (ac_6 hG C hfl V Hs len T hI hE v n nb z hv hnb (fun V' Hs' M' L' pc kk nn hk hn hd h => hend 1 M' g L' pc kk nn hk hn hd rfl ⟨⟨rfl, V', Hs', h.1, h.2⟩, rfl⟩))
  · exact r_tableIn (off := 471) (tgt := 526) C dL_acts_55 (by decide) (by decide) (by decide) (by decide) (ac_8 hG C hfl V Hs len T hI hE v n nb z hv hnb (fun V' Hs' M' L' pc kk nn hk hn hd h => hend 1 M' g L' pc kk nn hk hn hd rfl ⟨⟨rfl, V', Hs', h.1, h.2⟩, rfl⟩))
  · exact r_tableIn (off := 555) (tgt := 610) C dL_acts_55 (by decide) (by decide) (by decide) (by decide) (ac_9 hG C hfl V Hs len T hI hE v n nb z hv hnb (fun V' Hs' M' L' pc kk nn hk hn hd h => hend 1 M' g L' pc kk nn hk hn hd rfl ⟨⟨rfl, V', Hs', h.1, h.2⟩, rfl⟩))
  · exact r_tableIn (off := 617) (tgt := 672) C dL_acts_55 (by decide) (by decide) (by decide) (by decide) (ac_10 hG C hfl V Hs len T hI hE v n nb z hv hnb (fun V' Hs' M' L' pc kk nn hk hn hd h => hend 1 M' g L' pc kk nn hk hn hd rfl ⟨⟨rfl, V', Hs', h.1, h.2⟩, rfl⟩))
  · exact r_tableIn (off := 617) (tgt := 672) C dL_acts_55 (by decide) (by decide) (by decide) (by decide) (ac_10 hG C hfl V Hs len T hI hE v n nb z hv hnb (fun V' Hs' M' L' pc kk nn hk hn hd h => hend 1 M' g L' pc kk nn hk hn hd rfl ⟨⟨rfl, V', Hs', h.1, h.2⟩, rfl⟩))
  · exact r_tableIn (off := 749) (tgt := 804) C dL_acts_55 (by decide) (by decide) (by decide) (by decide) (ac_12 hG C hfl V Hs len T hI hE v n nb z hv hnb (fun V' Hs' M' L' pc kk nn hk hn hd h => hend 1 M' g L' pc kk nn hk hn hd rfl ⟨⟨rfl, V', Hs', h.1, h.2⟩, rfl⟩))
  · exact r_tableIn (off := 749) (tgt := 804) C dL_acts_55 (by decide) (by decide) (by decide) (by decide) (ac_12 hG C hfl V Hs len T hI hE v n nb z hv hnb (fun V' Hs' M' L' pc kk nn hk hn hd h => hend 1 M' g L' pc kk nn hk hn hd rfl ⟨⟨rfl, V', Hs', h.1, h.2⟩, rfl⟩))
  · exact r_tableOut (tgt := 914) C dL_acts_55 (Or.inr (by decide)) (by decide) (ac_d hG C hfl V Hs len T hI hE v n nb z hv hnb (fun V' Hs' M' L' pc kk nn hk hn hd h => hend 1 M' g L' pc kk nn hk hn hd rfl ⟨⟨rfl, V', Hs', h.1, h.2⟩, rfl⟩))
  · exact r_tableOut (tgt := 914) C dL_acts_55 (Or.inr (by decide)) (by decide) (ac_d hG C hfl V Hs len T hI hE v n nb z hv hnb (fun V' Hs' M' L' pc kk nn hk hn hd h => hend 1 M' g L' pc kk nn hk hn hd rfl ⟨⟨rfl, V', Hs', h.1, h.2⟩, rfl⟩))
  · exact r_tableOut (tgt := 914) C dL_acts_55 (Or.inr (by decide)) (by decide) (ac_d hG C hfl V Hs len T hI hE v n nb z hv hnb (fun V' Hs' M' L' pc kk nn hk hn hd h => hend 1 M' g L' pc kk nn hk hn hd rfl ⟨⟨rfl, V', Hs', h.1, h.2⟩, rfl⟩))
  · exact r_tableOut (tgt := 914) C dL_acts_55 (Or.inr (by decide)) (by decide) (ac_d hG C hfl V Hs len T hI hE v n nb z hv hnb (fun V' Hs' M' L' pc kk nn hk hn hd h => hend 1 M' g L' pc kk nn hk hn hd rfl ⟨⟨rfl, V', Hs', h.1, h.2⟩, rfl⟩))
  · exact r_tableOut (tgt := 914) C dL_acts_55 (Or.inr (by decide)) (by decide) (ac_d hG C hfl V Hs len T hI hE v n nb z hv hnb (fun V' Hs' M' L' pc kk nn hk hn hd h => hend 1 M' g L' pc kk nn hk hn hd rfl ⟨⟨rfl, V', Hs', h.1, h.2⟩, rfl⟩))
  · exact r_tableOut (tgt := 914) C dL_acts_55 (Or.inr (by decide)) (by decide) (ac_d hG C hfl V Hs len T hI hE v n nb z hv hnb (fun V' Hs' M' L' pc kk nn hk hn hd h => hend 1 M' g L' pc kk nn hk hn hd rfl ⟨⟨rfl, V', Hs', h.1, h.2⟩, rfl⟩))
