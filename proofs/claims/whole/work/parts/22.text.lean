set_option maxRecDepth 20000 in
set_option maxHeartbeats 1000000 in
theorem c_X4_put (l : Launch) (G : mG) (hG : mInj G) (M : Mem) (g : Glo) (n : Nat) (hn : n < 180) (hl : M 73 1 = nI n) (x : Int32) : mcV l G yX4_put cX4_put 2 1 [.ref (mA G 73), .int x] M g (fun M' g' => M' = mset (mset M 74 n x) 73 1 (nI (n + 1)) ∧ g' = g) := by
  refine mcV_of (L0 := [(0, .ref (mA G 73)), (1, .int x)]) hG (by decide) (Nat.le_of_ble_eq_true rfl) rfl ?_
  intro p e s m args below meth c Q C hend
  refine r_aload_n C dX4_put_0 0 rfl ?_
  refine r_geti C dX4_put_1 1 f_X4_15 rfl rfl ?_
  refine r_valI (y := nI n) (hl) ?_
  refine r_sipush (v := 180) C dX4_put_4 rfl ?_
  refine r_icmp_ge (tgt := 30) C dX4_put_7 (by decide) (fun h => absurd h ((nI_ge hn (by decide) : ¬ nI 180 ≤ nI n))) (fun _ => ?_)
  refine r_aload_n C dX4_put_10 0 rfl ?_
  refine r_getr (q2 := 74) C dX4_put_11 0 f_X4_9 rfl rfl ?_
  refine r_aload_n C dX4_put_14 0 rfl ?_
  refine r_geti C dX4_put_15 1 f_X4_15 rfl rfl ?_
  refine r_valI (y := nI n) (hl) ?_
  refine r_iload_n C dX4_put_18 1 rfl ?_
  refine r_iastN (j := n) C dX4_put_19 rfl (rfl) (by omega) (by decide) ?_
  refine r_aload_n C dX4_put_20 0 rfl ?_
  refine r_dup C dX4_put_21 rfl ?_
  refine r_geti C dX4_put_22 1 f_X4_15 rfl rfl ?_
  refine r_valI (y := nI n) (by rw [mset_ne (by decide)]; exact hl) ?_
  refine r_iconst (v := 1) C dX4_put_25 rfl ?_
  refine r_iadd C dX4_put_26 ?_
  refine r_valI (y := nI (n + 1)) (nI_1 _) ?_
  refine r_puti C dX4_put_27 1 fi_X4_15 rfl rfl ?_
  exact hend _ _ _ _ dX4_put_30 (⟨rfl, rfl⟩)

set_option maxRecDepth 20000 in
set_option maxHeartbeats 1000000 in
theorem c_X4_readNumber_f (l : Launch) (G : mG) (hG : mInj G) (M : Mem) (g : Glo) (D low high en : Int32) (hf : ¬ M 73 3 = -1) : mcI l G yX4_readNumber cX4_readNumber 8 .int 1 [.ref (mA G 73), .int D, .int low, .int high, .int en] M g (fun r M' g' => r = 0 ∧ M' = M ∧ g' = g) := by
  refine mcI_of (L0 := [(0, .ref (mA G 73)), (1, .int D), (2, .int low), (3, .int high), (4, .int en)]) hG (by decide) (Nat.le_of_ble_eq_true rfl) rfl ?_
  intro p e s m args below meth c Q C hend
  refine r_aload_n C dX4_readNumber_0 0 rfl ?_
  refine r_geti C dX4_readNumber_1 3 f_X4_22 rfl rfl ?_
  refine r_iconst (v := (-1)) C dX4_readNumber_4 rfl ?_
  refine r_icmp_eq (tgt := 10) C dX4_readNumber_5 (by decide) (fun h => absurd h (hf)) (fun _ => ?_)
  refine r_iconst (v := 0) C dX4_readNumber_8 rfl ?_
  exact hend _ _ _ _ _ dX4_readNumber_9 (rfl) (⟨rfl, rfl, rfl⟩)

theorem rd_post_f {M : Mem} {g : Glo} {T : Nat → Int32} {len a D b pos : Nat} {low high en v : Int32} (h : rdN T len a D low high en = (false, v, pos)) : (v = (rdN T len a D low high en).2.1 ∧ (if (rdN T len a D low high en).1 = true then mset (mset M 73 2 (nI b)) 73 3 (nI pos) = mset M 73 2 (nI (rdN T len a D low high en).2.2) else ∃ x, mset (mset M 73 2 (nI b)) 73 3 (nI pos) = mset (mset M 73 2 x) 73 3 (nI (rdN T len a D low high en).2.2))) ∧ g = g := by
  rw [h]
  exact ⟨⟨rfl, ⟨_, rfl⟩⟩, rfl⟩
theorem rd_post_t {M : Mem} {g : Glo} {T : Nat → Int32} {len a D b : Nat} {low high en v : Int32} (h : rdN T len a D low high en = (true, v, b + 1)) : (v = (rdN T len a D low high en).2.1 ∧ (if (rdN T len a D low high en).1 = true then mset M 73 2 (nI (b + 1)) = mset M 73 2 (nI (rdN T len a D low high en).2.2) else ∃ x, mset M 73 2 (nI (b + 1)) = mset (mset M 73 2 x) 73 3 (nI (rdN T len a D low high en).2.2))) ∧ g = g := by
  rw [h]
  exact ⟨⟨rfl, rfl⟩, rfl⟩

set_option maxRecDepth 20000 in
set_option maxHeartbeats 1000000 in
theorem c_X4_readNumber (l : Launch) (G : mG) (hG : mInj G) (M : Mem) (g : Glo) (len a D : Nat) (low high en : Int32) (hlen : len ≤ 180) (hal : a ≤ len) (hD : D < 100) (hl : M 73 1 = nI len) (ha : M 73 2 = nI a) (hf : M 73 3 = -1) : mcI l G yX4_readNumber cX4_readNumber 8 .int 2 [.ref (mA G 73), .int (nI D), .int low, .int high, .int en] M g (fun r M' g' => (r = (rdN (M 74) len a D low high en).2.1 ∧ (if (rdN (M 74) len a D low high en).1 = true then M' = mset M 73 2 (nI (rdN (M 74) len a D low high en).2.2) else ∃ x, M' = mset (mset M 73 2 x) 73 3 (nI (rdN (M 74) len a D low high en).2.2))) ∧ g' = g) := by
  refine mcI_of (L0 := [(0, .ref (mA G 73)), (1, .int (nI D)), (2, .int low), (3, .int high), (4, .int en)]) hG (by decide) (Nat.le_of_ble_eq_true rfl) rfl ?_
  intro p e s m args below meth c Q C hend
  refine r_aload_n C dX4_readNumber_0 0 rfl ?_
  refine r_geti C dX4_readNumber_1 3 f_X4_22 rfl rfl ?_
  refine r_valI (y := (-1)) (hf) ?_
  refine r_iconst (v := (-1)) C dX4_readNumber_4 rfl ?_
  refine r_icmp_eq (tgt := 10) C dX4_readNumber_5 (by decide) (fun _ => ?_) (fun h => absurd (rfl) h)
  refine r_aload_n C dX4_readNumber_10 0 rfl ?_
  refine r_geti C dX4_readNumber_11 2 f_X4_19 rfl rfl ?_
  refine r_valI (y := nI a) (ha) ?_
  refine r_istore (L' := [(5, .int (nI a)), (0, .ref (mA G 73)), (1, .int (nI D)), (2, .int low), (3, .int high), (4, .int en)]) C dX4_readNumber_14 (by decide) rfl ?_
  refine r_iconst (v := 0) C dX4_readNumber_16 rfl ?_
  refine r_istore (L' := [(6, .int 0), (5, .int (nI a)), (0, .ref (mA G 73)), (1, .int (nI D)), (2, .int low), (3, .int high), (4, .int en)]) C dX4_readNumber_17 (by decide) rfl ?_
  have lp19 : ∀ (fu : Nat) (b : Nat) (v : Int32), (a ≤ b) → (b ≤ len) → (b - a ≤ D) → (numR (M 74) len (D - (b - a)) b v = numR (M 74) len D a 0) → (len - b) < fu → At p l e (rmD 2 0 0) s m args below meth c G 8 0 0 Q (mset M 73 2 (nI b)) g [(6, .int v), (5, .int (nI a)), (0, .ref (mA G 73)), (1, .int (nI D)), (2, .int low), (3, .int high), (4, .int en)] 19 [] := by
    intro fu
    induction fu with
    | zero => intro b v hab hbl0 hbD hs hfu; exact absurd hfu (Nat.not_lt_zero _)
    | succ fu ih19 =>
      intro b v hab hbl0 hbD hs hfu19
      refine r_aload_n C dX4_readNumber_19 2 rfl ?_
      refine r_geti C dX4_readNumber_20 2 f_X4_19 rfl rfl ?_
      refine r_valI (y := nI b) (by rw [mset_at, upd_at]) ?_
      refine r_aload_n C dX4_readNumber_23 2 rfl ?_
      refine r_geti C dX4_readNumber_24 1 f_X4_15 rfl rfl ?_
      refine r_valI (y := nI len) (by rw [mset_at, upd_ne (by decide)]; exact hl) ?_
      refine r_icmp_ge (tgt := 89) C dX4_readNumber_27 (by decide) (fun c27 => ?_) (fun c27 => ?_)
      ·
        have hx : numR (M 74) len D a 0 = (v, b) := by rw [← hs]; exact numR_stop (fun z => by have := le_of_le (by omega) (by omega) c27; omega)
        refine r_aload_n C dX4_readNumber_89 2 rfl ?_
        refine r_geti C dX4_readNumber_90 2 f_X4_19 rfl rfl ?_
        refine r_valI (y := nI b) (by rw [mset_at, upd_at]) ?_
        refine r_aload_n C dX4_readNumber_93 2 rfl ?_
        refine r_geti C dX4_readNumber_94 1 f_X4_15 rfl rfl ?_
        refine r_valI (y := nI len) (by rw [mset_at, upd_ne (by decide)]; exact hl) ?_
        refine r_icmp_ge (tgt := 119) C dX4_readNumber_97 (by decide) (fun c97 => ?_) (fun c97 => ?_)
        ·
          refine r_iconst (v := 0) C dX4_readNumber_119 rfl ?_
          refine r_istore (L' := [(7, .int 0), (6, .int v), (5, .int (nI a)), (0, .ref (mA G 73)), (1, .int (nI D)), (2, .int low), (3, .int high), (4, .int en)]) C dX4_readNumber_120 (by decide) rfl ?_
          refine r_aload_n C dX4_readNumber_122 3 rfl ?_
          refine r_geti C dX4_readNumber_123 2 f_X4_19 rfl rfl ?_
          refine r_valI (y := nI b) (by rw [mset_at, upd_at]) ?_
          refine r_iload C dX4_readNumber_126 2 rfl ?_
          refine r_icmp_eq (tgt := 136) C dX4_readNumber_128 (by decide) (fun c128 => ?_) (fun c128 => ?_)
          ·
            refine r_aload_n C dX4_readNumber_136 3 rfl ?_
            refine r_aload_n C dX4_readNumber_137 3 rfl ?_
            refine r_geti C dX4_readNumber_138 2 f_X4_19 rfl rfl ?_
            refine r_valI (y := nI b) (by rw [mset_at, upd_at]) ?_
            refine r_puti C dX4_readNumber_141 3 fi_X4_22 rfl rfl ?_
            refine r_goto (tgt := 214) C dX4_readNumber_144 (by decide) ?_
            refine r_mem (M' := mset (mset M 73 2 (nI b)) 73 3 (nI b)) (rfl) ?_
            refine r_iload C dX4_readNumber_214 1 rfl ?_
            exact hend _ _ _ _ _ dX4_readNumber_216 (rfl) ((rd_post_f (by rw [rdN_eq hx, if_pos (Or.inl ((nI_eq (by omega) (by omega)).mp c128))])))
          ·
            refine r_iload C dX4_readNumber_131 0 rfl ?_
            refine r_if_eq (tgt := 147) C dX4_readNumber_133 (by decide) (fun _ => ?_) (fun h => absurd (by decide) h)
            refine r_iload C dX4_readNumber_147 1 rfl ?_
            refine r_iload_n C dX4_readNumber_149 5 rfl ?_
            refine r_icmp_lt (tgt := 159) C dX4_readNumber_150 (by decide) (fun c150 => ?_) (fun c150 => ?_)
            ·
              refine r_aload_n C dX4_readNumber_159 3 rfl ?_
              refine r_iload C dX4_readNumber_160 2 rfl ?_
              refine r_puti C dX4_readNumber_162 3 fi_X4_22 rfl rfl ?_
              refine r_goto (tgt := 214) C dX4_readNumber_165 (by decide) ?_
              refine r_mem (M' := mset (mset M 73 2 (nI b)) 73 3 (nI a)) (rfl) ?_
              refine r_iload C dX4_readNumber_214 1 rfl ?_
              exact hend _ _ _ _ _ dX4_readNumber_216 (rfl) ((rd_post_f (by rw [rdN_eq hx, if_neg (fun z => z.elim (fun z => c128 (by rw [z])) (fun z => absurd z.1 (by have := le_of_le (by omega) (by omega) c97; omega))), if_pos (Or.inl c150)])))
            ·
              refine r_iload C dX4_readNumber_153 1 rfl ?_
              refine r_iload_n C dX4_readNumber_155 6 rfl ?_
              refine r_icmp_le (tgt := 168) C dX4_readNumber_156 (by decide) (fun c156 => ?_) (fun c156 => ?_)
              ·
                refine r_aload_n C dX4_readNumber_168 3 rfl ?_
                refine r_geti C dX4_readNumber_169 2 f_X4_19 rfl rfl ?_
                refine r_valI (y := nI b) (by rw [mset_at, upd_at]) ?_
                refine r_aload_n C dX4_readNumber_172 3 rfl ?_
                refine r_geti C dX4_readNumber_173 1 f_X4_15 rfl rfl ?_
                refine r_valI (y := nI len) (by rw [mset_at, upd_ne (by decide)]; exact hl) ?_
                refine r_icmp_ge (tgt := 193) C dX4_readNumber_176 (by decide) (fun c176 => ?_) (fun c176 => ?_)
                ·
                  refine r_aload_n C dX4_readNumber_193 3 rfl ?_
                  refine r_aload_n C dX4_readNumber_194 3 rfl ?_
                  refine r_geti C dX4_readNumber_195 2 f_X4_19 rfl rfl ?_
                  refine r_valI (y := nI b) (by rw [mset_at, upd_at]) ?_
                  refine r_puti C dX4_readNumber_198 3 fi_X4_22 rfl rfl ?_
                  refine r_goto (tgt := 214) C dX4_readNumber_201 (by decide) ?_
                  refine r_mem (M' := mset (mset M 73 2 (nI b)) 73 3 (nI b)) (rfl) ?_
                  refine r_iload C dX4_readNumber_214 1 rfl ?_
                  exact hend _ _ _ _ _ dX4_readNumber_216 (rfl) ((rd_post_f (by rw [rdN_eq hx, if_neg (fun z => z.elim (fun z => c128 (by rw [z])) (fun z => absurd z.1 (by have := le_of_le (by omega) (by omega) c97; omega))), if_neg (fun z => z.elim c150 (i32_nlt.mpr c156)), if_pos (Or.inl (le_of_le (by omega) (by omega) c176))])))
                ·
                  refine r_aload_n C dX4_readNumber_179 3 rfl ?_
                  refine r_getr (q2 := 74) C dX4_readNumber_180 0 f_X4_9 rfl rfl ?_
                  refine r_aload_n C dX4_readNumber_183 3 rfl ?_
                  refine r_geti C dX4_readNumber_184 2 f_X4_19 rfl rfl ?_
                  refine r_valI (y := nI b) (by rw [mset_at, upd_at]) ?_
                  refine r_ialdN (j := b) (v := M 74 b) C dX4_readNumber_187 rfl (rfl) (by have := lt_of_nle (by omega) c176; omega) (by decide) (by rw [mset_ne (by decide)]) ?_
                  refine r_iload C dX4_readNumber_188 7 rfl ?_
                  refine r_icmp_eq (tgt := 204) C dX4_readNumber_190 (by decide) (fun c190 => ?_) (fun c190 => ?_)
                  ·
                    refine r_aload_n C dX4_readNumber_204 3 rfl ?_
                    refine r_dup C dX4_readNumber_205 rfl ?_
                    refine r_geti C dX4_readNumber_206 2 f_X4_19 rfl rfl ?_
                    refine r_valI (y := nI b) (by rw [mset_at, upd_at]) ?_
                    refine r_iconst (v := 1) C dX4_readNumber_209 rfl ?_
                    refine r_iadd C dX4_readNumber_210 ?_
                    refine r_valI (y := nI (b + 1)) (nI_1 _) ?_
                    refine r_puti C dX4_readNumber_211 2 fi_X4_19 rfl rfl ?_
                    refine r_mem (M' := mset M 73 2 (nI (b + 1))) (mset_again _ _ _ _ _) ?_
                    refine r_iload C dX4_readNumber_214 1 rfl ?_
                    exact hend _ _ _ _ _ dX4_readNumber_216 (rfl) ((rd_post_t (by rw [rdN_eq hx, if_neg (fun z => z.elim (fun z => c128 (by rw [z])) (fun z => absurd z.1 (by have := le_of_le (by omega) (by omega) c97; omega))), if_neg (fun z => z.elim c150 (i32_nlt.mpr c156)), if_neg (fun z => z.elim (fun y => absurd (lt_of_nle (by omega) c176) (by omega)) (fun y => y c190))])))
                  ·
                    refine r_aload_n C dX4_readNumber_193 3 rfl ?_
                    refine r_aload_n C dX4_readNumber_194 3 rfl ?_
                    refine r_geti C dX4_readNumber_195 2 f_X4_19 rfl rfl ?_
                    refine r_valI (y := nI b) (by rw [mset_at, upd_at]) ?_
                    refine r_puti C dX4_readNumber_198 3 fi_X4_22 rfl rfl ?_
                    refine r_goto (tgt := 214) C dX4_readNumber_201 (by decide) ?_
                    refine r_mem (M' := mset (mset M 73 2 (nI b)) 73 3 (nI b)) (rfl) ?_
                    refine r_iload C dX4_readNumber_214 1 rfl ?_
                    exact hend _ _ _ _ _ dX4_readNumber_216 (rfl) ((rd_post_f (by rw [rdN_eq hx, if_neg (fun z => z.elim (fun z => c128 (by rw [z])) (fun z => absurd z.1 (by have := le_of_le (by omega) (by omega) c97; omega))), if_neg (fun z => z.elim c150 (i32_nlt.mpr c156)), if_pos (Or.inr c190)])))
              ·
                refine r_aload_n C dX4_readNumber_159 3 rfl ?_
                refine r_iload C dX4_readNumber_160 2 rfl ?_
                refine r_puti C dX4_readNumber_162 3 fi_X4_22 rfl rfl ?_
                refine r_goto (tgt := 214) C dX4_readNumber_165 (by decide) ?_
                refine r_mem (M' := mset (mset M 73 2 (nI b)) 73 3 (nI a)) (rfl) ?_
                refine r_iload C dX4_readNumber_214 1 rfl ?_
                exact hend _ _ _ _ _ dX4_readNumber_216 (rfl) ((rd_post_f (by rw [rdN_eq hx, if_neg (fun z => z.elim (fun z => c128 (by rw [z])) (fun z => absurd z.1 (by have := le_of_le (by omega) (by omega) c97; omega))), if_pos (Or.inr (i32_nle.mp c156))])))
        ·
          refine r_aload_n C dX4_readNumber_100 2 rfl ?_
          refine r_getr (q2 := 74) C dX4_readNumber_101 0 f_X4_9 rfl rfl ?_
          refine r_aload_n C dX4_readNumber_104 2 rfl ?_
          refine r_geti C dX4_readNumber_105 2 f_X4_19 rfl rfl ?_
          refine r_valI (y := nI b) (by rw [mset_at, upd_at]) ?_
          refine r_ialdN (j := b) (v := M 74 b) C dX4_readNumber_108 rfl (rfl) (by have := lt_of_nle (by omega) c97; omega) (by decide) (by rw [mset_ne (by decide)]) ?_
          refine r_callSI (As := [.int (M 74 b)]) (rest := []) C dX4_readNumber_109 s_X4_42 (c_X4_isDigit l G hG (mset M 73 2 (nI b)) g (M 74 b)) (by decide) rfl rfl (Nat.le_of_ble_eq_true rfl) (Nat.le_of_ble_eq_true rfl) (Nat.le_of_ble_eq_true rfl) (pk_I ?_)
          refine r_if_eq (tgt := 119) C dX4_readNumber_112 (by decide) (fun c112 => ?_) (fun c112 => ?_)
          ·
            refine r_iconst (v := 0) C dX4_readNumber_119 rfl ?_
            refine r_istore (L' := [(7, .int 0), (6, .int v), (5, .int (nI a)), (0, .ref (mA G 73)), (1, .int (nI D)), (2, .int low), (3, .int high), (4, .int en)]) C dX4_readNumber_120 (by decide) rfl ?_
            refine r_aload_n C dX4_readNumber_122 3 rfl ?_
            refine r_geti C dX4_readNumber_123 2 f_X4_19 rfl rfl ?_
            refine r_valI (y := nI b) (by rw [mset_at, upd_at]) ?_
            refine r_iload C dX4_readNumber_126 2 rfl ?_
            refine r_icmp_eq (tgt := 136) C dX4_readNumber_128 (by decide) (fun c128 => ?_) (fun c128 => ?_)
            ·
              refine r_aload_n C dX4_readNumber_136 3 rfl ?_
              refine r_aload_n C dX4_readNumber_137 3 rfl ?_
              refine r_geti C dX4_readNumber_138 2 f_X4_19 rfl rfl ?_
              refine r_valI (y := nI b) (by rw [mset_at, upd_at]) ?_
              refine r_puti C dX4_readNumber_141 3 fi_X4_22 rfl rfl ?_
              refine r_goto (tgt := 214) C dX4_readNumber_144 (by decide) ?_
              refine r_mem (M' := mset (mset M 73 2 (nI b)) 73 3 (nI b)) (rfl) ?_
              refine r_iload C dX4_readNumber_214 1 rfl ?_
              exact hend _ _ _ _ _ dX4_readNumber_216 (rfl) ((rd_post_f (by rw [rdN_eq hx, if_pos (Or.inl ((nI_eq (by omega) (by omega)).mp c128))])))
            ·
              refine r_iload C dX4_readNumber_131 0 rfl ?_
              refine r_if_eq (tgt := 147) C dX4_readNumber_133 (by decide) (fun _ => ?_) (fun h => absurd (by decide) h)
              refine r_iload C dX4_readNumber_147 1 rfl ?_
              refine r_iload_n C dX4_readNumber_149 5 rfl ?_
              refine r_icmp_lt (tgt := 159) C dX4_readNumber_150 (by decide) (fun c150 => ?_) (fun c150 => ?_)
              ·
                refine r_aload_n C dX4_readNumber_159 3 rfl ?_
                refine r_iload C dX4_readNumber_160 2 rfl ?_
                refine r_puti C dX4_readNumber_162 3 fi_X4_22 rfl rfl ?_
                refine r_goto (tgt := 214) C dX4_readNumber_165 (by decide) ?_
                refine r_mem (M' := mset (mset M 73 2 (nI b)) 73 3 (nI a)) (rfl) ?_
                refine r_iload C dX4_readNumber_214 1 rfl ?_
                exact hend _ _ _ _ _ dX4_readNumber_216 (rfl) ((rd_post_f (by rw [rdN_eq hx, if_neg (fun z => z.elim (fun z => c128 (by rw [z])) (fun z => absurd (z.2.symm.trans (b2i_0.mp c112)) (by decide))), if_pos (Or.inl c150)])))
              ·
                refine r_iload C dX4_readNumber_153 1 rfl ?_
                refine r_iload_n C dX4_readNumber_155 6 rfl ?_
                refine r_icmp_le (tgt := 168) C dX4_readNumber_156 (by decide) (fun c156 => ?_) (fun c156 => ?_)
                ·
                  refine r_aload_n C dX4_readNumber_168 3 rfl ?_
                  refine r_geti C dX4_readNumber_169 2 f_X4_19 rfl rfl ?_
                  refine r_valI (y := nI b) (by rw [mset_at, upd_at]) ?_
                  refine r_aload_n C dX4_readNumber_172 3 rfl ?_
                  refine r_geti C dX4_readNumber_173 1 f_X4_15 rfl rfl ?_
                  refine r_valI (y := nI len) (by rw [mset_at, upd_ne (by decide)]; exact hl) ?_
                  refine r_icmp_ge (tgt := 193) C dX4_readNumber_176 (by decide) (fun c176 => ?_) (fun c176 => ?_)
                  ·
                    refine r_aload_n C dX4_readNumber_193 3 rfl ?_
                    refine r_aload_n C dX4_readNumber_194 3 rfl ?_
                    refine r_geti C dX4_readNumber_195 2 f_X4_19 rfl rfl ?_
                    refine r_valI (y := nI b) (by rw [mset_at, upd_at]) ?_
                    refine r_puti C dX4_readNumber_198 3 fi_X4_22 rfl rfl ?_
                    refine r_goto (tgt := 214) C dX4_readNumber_201 (by decide) ?_
                    refine r_mem (M' := mset (mset M 73 2 (nI b)) 73 3 (nI b)) (rfl) ?_
                    refine r_iload C dX4_readNumber_214 1 rfl ?_
                    exact hend _ _ _ _ _ dX4_readNumber_216 (rfl) ((rd_post_f (by rw [rdN_eq hx, if_neg (fun z => z.elim (fun z => c128 (by rw [z])) (fun z => absurd (z.2.symm.trans (b2i_0.mp c112)) (by decide))), if_neg (fun z => z.elim c150 (i32_nlt.mpr c156)), if_pos (Or.inl (le_of_le (by omega) (by omega) c176))])))
                  ·
                    refine r_aload_n C dX4_readNumber_179 3 rfl ?_
                    refine r_getr (q2 := 74) C dX4_readNumber_180 0 f_X4_9 rfl rfl ?_
                    refine r_aload_n C dX4_readNumber_183 3 rfl ?_
                    refine r_geti C dX4_readNumber_184 2 f_X4_19 rfl rfl ?_
                    refine r_valI (y := nI b) (by rw [mset_at, upd_at]) ?_
                    refine r_ialdN (j := b) (v := M 74 b) C dX4_readNumber_187 rfl (rfl) (by have := lt_of_nle (by omega) c176; omega) (by decide) (by rw [mset_ne (by decide)]) ?_
                    refine r_iload C dX4_readNumber_188 7 rfl ?_
                    refine r_icmp_eq (tgt := 204) C dX4_readNumber_190 (by decide) (fun c190 => ?_) (fun c190 => ?_)
                    ·
                      refine r_aload_n C dX4_readNumber_204 3 rfl ?_
                      refine r_dup C dX4_readNumber_205 rfl ?_
                      refine r_geti C dX4_readNumber_206 2 f_X4_19 rfl rfl ?_
                      refine r_valI (y := nI b) (by rw [mset_at, upd_at]) ?_
                      refine r_iconst (v := 1) C dX4_readNumber_209 rfl ?_
                      refine r_iadd C dX4_readNumber_210 ?_
                      refine r_valI (y := nI (b + 1)) (nI_1 _) ?_
                      refine r_puti C dX4_readNumber_211 2 fi_X4_19 rfl rfl ?_
                      refine r_mem (M' := mset M 73 2 (nI (b + 1))) (mset_again _ _ _ _ _) ?_
                      refine r_iload C dX4_readNumber_214 1 rfl ?_
                      exact hend _ _ _ _ _ dX4_readNumber_216 (rfl) ((rd_post_t (by rw [rdN_eq hx, if_neg (fun z => z.elim (fun z => c128 (by rw [z])) (fun z => absurd (z.2.symm.trans (b2i_0.mp c112)) (by decide))), if_neg (fun z => z.elim c150 (i32_nlt.mpr c156)), if_neg (fun z => z.elim (fun y => absurd (lt_of_nle (by omega) c176) (by omega)) (fun y => y c190))])))
                    ·
                      refine r_aload_n C dX4_readNumber_193 3 rfl ?_
                      refine r_aload_n C dX4_readNumber_194 3 rfl ?_
                      refine r_geti C dX4_readNumber_195 2 f_X4_19 rfl rfl ?_
                      refine r_valI (y := nI b) (by rw [mset_at, upd_at]) ?_
                      refine r_puti C dX4_readNumber_198 3 fi_X4_22 rfl rfl ?_
                      refine r_goto (tgt := 214) C dX4_readNumber_201 (by decide) ?_
                      refine r_mem (M' := mset (mset M 73 2 (nI b)) 73 3 (nI b)) (rfl) ?_
                      refine r_iload C dX4_readNumber_214 1 rfl ?_
                      exact hend _ _ _ _ _ dX4_readNumber_216 (rfl) ((rd_post_f (by rw [rdN_eq hx, if_neg (fun z => z.elim (fun z => c128 (by rw [z])) (fun z => absurd (z.2.symm.trans (b2i_0.mp c112)) (by decide))), if_neg (fun z => z.elim c150 (i32_nlt.mpr c156)), if_pos (Or.inr c190)])))
                ·
                  refine r_aload_n C dX4_readNumber_159 3 rfl ?_
                  refine r_iload C dX4_readNumber_160 2 rfl ?_
                  refine r_puti C dX4_readNumber_162 3 fi_X4_22 rfl rfl ?_
                  refine r_goto (tgt := 214) C dX4_readNumber_165 (by decide) ?_
                  refine r_mem (M' := mset (mset M 73 2 (nI b)) 73 3 (nI a)) (rfl) ?_
                  refine r_iload C dX4_readNumber_214 1 rfl ?_
                  exact hend _ _ _ _ _ dX4_readNumber_216 (rfl) ((rd_post_f (by rw [rdN_eq hx, if_neg (fun z => z.elim (fun z => c128 (by rw [z])) (fun z => absurd (z.2.symm.trans (b2i_0.mp c112)) (by decide))), if_pos (Or.inr (i32_nle.mp c156))])))
          ·
            refine r_iconst (v := 1) C dX4_readNumber_115 rfl ?_
            refine r_goto (tgt := 120) C dX4_readNumber_116 (by decide) ?_
            refine r_istore (L' := [(7, .int 1), (6, .int v), (5, .int (nI a)), (0, .ref (mA G 73)), (1, .int (nI D)), (2, .int low), (3, .int high), (4, .int en)]) C dX4_readNumber_120 (by decide) rfl ?_
            refine r_aload_n C dX4_readNumber_122 3 rfl ?_
            refine r_geti C dX4_readNumber_123 2 f_X4_19 rfl rfl ?_
            refine r_valI (y := nI b) (by rw [mset_at, upd_at]) ?_
            refine r_iload C dX4_readNumber_126 2 rfl ?_
            refine r_icmp_eq (tgt := 136) C dX4_readNumber_128 (by decide) (fun c128 => ?_) (fun c128 => ?_)
            ·
              refine r_aload_n C dX4_readNumber_136 3 rfl ?_
              refine r_aload_n C dX4_readNumber_137 3 rfl ?_
              refine r_geti C dX4_readNumber_138 2 f_X4_19 rfl rfl ?_
              refine r_valI (y := nI b) (by rw [mset_at, upd_at]) ?_
              refine r_puti C dX4_readNumber_141 3 fi_X4_22 rfl rfl ?_
              refine r_goto (tgt := 214) C dX4_readNumber_144 (by decide) ?_
              refine r_mem (M' := mset (mset M 73 2 (nI b)) 73 3 (nI b)) (rfl) ?_
              refine r_iload C dX4_readNumber_214 1 rfl ?_
              exact hend _ _ _ _ _ dX4_readNumber_216 (rfl) ((rd_post_f (by rw [rdN_eq hx, if_pos (Or.inl ((nI_eq (by omega) (by omega)).mp c128))])))
            ·
              refine r_iload C dX4_readNumber_131 0 rfl ?_
              refine r_if_eq (tgt := 147) C dX4_readNumber_133 (by decide) (fun h => absurd h (by decide)) (fun _ => ?_)
              refine r_aload_n C dX4_readNumber_136 3 rfl ?_
              refine r_aload_n C dX4_readNumber_137 3 rfl ?_
              refine r_geti C dX4_readNumber_138 2 f_X4_19 rfl rfl ?_
              refine r_valI (y := nI b) (by rw [mset_at, upd_at]) ?_
              refine r_puti C dX4_readNumber_141 3 fi_X4_22 rfl rfl ?_
              refine r_goto (tgt := 214) C dX4_readNumber_144 (by decide) ?_
              refine r_mem (M' := mset (mset M 73 2 (nI b)) 73 3 (nI b)) (rfl) ?_
              refine r_iload C dX4_readNumber_214 1 rfl ?_
              exact hend _ _ _ _ _ dX4_readNumber_216 (rfl) ((rd_post_f (by rw [rdN_eq hx, if_pos (Or.inr ⟨lt_of_nle (by omega) c97, b2i_1.mp c112⟩)])))
      ·
        have hbl : b < len := lt_of_nle (by omega) c27
        refine r_aload_n C dX4_readNumber_30 2 rfl ?_
        refine r_getr (q2 := 74) C dX4_readNumber_31 0 f_X4_9 rfl rfl ?_
        refine r_aload_n C dX4_readNumber_34 2 rfl ?_
        refine r_geti C dX4_readNumber_35 2 f_X4_19 rfl rfl ?_
        refine r_valI (y := nI b) (by rw [mset_at, upd_at]) ?_
        refine r_ialdN (j := b) (v := M 74 b) C dX4_readNumber_38 rfl (rfl) (by omega) (by decide) (by rw [mset_ne (by decide)]) ?_
        refine r_callSI (As := [.int (M 74 b)]) (rest := []) C dX4_readNumber_39 s_X4_42 (c_X4_isDigit l G hG (mset M 73 2 (nI b)) g (M 74 b)) (by decide) rfl rfl (Nat.le_of_ble_eq_true rfl) (Nat.le_of_ble_eq_true rfl) (Nat.le_of_ble_eq_true rfl) (pk_I ?_)
        refine r_if_eq (tgt := 89) C dX4_readNumber_42 (by decide) (fun c42 => ?_) (fun c42 => ?_)
        ·
          have hx : numR (M 74) len D a 0 = (v, b) := by rw [← hs]; exact numR_stop (fun z => absurd (z.2.symm.trans (b2i_0.mp c42)) (by decide))
          refine r_aload_n C dX4_readNumber_89 2 rfl ?_
          refine r_geti C dX4_readNumber_90 2 f_X4_19 rfl rfl ?_
          refine r_valI (y := nI b) (by rw [mset_at, upd_at]) ?_
          refine r_aload_n C dX4_readNumber_93 2 rfl ?_
          refine r_geti C dX4_readNumber_94 1 f_X4_15 rfl rfl ?_
          refine r_valI (y := nI len) (by rw [mset_at, upd_ne (by decide)]; exact hl) ?_
          refine r_icmp_ge (tgt := 119) C dX4_readNumber_97 (by decide) (fun c97 => ?_) (fun c97 => ?_)
          ·
            refine r_iconst (v := 0) C dX4_readNumber_119 rfl ?_
            refine r_istore (L' := [(7, .int 0), (6, .int v), (5, .int (nI a)), (0, .ref (mA G 73)), (1, .int (nI D)), (2, .int low), (3, .int high), (4, .int en)]) C dX4_readNumber_120 (by decide) rfl ?_
            refine r_aload_n C dX4_readNumber_122 3 rfl ?_
            refine r_geti C dX4_readNumber_123 2 f_X4_19 rfl rfl ?_
            refine r_valI (y := nI b) (by rw [mset_at, upd_at]) ?_
            refine r_iload C dX4_readNumber_126 2 rfl ?_
            refine r_icmp_eq (tgt := 136) C dX4_readNumber_128 (by decide) (fun c128 => ?_) (fun c128 => ?_)
            ·
              refine r_aload_n C dX4_readNumber_136 3 rfl ?_
              refine r_aload_n C dX4_readNumber_137 3 rfl ?_
              refine r_geti C dX4_readNumber_138 2 f_X4_19 rfl rfl ?_
              refine r_valI (y := nI b) (by rw [mset_at, upd_at]) ?_
              refine r_puti C dX4_readNumber_141 3 fi_X4_22 rfl rfl ?_
              refine r_goto (tgt := 214) C dX4_readNumber_144 (by decide) ?_
              refine r_mem (M' := mset (mset M 73 2 (nI b)) 73 3 (nI b)) (rfl) ?_
              refine r_iload C dX4_readNumber_214 1 rfl ?_
              exact hend _ _ _ _ _ dX4_readNumber_216 (rfl) ((rd_post_f (by rw [rdN_eq hx, if_pos (Or.inl ((nI_eq (by omega) (by omega)).mp c128))])))
            ·
              refine r_iload C dX4_readNumber_131 0 rfl ?_
              refine r_if_eq (tgt := 147) C dX4_readNumber_133 (by decide) (fun _ => ?_) (fun h => absurd (by decide) h)
              refine r_iload C dX4_readNumber_147 1 rfl ?_
              refine r_iload_n C dX4_readNumber_149 5 rfl ?_
              refine r_icmp_lt (tgt := 159) C dX4_readNumber_150 (by decide) (fun c150 => ?_) (fun c150 => ?_)
              ·
                refine r_aload_n C dX4_readNumber_159 3 rfl ?_
                refine r_iload C dX4_readNumber_160 2 rfl ?_
                refine r_puti C dX4_readNumber_162 3 fi_X4_22 rfl rfl ?_
                refine r_goto (tgt := 214) C dX4_readNumber_165 (by decide) ?_
                refine r_mem (M' := mset (mset M 73 2 (nI b)) 73 3 (nI a)) (rfl) ?_
                refine r_iload C dX4_readNumber_214 1 rfl ?_
                exact hend _ _ _ _ _ dX4_readNumber_216 (rfl) ((rd_post_f (by rw [rdN_eq hx, if_neg (fun z => z.elim (fun z => c128 (by rw [z])) (fun z => absurd z.1 (by have := le_of_le (by omega) (by omega) c97; omega))), if_pos (Or.inl c150)])))
              ·
                refine r_iload C dX4_readNumber_153 1 rfl ?_
                refine r_iload_n C dX4_readNumber_155 6 rfl ?_
                refine r_icmp_le (tgt := 168) C dX4_readNumber_156 (by decide) (fun c156 => ?_) (fun c156 => ?_)
                ·
                  refine r_aload_n C dX4_readNumber_168 3 rfl ?_
                  refine r_geti C dX4_readNumber_169 2 f_X4_19 rfl rfl ?_
                  refine r_valI (y := nI b) (by rw [mset_at, upd_at]) ?_
                  refine r_aload_n C dX4_readNumber_172 3 rfl ?_
                  refine r_geti C dX4_readNumber_173 1 f_X4_15 rfl rfl ?_
                  refine r_valI (y := nI len) (by rw [mset_at, upd_ne (by decide)]; exact hl) ?_
                  refine r_icmp_ge (tgt := 193) C dX4_readNumber_176 (by decide) (fun c176 => ?_) (fun c176 => ?_)
                  ·
                    refine r_aload_n C dX4_readNumber_193 3 rfl ?_
                    refine r_aload_n C dX4_readNumber_194 3 rfl ?_
                    refine r_geti C dX4_readNumber_195 2 f_X4_19 rfl rfl ?_
                    refine r_valI (y := nI b) (by rw [mset_at, upd_at]) ?_
                    refine r_puti C dX4_readNumber_198 3 fi_X4_22 rfl rfl ?_
                    refine r_goto (tgt := 214) C dX4_readNumber_201 (by decide) ?_
                    refine r_mem (M' := mset (mset M 73 2 (nI b)) 73 3 (nI b)) (rfl) ?_
                    refine r_iload C dX4_readNumber_214 1 rfl ?_
                    exact hend _ _ _ _ _ dX4_readNumber_216 (rfl) ((rd_post_f (by rw [rdN_eq hx, if_neg (fun z => z.elim (fun z => c128 (by rw [z])) (fun z => absurd z.1 (by have := le_of_le (by omega) (by omega) c97; omega))), if_neg (fun z => z.elim c150 (i32_nlt.mpr c156)), if_pos (Or.inl (le_of_le (by omega) (by omega) c176))])))
                  ·
                    refine r_aload_n C dX4_readNumber_179 3 rfl ?_
                    refine r_getr (q2 := 74) C dX4_readNumber_180 0 f_X4_9 rfl rfl ?_
                    refine r_aload_n C dX4_readNumber_183 3 rfl ?_
                    refine r_geti C dX4_readNumber_184 2 f_X4_19 rfl rfl ?_
                    refine r_valI (y := nI b) (by rw [mset_at, upd_at]) ?_
                    refine r_ialdN (j := b) (v := M 74 b) C dX4_readNumber_187 rfl (rfl) (by have := lt_of_nle (by omega) c176; omega) (by decide) (by rw [mset_ne (by decide)]) ?_
                    refine r_iload C dX4_readNumber_188 7 rfl ?_
                    refine r_icmp_eq (tgt := 204) C dX4_readNumber_190 (by decide) (fun c190 => ?_) (fun c190 => ?_)
                    ·
                      refine r_aload_n C dX4_readNumber_204 3 rfl ?_
                      refine r_dup C dX4_readNumber_205 rfl ?_
                      refine r_geti C dX4_readNumber_206 2 f_X4_19 rfl rfl ?_
                      refine r_valI (y := nI b) (by rw [mset_at, upd_at]) ?_
                      refine r_iconst (v := 1) C dX4_readNumber_209 rfl ?_
                      refine r_iadd C dX4_readNumber_210 ?_
                      refine r_valI (y := nI (b + 1)) (nI_1 _) ?_
                      refine r_puti C dX4_readNumber_211 2 fi_X4_19 rfl rfl ?_
                      refine r_mem (M' := mset M 73 2 (nI (b + 1))) (mset_again _ _ _ _ _) ?_
                      refine r_iload C dX4_readNumber_214 1 rfl ?_
                      exact hend _ _ _ _ _ dX4_readNumber_216 (rfl) ((rd_post_t (by rw [rdN_eq hx, if_neg (fun z => z.elim (fun z => c128 (by rw [z])) (fun z => absurd z.1 (by have := le_of_le (by omega) (by omega) c97; omega))), if_neg (fun z => z.elim c150 (i32_nlt.mpr c156)), if_neg (fun z => z.elim (fun y => absurd (lt_of_nle (by omega) c176) (by omega)) (fun y => y c190))])))
                    ·
                      refine r_aload_n C dX4_readNumber_193 3 rfl ?_
                      refine r_aload_n C dX4_readNumber_194 3 rfl ?_
                      refine r_geti C dX4_readNumber_195 2 f_X4_19 rfl rfl ?_
                      refine r_valI (y := nI b) (by rw [mset_at, upd_at]) ?_
                      refine r_puti C dX4_readNumber_198 3 fi_X4_22 rfl rfl ?_
                      refine r_goto (tgt := 214) C dX4_readNumber_201 (by decide) ?_
                      refine r_mem (M' := mset (mset M 73 2 (nI b)) 73 3 (nI b)) (rfl) ?_
                      refine r_iload C dX4_readNumber_214 1 rfl ?_
                      exact hend _ _ _ _ _ dX4_readNumber_216 (rfl) ((rd_post_f (by rw [rdN_eq hx, if_neg (fun z => z.elim (fun z => c128 (by rw [z])) (fun z => absurd z.1 (by have := le_of_le (by omega) (by omega) c97; omega))), if_neg (fun z => z.elim c150 (i32_nlt.mpr c156)), if_pos (Or.inr c190)])))
                ·
                  refine r_aload_n C dX4_readNumber_159 3 rfl ?_
                  refine r_iload C dX4_readNumber_160 2 rfl ?_
                  refine r_puti C dX4_readNumber_162 3 fi_X4_22 rfl rfl ?_
                  refine r_goto (tgt := 214) C dX4_readNumber_165 (by decide) ?_
                  refine r_mem (M' := mset (mset M 73 2 (nI b)) 73 3 (nI a)) (rfl) ?_
                  refine r_iload C dX4_readNumber_214 1 rfl ?_
                  exact hend _ _ _ _ _ dX4_readNumber_216 (rfl) ((rd_post_f (by rw [rdN_eq hx, if_neg (fun z => z.elim (fun z => c128 (by rw [z])) (fun z => absurd z.1 (by have := le_of_le (by omega) (by omega) c97; omega))), if_pos (Or.inr (i32_nle.mp c156))])))
          ·
            refine r_aload_n C dX4_readNumber_100 2 rfl ?_
            refine r_getr (q2 := 74) C dX4_readNumber_101 0 f_X4_9 rfl rfl ?_
            refine r_aload_n C dX4_readNumber_104 2 rfl ?_
            refine r_geti C dX4_readNumber_105 2 f_X4_19 rfl rfl ?_
            refine r_valI (y := nI b) (by rw [mset_at, upd_at]) ?_
            refine r_ialdN (j := b) (v := M 74 b) C dX4_readNumber_108 rfl (rfl) (by have := lt_of_nle (by omega) c97; omega) (by decide) (by rw [mset_ne (by decide)]) ?_
            refine r_callSI (As := [.int (M 74 b)]) (rest := []) C dX4_readNumber_109 s_X4_42 (c_X4_isDigit l G hG (mset M 73 2 (nI b)) g (M 74 b)) (by decide) rfl rfl (Nat.le_of_ble_eq_true rfl) (Nat.le_of_ble_eq_true rfl) (Nat.le_of_ble_eq_true rfl) (pk_I ?_)
            refine r_if_eq (tgt := 119) C dX4_readNumber_112 (by decide) (fun c112 => ?_) (fun c112 => ?_)
            ·
              refine r_iconst (v := 0) C dX4_readNumber_119 rfl ?_
              refine r_istore (L' := [(7, .int 0), (6, .int v), (5, .int (nI a)), (0, .ref (mA G 73)), (1, .int (nI D)), (2, .int low), (3, .int high), (4, .int en)]) C dX4_readNumber_120 (by decide) rfl ?_
              refine r_aload_n C dX4_readNumber_122 3 rfl ?_
              refine r_geti C dX4_readNumber_123 2 f_X4_19 rfl rfl ?_
              refine r_valI (y := nI b) (by rw [mset_at, upd_at]) ?_
              refine r_iload C dX4_readNumber_126 2 rfl ?_
              refine r_icmp_eq (tgt := 136) C dX4_readNumber_128 (by decide) (fun c128 => ?_) (fun c128 => ?_)
              ·
                refine r_aload_n C dX4_readNumber_136 3 rfl ?_
                refine r_aload_n C dX4_readNumber_137 3 rfl ?_
                refine r_geti C dX4_readNumber_138 2 f_X4_19 rfl rfl ?_
                refine r_valI (y := nI b) (by rw [mset_at, upd_at]) ?_
                refine r_puti C dX4_readNumber_141 3 fi_X4_22 rfl rfl ?_
                refine r_goto (tgt := 214) C dX4_readNumber_144 (by decide) ?_
                refine r_mem (M' := mset (mset M 73 2 (nI b)) 73 3 (nI b)) (rfl) ?_
                refine r_iload C dX4_readNumber_214 1 rfl ?_
                exact hend _ _ _ _ _ dX4_readNumber_216 (rfl) ((rd_post_f (by rw [rdN_eq hx, if_pos (Or.inl ((nI_eq (by omega) (by omega)).mp c128))])))
              ·
                refine r_iload C dX4_readNumber_131 0 rfl ?_
                refine r_if_eq (tgt := 147) C dX4_readNumber_133 (by decide) (fun _ => ?_) (fun h => absurd (by decide) h)
                refine r_iload C dX4_readNumber_147 1 rfl ?_
                refine r_iload_n C dX4_readNumber_149 5 rfl ?_
                refine r_icmp_lt (tgt := 159) C dX4_readNumber_150 (by decide) (fun c150 => ?_) (fun c150 => ?_)
                ·
                  refine r_aload_n C dX4_readNumber_159 3 rfl ?_
                  refine r_iload C dX4_readNumber_160 2 rfl ?_
                  refine r_puti C dX4_readNumber_162 3 fi_X4_22 rfl rfl ?_
                  refine r_goto (tgt := 214) C dX4_readNumber_165 (by decide) ?_
                  refine r_mem (M' := mset (mset M 73 2 (nI b)) 73 3 (nI a)) (rfl) ?_
                  refine r_iload C dX4_readNumber_214 1 rfl ?_
                  exact hend _ _ _ _ _ dX4_readNumber_216 (rfl) ((rd_post_f (by rw [rdN_eq hx, if_neg (fun z => z.elim (fun z => c128 (by rw [z])) (fun z => absurd (z.2.symm.trans (b2i_0.mp c112)) (by decide))), if_pos (Or.inl c150)])))
                ·
                  refine r_iload C dX4_readNumber_153 1 rfl ?_
                  refine r_iload_n C dX4_readNumber_155 6 rfl ?_
                  refine r_icmp_le (tgt := 168) C dX4_readNumber_156 (by decide) (fun c156 => ?_) (fun c156 => ?_)
                  ·
                    refine r_aload_n C dX4_readNumber_168 3 rfl ?_
                    refine r_geti C dX4_readNumber_169 2 f_X4_19 rfl rfl ?_
                    refine r_valI (y := nI b) (by rw [mset_at, upd_at]) ?_
                    refine r_aload_n C dX4_readNumber_172 3 rfl ?_
                    refine r_geti C dX4_readNumber_173 1 f_X4_15 rfl rfl ?_
                    refine r_valI (y := nI len) (by rw [mset_at, upd_ne (by decide)]; exact hl) ?_
                    refine r_icmp_ge (tgt := 193) C dX4_readNumber_176 (by decide) (fun c176 => ?_) (fun c176 => ?_)
                    ·
                      refine r_aload_n C dX4_readNumber_193 3 rfl ?_
                      refine r_aload_n C dX4_readNumber_194 3 rfl ?_
                      refine r_geti C dX4_readNumber_195 2 f_X4_19 rfl rfl ?_
                      refine r_valI (y := nI b) (by rw [mset_at, upd_at]) ?_
                      refine r_puti C dX4_readNumber_198 3 fi_X4_22 rfl rfl ?_
                      refine r_goto (tgt := 214) C dX4_readNumber_201 (by decide) ?_
                      refine r_mem (M' := mset (mset M 73 2 (nI b)) 73 3 (nI b)) (rfl) ?_
                      refine r_iload C dX4_readNumber_214 1 rfl ?_
                      exact hend _ _ _ _ _ dX4_readNumber_216 (rfl) ((rd_post_f (by rw [rdN_eq hx, if_neg (fun z => z.elim (fun z => c128 (by rw [z])) (fun z => absurd (z.2.symm.trans (b2i_0.mp c112)) (by decide))), if_neg (fun z => z.elim c150 (i32_nlt.mpr c156)), if_pos (Or.inl (le_of_le (by omega) (by omega) c176))])))
                    ·
                      refine r_aload_n C dX4_readNumber_179 3 rfl ?_
                      refine r_getr (q2 := 74) C dX4_readNumber_180 0 f_X4_9 rfl rfl ?_
                      refine r_aload_n C dX4_readNumber_183 3 rfl ?_
                      refine r_geti C dX4_readNumber_184 2 f_X4_19 rfl rfl ?_
                      refine r_valI (y := nI b) (by rw [mset_at, upd_at]) ?_
                      refine r_ialdN (j := b) (v := M 74 b) C dX4_readNumber_187 rfl (rfl) (by have := lt_of_nle (by omega) c176; omega) (by decide) (by rw [mset_ne (by decide)]) ?_
                      refine r_iload C dX4_readNumber_188 7 rfl ?_
                      refine r_icmp_eq (tgt := 204) C dX4_readNumber_190 (by decide) (fun c190 => ?_) (fun c190 => ?_)
                      ·
                        refine r_aload_n C dX4_readNumber_204 3 rfl ?_
                        refine r_dup C dX4_readNumber_205 rfl ?_
                        refine r_geti C dX4_readNumber_206 2 f_X4_19 rfl rfl ?_
                        refine r_valI (y := nI b) (by rw [mset_at, upd_at]) ?_
                        refine r_iconst (v := 1) C dX4_readNumber_209 rfl ?_
                        refine r_iadd C dX4_readNumber_210 ?_
                        refine r_valI (y := nI (b + 1)) (nI_1 _) ?_
                        refine r_puti C dX4_readNumber_211 2 fi_X4_19 rfl rfl ?_
                        refine r_mem (M' := mset M 73 2 (nI (b + 1))) (mset_again _ _ _ _ _) ?_
                        refine r_iload C dX4_readNumber_214 1 rfl ?_
                        exact hend _ _ _ _ _ dX4_readNumber_216 (rfl) ((rd_post_t (by rw [rdN_eq hx, if_neg (fun z => z.elim (fun z => c128 (by rw [z])) (fun z => absurd (z.2.symm.trans (b2i_0.mp c112)) (by decide))), if_neg (fun z => z.elim c150 (i32_nlt.mpr c156)), if_neg (fun z => z.elim (fun y => absurd (lt_of_nle (by omega) c176) (by omega)) (fun y => y c190))])))
                      ·
                        refine r_aload_n C dX4_readNumber_193 3 rfl ?_
                        refine r_aload_n C dX4_readNumber_194 3 rfl ?_
                        refine r_geti C dX4_readNumber_195 2 f_X4_19 rfl rfl ?_
                        refine r_valI (y := nI b) (by rw [mset_at, upd_at]) ?_
                        refine r_puti C dX4_readNumber_198 3 fi_X4_22 rfl rfl ?_
                        refine r_goto (tgt := 214) C dX4_readNumber_201 (by decide) ?_
                        refine r_mem (M' := mset (mset M 73 2 (nI b)) 73 3 (nI b)) (rfl) ?_
                        refine r_iload C dX4_readNumber_214 1 rfl ?_
                        exact hend _ _ _ _ _ dX4_readNumber_216 (rfl) ((rd_post_f (by rw [rdN_eq hx, if_neg (fun z => z.elim (fun z => c128 (by rw [z])) (fun z => absurd (z.2.symm.trans (b2i_0.mp c112)) (by decide))), if_neg (fun z => z.elim c150 (i32_nlt.mpr c156)), if_pos (Or.inr c190)])))
                  ·
                    refine r_aload_n C dX4_readNumber_159 3 rfl ?_
                    refine r_iload C dX4_readNumber_160 2 rfl ?_
                    refine r_puti C dX4_readNumber_162 3 fi_X4_22 rfl rfl ?_
                    refine r_goto (tgt := 214) C dX4_readNumber_165 (by decide) ?_
                    refine r_mem (M' := mset (mset M 73 2 (nI b)) 73 3 (nI a)) (rfl) ?_
                    refine r_iload C dX4_readNumber_214 1 rfl ?_
                    exact hend _ _ _ _ _ dX4_readNumber_216 (rfl) ((rd_post_f (by rw [rdN_eq hx, if_neg (fun z => z.elim (fun z => c128 (by rw [z])) (fun z => absurd (z.2.symm.trans (b2i_0.mp c112)) (by decide))), if_pos (Or.inr (i32_nle.mp c156))])))
            ·
              refine r_iconst (v := 1) C dX4_readNumber_115 rfl ?_
              refine r_goto (tgt := 120) C dX4_readNumber_116 (by decide) ?_
              refine r_istore (L' := [(7, .int 1), (6, .int v), (5, .int (nI a)), (0, .ref (mA G 73)), (1, .int (nI D)), (2, .int low), (3, .int high), (4, .int en)]) C dX4_readNumber_120 (by decide) rfl ?_
              refine r_aload_n C dX4_readNumber_122 3 rfl ?_
              refine r_geti C dX4_readNumber_123 2 f_X4_19 rfl rfl ?_
              refine r_valI (y := nI b) (by rw [mset_at, upd_at]) ?_
              refine r_iload C dX4_readNumber_126 2 rfl ?_
              refine r_icmp_eq (tgt := 136) C dX4_readNumber_128 (by decide) (fun c128 => ?_) (fun c128 => ?_)
              ·
                refine r_aload_n C dX4_readNumber_136 3 rfl ?_
                refine r_aload_n C dX4_readNumber_137 3 rfl ?_
                refine r_geti C dX4_readNumber_138 2 f_X4_19 rfl rfl ?_
                refine r_valI (y := nI b) (by rw [mset_at, upd_at]) ?_
                refine r_puti C dX4_readNumber_141 3 fi_X4_22 rfl rfl ?_
                refine r_goto (tgt := 214) C dX4_readNumber_144 (by decide) ?_
                refine r_mem (M' := mset (mset M 73 2 (nI b)) 73 3 (nI b)) (rfl) ?_
                refine r_iload C dX4_readNumber_214 1 rfl ?_
                exact hend _ _ _ _ _ dX4_readNumber_216 (rfl) ((rd_post_f (by rw [rdN_eq hx, if_pos (Or.inl ((nI_eq (by omega) (by omega)).mp c128))])))
              ·
                refine r_iload C dX4_readNumber_131 0 rfl ?_
                refine r_if_eq (tgt := 147) C dX4_readNumber_133 (by decide) (fun h => absurd h (by decide)) (fun _ => ?_)
                refine r_aload_n C dX4_readNumber_136 3 rfl ?_
                refine r_aload_n C dX4_readNumber_137 3 rfl ?_
                refine r_geti C dX4_readNumber_138 2 f_X4_19 rfl rfl ?_
                refine r_valI (y := nI b) (by rw [mset_at, upd_at]) ?_
                refine r_puti C dX4_readNumber_141 3 fi_X4_22 rfl rfl ?_
                refine r_goto (tgt := 214) C dX4_readNumber_144 (by decide) ?_
                refine r_mem (M' := mset (mset M 73 2 (nI b)) 73 3 (nI b)) (rfl) ?_
                refine r_iload C dX4_readNumber_214 1 rfl ?_
                exact hend _ _ _ _ _ dX4_readNumber_216 (rfl) ((rd_post_f (by rw [rdN_eq hx, if_pos (Or.inr ⟨lt_of_nle (by omega) c97, b2i_1.mp c112⟩)])))
        ·
          refine r_aload_n C dX4_readNumber_45 2 rfl ?_
          refine r_geti C dX4_readNumber_46 2 f_X4_19 rfl rfl ?_
          refine r_valI (y := nI b) (by rw [mset_at, upd_at]) ?_
          refine r_iload C dX4_readNumber_49 1 rfl ?_
          refine r_isub C dX4_readNumber_51 ?_
          refine r_valI (y := nI (b - a)) (pk_sub (by omega)) ?_
          refine r_iload_n C dX4_readNumber_52 3 rfl ?_
          refine r_icmp_ge (tgt := 89) C dX4_readNumber_53 (by decide) (fun c53 => ?_) (fun c53 => ?_)
          ·
            have hx : numR (M 74) len D a 0 = (v, b) := by rw [← hs, show D - (b - a) = 0 by have := le_of_le (by omega) (by omega) c53; omega]; rfl
            refine r_aload_n C dX4_readNumber_89 2 rfl ?_
            refine r_geti C dX4_readNumber_90 2 f_X4_19 rfl rfl ?_
            refine r_valI (y := nI b) (by rw [mset_at, upd_at]) ?_
            refine r_aload_n C dX4_readNumber_93 2 rfl ?_
            refine r_geti C dX4_readNumber_94 1 f_X4_15 rfl rfl ?_
            refine r_valI (y := nI len) (by rw [mset_at, upd_ne (by decide)]; exact hl) ?_
            refine r_icmp_ge (tgt := 119) C dX4_readNumber_97 (by decide) (fun c97 => ?_) (fun c97 => ?_)
            ·
              refine r_iconst (v := 0) C dX4_readNumber_119 rfl ?_
              refine r_istore (L' := [(7, .int 0), (6, .int v), (5, .int (nI a)), (0, .ref (mA G 73)), (1, .int (nI D)), (2, .int low), (3, .int high), (4, .int en)]) C dX4_readNumber_120 (by decide) rfl ?_
              refine r_aload_n C dX4_readNumber_122 3 rfl ?_
              refine r_geti C dX4_readNumber_123 2 f_X4_19 rfl rfl ?_
              refine r_valI (y := nI b) (by rw [mset_at, upd_at]) ?_
              refine r_iload C dX4_readNumber_126 2 rfl ?_
              refine r_icmp_eq (tgt := 136) C dX4_readNumber_128 (by decide) (fun c128 => ?_) (fun c128 => ?_)
              ·
                refine r_aload_n C dX4_readNumber_136 3 rfl ?_
                refine r_aload_n C dX4_readNumber_137 3 rfl ?_
                refine r_geti C dX4_readNumber_138 2 f_X4_19 rfl rfl ?_
                refine r_valI (y := nI b) (by rw [mset_at, upd_at]) ?_
                refine r_puti C dX4_readNumber_141 3 fi_X4_22 rfl rfl ?_
                refine r_goto (tgt := 214) C dX4_readNumber_144 (by decide) ?_
                refine r_mem (M' := mset (mset M 73 2 (nI b)) 73 3 (nI b)) (rfl) ?_
                refine r_iload C dX4_readNumber_214 1 rfl ?_
                exact hend _ _ _ _ _ dX4_readNumber_216 (rfl) ((rd_post_f (by rw [rdN_eq hx, if_pos (Or.inl ((nI_eq (by omega) (by omega)).mp c128))])))
              ·
                refine r_iload C dX4_readNumber_131 0 rfl ?_
                refine r_if_eq (tgt := 147) C dX4_readNumber_133 (by decide) (fun _ => ?_) (fun h => absurd (by decide) h)
                refine r_iload C dX4_readNumber_147 1 rfl ?_
                refine r_iload_n C dX4_readNumber_149 5 rfl ?_
                refine r_icmp_lt (tgt := 159) C dX4_readNumber_150 (by decide) (fun c150 => ?_) (fun c150 => ?_)
                ·
                  refine r_aload_n C dX4_readNumber_159 3 rfl ?_
                  refine r_iload C dX4_readNumber_160 2 rfl ?_
                  refine r_puti C dX4_readNumber_162 3 fi_X4_22 rfl rfl ?_
                  refine r_goto (tgt := 214) C dX4_readNumber_165 (by decide) ?_
                  refine r_mem (M' := mset (mset M 73 2 (nI b)) 73 3 (nI a)) (rfl) ?_
                  refine r_iload C dX4_readNumber_214 1 rfl ?_
                  exact hend _ _ _ _ _ dX4_readNumber_216 (rfl) ((rd_post_f (by rw [rdN_eq hx, if_neg (fun z => z.elim (fun z => c128 (by rw [z])) (fun z => absurd z.1 (by have := le_of_le (by omega) (by omega) c97; omega))), if_pos (Or.inl c150)])))
                ·
                  refine r_iload C dX4_readNumber_153 1 rfl ?_
                  refine r_iload_n C dX4_readNumber_155 6 rfl ?_
                  refine r_icmp_le (tgt := 168) C dX4_readNumber_156 (by decide) (fun c156 => ?_) (fun c156 => ?_)
                  ·
                    refine r_aload_n C dX4_readNumber_168 3 rfl ?_
                    refine r_geti C dX4_readNumber_169 2 f_X4_19 rfl rfl ?_
                    refine r_valI (y := nI b) (by rw [mset_at, upd_at]) ?_
                    refine r_aload_n C dX4_readNumber_172 3 rfl ?_
                    refine r_geti C dX4_readNumber_173 1 f_X4_15 rfl rfl ?_
                    refine r_valI (y := nI len) (by rw [mset_at, upd_ne (by decide)]; exact hl) ?_
                    refine r_icmp_ge (tgt := 193) C dX4_readNumber_176 (by decide) (fun c176 => ?_) (fun c176 => ?_)
                    ·
                      refine r_aload_n C dX4_readNumber_193 3 rfl ?_
                      refine r_aload_n C dX4_readNumber_194 3 rfl ?_
                      refine r_geti C dX4_readNumber_195 2 f_X4_19 rfl rfl ?_
                      refine r_valI (y := nI b) (by rw [mset_at, upd_at]) ?_
                      refine r_puti C dX4_readNumber_198 3 fi_X4_22 rfl rfl ?_
                      refine r_goto (tgt := 214) C dX4_readNumber_201 (by decide) ?_
                      refine r_mem (M' := mset (mset M 73 2 (nI b)) 73 3 (nI b)) (rfl) ?_
                      refine r_iload C dX4_readNumber_214 1 rfl ?_
                      exact hend _ _ _ _ _ dX4_readNumber_216 (rfl) ((rd_post_f (by rw [rdN_eq hx, if_neg (fun z => z.elim (fun z => c128 (by rw [z])) (fun z => absurd z.1 (by have := le_of_le (by omega) (by omega) c97; omega))), if_neg (fun z => z.elim c150 (i32_nlt.mpr c156)), if_pos (Or.inl (le_of_le (by omega) (by omega) c176))])))
                    ·
                      refine r_aload_n C dX4_readNumber_179 3 rfl ?_
                      refine r_getr (q2 := 74) C dX4_readNumber_180 0 f_X4_9 rfl rfl ?_
                      refine r_aload_n C dX4_readNumber_183 3 rfl ?_
                      refine r_geti C dX4_readNumber_184 2 f_X4_19 rfl rfl ?_
                      refine r_valI (y := nI b) (by rw [mset_at, upd_at]) ?_
                      refine r_ialdN (j := b) (v := M 74 b) C dX4_readNumber_187 rfl (rfl) (by have := lt_of_nle (by omega) c176; omega) (by decide) (by rw [mset_ne (by decide)]) ?_
                      refine r_iload C dX4_readNumber_188 7 rfl ?_
                      refine r_icmp_eq (tgt := 204) C dX4_readNumber_190 (by decide) (fun c190 => ?_) (fun c190 => ?_)
                      ·
                        refine r_aload_n C dX4_readNumber_204 3 rfl ?_
                        refine r_dup C dX4_readNumber_205 rfl ?_
                        refine r_geti C dX4_readNumber_206 2 f_X4_19 rfl rfl ?_
                        refine r_valI (y := nI b) (by rw [mset_at, upd_at]) ?_
                        refine r_iconst (v := 1) C dX4_readNumber_209 rfl ?_
                        refine r_iadd C dX4_readNumber_210 ?_
                        refine r_valI (y := nI (b + 1)) (nI_1 _) ?_
                        refine r_puti C dX4_readNumber_211 2 fi_X4_19 rfl rfl ?_
                        refine r_mem (M' := mset M 73 2 (nI (b + 1))) (mset_again _ _ _ _ _) ?_
                        refine r_iload C dX4_readNumber_214 1 rfl ?_
                        exact hend _ _ _ _ _ dX4_readNumber_216 (rfl) ((rd_post_t (by rw [rdN_eq hx, if_neg (fun z => z.elim (fun z => c128 (by rw [z])) (fun z => absurd z.1 (by have := le_of_le (by omega) (by omega) c97; omega))), if_neg (fun z => z.elim c150 (i32_nlt.mpr c156)), if_neg (fun z => z.elim (fun y => absurd (lt_of_nle (by omega) c176) (by omega)) (fun y => y c190))])))
                      ·
                        refine r_aload_n C dX4_readNumber_193 3 rfl ?_
                        refine r_aload_n C dX4_readNumber_194 3 rfl ?_
                        refine r_geti C dX4_readNumber_195 2 f_X4_19 rfl rfl ?_
                        refine r_valI (y := nI b) (by rw [mset_at, upd_at]) ?_
                        refine r_puti C dX4_readNumber_198 3 fi_X4_22 rfl rfl ?_
                        refine r_goto (tgt := 214) C dX4_readNumber_201 (by decide) ?_
                        refine r_mem (M' := mset (mset M 73 2 (nI b)) 73 3 (nI b)) (rfl) ?_
                        refine r_iload C dX4_readNumber_214 1 rfl ?_
                        exact hend _ _ _ _ _ dX4_readNumber_216 (rfl) ((rd_post_f (by rw [rdN_eq hx, if_neg (fun z => z.elim (fun z => c128 (by rw [z])) (fun z => absurd z.1 (by have := le_of_le (by omega) (by omega) c97; omega))), if_neg (fun z => z.elim c150 (i32_nlt.mpr c156)), if_pos (Or.inr c190)])))
                  ·
                    refine r_aload_n C dX4_readNumber_159 3 rfl ?_
                    refine r_iload C dX4_readNumber_160 2 rfl ?_
                    refine r_puti C dX4_readNumber_162 3 fi_X4_22 rfl rfl ?_
                    refine r_goto (tgt := 214) C dX4_readNumber_165 (by decide) ?_
                    refine r_mem (M' := mset (mset M 73 2 (nI b)) 73 3 (nI a)) (rfl) ?_
                    refine r_iload C dX4_readNumber_214 1 rfl ?_
                    exact hend _ _ _ _ _ dX4_readNumber_216 (rfl) ((rd_post_f (by rw [rdN_eq hx, if_neg (fun z => z.elim (fun z => c128 (by rw [z])) (fun z => absurd z.1 (by have := le_of_le (by omega) (by omega) c97; omega))), if_pos (Or.inr (i32_nle.mp c156))])))
            ·
              refine r_aload_n C dX4_readNumber_100 2 rfl ?_
              refine r_getr (q2 := 74) C dX4_readNumber_101 0 f_X4_9 rfl rfl ?_
              refine r_aload_n C dX4_readNumber_104 2 rfl ?_
              refine r_geti C dX4_readNumber_105 2 f_X4_19 rfl rfl ?_
              refine r_valI (y := nI b) (by rw [mset_at, upd_at]) ?_
              refine r_ialdN (j := b) (v := M 74 b) C dX4_readNumber_108 rfl (rfl) (by have := lt_of_nle (by omega) c97; omega) (by decide) (by rw [mset_ne (by decide)]) ?_
              refine r_callSI (As := [.int (M 74 b)]) (rest := []) C dX4_readNumber_109 s_X4_42 (c_X4_isDigit l G hG (mset M 73 2 (nI b)) g (M 74 b)) (by decide) rfl rfl (Nat.le_of_ble_eq_true rfl) (Nat.le_of_ble_eq_true rfl) (Nat.le_of_ble_eq_true rfl) (pk_I ?_)
              refine r_if_eq (tgt := 119) C dX4_readNumber_112 (by decide) (fun c112 => ?_) (fun c112 => ?_)
              ·
                refine r_iconst (v := 0) C dX4_readNumber_119 rfl ?_
                refine r_istore (L' := [(7, .int 0), (6, .int v), (5, .int (nI a)), (0, .ref (mA G 73)), (1, .int (nI D)), (2, .int low), (3, .int high), (4, .int en)]) C dX4_readNumber_120 (by decide) rfl ?_
                refine r_aload_n C dX4_readNumber_122 3 rfl ?_
                refine r_geti C dX4_readNumber_123 2 f_X4_19 rfl rfl ?_
                refine r_valI (y := nI b) (by rw [mset_at, upd_at]) ?_
                refine r_iload C dX4_readNumber_126 2 rfl ?_
                refine r_icmp_eq (tgt := 136) C dX4_readNumber_128 (by decide) (fun c128 => ?_) (fun c128 => ?_)
                ·
                  refine r_aload_n C dX4_readNumber_136 3 rfl ?_
                  refine r_aload_n C dX4_readNumber_137 3 rfl ?_
                  refine r_geti C dX4_readNumber_138 2 f_X4_19 rfl rfl ?_
                  refine r_valI (y := nI b) (by rw [mset_at, upd_at]) ?_
                  refine r_puti C dX4_readNumber_141 3 fi_X4_22 rfl rfl ?_
                  refine r_goto (tgt := 214) C dX4_readNumber_144 (by decide) ?_
                  refine r_mem (M' := mset (mset M 73 2 (nI b)) 73 3 (nI b)) (rfl) ?_
                  refine r_iload C dX4_readNumber_214 1 rfl ?_
                  exact hend _ _ _ _ _ dX4_readNumber_216 (rfl) ((rd_post_f (by rw [rdN_eq hx, if_pos (Or.inl ((nI_eq (by omega) (by omega)).mp c128))])))
                ·
                  refine r_iload C dX4_readNumber_131 0 rfl ?_
                  refine r_if_eq (tgt := 147) C dX4_readNumber_133 (by decide) (fun _ => ?_) (fun h => absurd (by decide) h)
                  refine r_iload C dX4_readNumber_147 1 rfl ?_
                  refine r_iload_n C dX4_readNumber_149 5 rfl ?_
                  refine r_icmp_lt (tgt := 159) C dX4_readNumber_150 (by decide) (fun c150 => ?_) (fun c150 => ?_)
                  ·
                    refine r_aload_n C dX4_readNumber_159 3 rfl ?_
                    refine r_iload C dX4_readNumber_160 2 rfl ?_
                    refine r_puti C dX4_readNumber_162 3 fi_X4_22 rfl rfl ?_
                    refine r_goto (tgt := 214) C dX4_readNumber_165 (by decide) ?_
                    refine r_mem (M' := mset (mset M 73 2 (nI b)) 73 3 (nI a)) (rfl) ?_
                    refine r_iload C dX4_readNumber_214 1 rfl ?_
                    exact hend _ _ _ _ _ dX4_readNumber_216 (rfl) ((rd_post_f (by rw [rdN_eq hx, if_neg (fun z => z.elim (fun z => c128 (by rw [z])) (fun z => absurd (z.2.symm.trans (b2i_0.mp c112)) (by decide))), if_pos (Or.inl c150)])))
                  ·
                    refine r_iload C dX4_readNumber_153 1 rfl ?_
                    refine r_iload_n C dX4_readNumber_155 6 rfl ?_
                    refine r_icmp_le (tgt := 168) C dX4_readNumber_156 (by decide) (fun c156 => ?_) (fun c156 => ?_)
                    ·
                      refine r_aload_n C dX4_readNumber_168 3 rfl ?_
                      refine r_geti C dX4_readNumber_169 2 f_X4_19 rfl rfl ?_
                      refine r_valI (y := nI b) (by rw [mset_at, upd_at]) ?_
                      refine r_aload_n C dX4_readNumber_172 3 rfl ?_
                      refine r_geti C dX4_readNumber_173 1 f_X4_15 rfl rfl ?_
                      refine r_valI (y := nI len) (by rw [mset_at, upd_ne (by decide)]; exact hl) ?_
                      refine r_icmp_ge (tgt := 193) C dX4_readNumber_176 (by decide) (fun c176 => ?_) (fun c176 => ?_)
                      ·
                        refine r_aload_n C dX4_readNumber_193 3 rfl ?_
                        refine r_aload_n C dX4_readNumber_194 3 rfl ?_
                        refine r_geti C dX4_readNumber_195 2 f_X4_19 rfl rfl ?_
                        refine r_valI (y := nI b) (by rw [mset_at, upd_at]) ?_
                        refine r_puti C dX4_readNumber_198 3 fi_X4_22 rfl rfl ?_
                        refine r_goto (tgt := 214) C dX4_readNumber_201 (by decide) ?_
                        refine r_mem (M' := mset (mset M 73 2 (nI b)) 73 3 (nI b)) (rfl) ?_
                        refine r_iload C dX4_readNumber_214 1 rfl ?_
                        exact hend _ _ _ _ _ dX4_readNumber_216 (rfl) ((rd_post_f (by rw [rdN_eq hx, if_neg (fun z => z.elim (fun z => c128 (by rw [z])) (fun z => absurd (z.2.symm.trans (b2i_0.mp c112)) (by decide))), if_neg (fun z => z.elim c150 (i32_nlt.mpr c156)), if_pos (Or.inl (le_of_le (by omega) (by omega) c176))])))
                      ·
                        refine r_aload_n C dX4_readNumber_179 3 rfl ?_
                        refine r_getr (q2 := 74) C dX4_readNumber_180 0 f_X4_9 rfl rfl ?_
                        refine r_aload_n C dX4_readNumber_183 3 rfl ?_
                        refine r_geti C dX4_readNumber_184 2 f_X4_19 rfl rfl ?_
                        refine r_valI (y := nI b) (by rw [mset_at, upd_at]) ?_
                        refine r_ialdN (j := b) (v := M 74 b) C dX4_readNumber_187 rfl (rfl) (by have := lt_of_nle (by omega) c176; omega) (by decide) (by rw [mset_ne (by decide)]) ?_
                        refine r_iload C dX4_readNumber_188 7 rfl ?_
                        refine r_icmp_eq (tgt := 204) C dX4_readNumber_190 (by decide) (fun c190 => ?_) (fun c190 => ?_)
                        ·
                          refine r_aload_n C dX4_readNumber_204 3 rfl ?_
                          refine r_dup C dX4_readNumber_205 rfl ?_
                          refine r_geti C dX4_readNumber_206 2 f_X4_19 rfl rfl ?_
                          refine r_valI (y := nI b) (by rw [mset_at, upd_at]) ?_
                          refine r_iconst (v := 1) C dX4_readNumber_209 rfl ?_
                          refine r_iadd C dX4_readNumber_210 ?_
                          refine r_valI (y := nI (b + 1)) (nI_1 _) ?_
                          refine r_puti C dX4_readNumber_211 2 fi_X4_19 rfl rfl ?_
                          refine r_mem (M' := mset M 73 2 (nI (b + 1))) (mset_again _ _ _ _ _) ?_
                          refine r_iload C dX4_readNumber_214 1 rfl ?_
                          exact hend _ _ _ _ _ dX4_readNumber_216 (rfl) ((rd_post_t (by rw [rdN_eq hx, if_neg (fun z => z.elim (fun z => c128 (by rw [z])) (fun z => absurd (z.2.symm.trans (b2i_0.mp c112)) (by decide))), if_neg (fun z => z.elim c150 (i32_nlt.mpr c156)), if_neg (fun z => z.elim (fun y => absurd (lt_of_nle (by omega) c176) (by omega)) (fun y => y c190))])))
                        ·
                          refine r_aload_n C dX4_readNumber_193 3 rfl ?_
                          refine r_aload_n C dX4_readNumber_194 3 rfl ?_
                          refine r_geti C dX4_readNumber_195 2 f_X4_19 rfl rfl ?_
                          refine r_valI (y := nI b) (by rw [mset_at, upd_at]) ?_
                          refine r_puti C dX4_readNumber_198 3 fi_X4_22 rfl rfl ?_
                          refine r_goto (tgt := 214) C dX4_readNumber_201 (by decide) ?_
                          refine r_mem (M' := mset (mset M 73 2 (nI b)) 73 3 (nI b)) (rfl) ?_
                          refine r_iload C dX4_readNumber_214 1 rfl ?_
                          exact hend _ _ _ _ _ dX4_readNumber_216 (rfl) ((rd_post_f (by rw [rdN_eq hx, if_neg (fun z => z.elim (fun z => c128 (by rw [z])) (fun z => absurd (z.2.symm.trans (b2i_0.mp c112)) (by decide))), if_neg (fun z => z.elim c150 (i32_nlt.mpr c156)), if_pos (Or.inr c190)])))
                    ·
                      refine r_aload_n C dX4_readNumber_159 3 rfl ?_
                      refine r_iload C dX4_readNumber_160 2 rfl ?_
                      refine r_puti C dX4_readNumber_162 3 fi_X4_22 rfl rfl ?_
                      refine r_goto (tgt := 214) C dX4_readNumber_165 (by decide) ?_
                      refine r_mem (M' := mset (mset M 73 2 (nI b)) 73 3 (nI a)) (rfl) ?_
                      refine r_iload C dX4_readNumber_214 1 rfl ?_
                      exact hend _ _ _ _ _ dX4_readNumber_216 (rfl) ((rd_post_f (by rw [rdN_eq hx, if_neg (fun z => z.elim (fun z => c128 (by rw [z])) (fun z => absurd (z.2.symm.trans (b2i_0.mp c112)) (by decide))), if_pos (Or.inr (i32_nle.mp c156))])))
              ·
                refine r_iconst (v := 1) C dX4_readNumber_115 rfl ?_
                refine r_goto (tgt := 120) C dX4_readNumber_116 (by decide) ?_
                refine r_istore (L' := [(7, .int 1), (6, .int v), (5, .int (nI a)), (0, .ref (mA G 73)), (1, .int (nI D)), (2, .int low), (3, .int high), (4, .int en)]) C dX4_readNumber_120 (by decide) rfl ?_
                refine r_aload_n C dX4_readNumber_122 3 rfl ?_
                refine r_geti C dX4_readNumber_123 2 f_X4_19 rfl rfl ?_
                refine r_valI (y := nI b) (by rw [mset_at, upd_at]) ?_
                refine r_iload C dX4_readNumber_126 2 rfl ?_
                refine r_icmp_eq (tgt := 136) C dX4_readNumber_128 (by decide) (fun c128 => ?_) (fun c128 => ?_)
                ·
                  refine r_aload_n C dX4_readNumber_136 3 rfl ?_
                  refine r_aload_n C dX4_readNumber_137 3 rfl ?_
                  refine r_geti C dX4_readNumber_138 2 f_X4_19 rfl rfl ?_
                  refine r_valI (y := nI b) (by rw [mset_at, upd_at]) ?_
                  refine r_puti C dX4_readNumber_141 3 fi_X4_22 rfl rfl ?_
                  refine r_goto (tgt := 214) C dX4_readNumber_144 (by decide) ?_
                  refine r_mem (M' := mset (mset M 73 2 (nI b)) 73 3 (nI b)) (rfl) ?_
                  refine r_iload C dX4_readNumber_214 1 rfl ?_
                  exact hend _ _ _ _ _ dX4_readNumber_216 (rfl) ((rd_post_f (by rw [rdN_eq hx, if_pos (Or.inl ((nI_eq (by omega) (by omega)).mp c128))])))
                ·
                  refine r_iload C dX4_readNumber_131 0 rfl ?_
                  refine r_if_eq (tgt := 147) C dX4_readNumber_133 (by decide) (fun h => absurd h (by decide)) (fun _ => ?_)
                  refine r_aload_n C dX4_readNumber_136 3 rfl ?_
                  refine r_aload_n C dX4_readNumber_137 3 rfl ?_
                  refine r_geti C dX4_readNumber_138 2 f_X4_19 rfl rfl ?_
                  refine r_valI (y := nI b) (by rw [mset_at, upd_at]) ?_
                  refine r_puti C dX4_readNumber_141 3 fi_X4_22 rfl rfl ?_
                  refine r_goto (tgt := 214) C dX4_readNumber_144 (by decide) ?_
                  refine r_mem (M' := mset (mset M 73 2 (nI b)) 73 3 (nI b)) (rfl) ?_
                  refine r_iload C dX4_readNumber_214 1 rfl ?_
                  exact hend _ _ _ _ _ dX4_readNumber_216 (rfl) ((rd_post_f (by rw [rdN_eq hx, if_pos (Or.inr ⟨lt_of_nle (by omega) c97, b2i_1.mp c112⟩)])))
          ·
            have hbd : b - a < D := lt_of_nle (by omega) c53
            refine r_bipush (v := 10) C dX4_readNumber_56 rfl ?_
            refine r_iload C dX4_readNumber_58 0 rfl ?_
            refine r_imul C dX4_readNumber_60 ?_
            refine r_aload_n C dX4_readNumber_61 2 rfl ?_
            refine r_getr (q2 := 74) C dX4_readNumber_62 0 f_X4_9 rfl rfl ?_
            refine r_aload_n C dX4_readNumber_65 2 rfl ?_
            refine r_geti C dX4_readNumber_66 2 f_X4_19 rfl rfl ?_
            refine r_valI (y := nI b) (by rw [mset_at, upd_at]) ?_
            refine r_ialdN (j := b) (v := M 74 b) C dX4_readNumber_69 rfl (rfl) (by omega) (by decide) (by rw [mset_ne (by decide)]) ?_
            refine r_iadd C dX4_readNumber_70 ?_
            refine r_bipush (v := 48) C dX4_readNumber_71 rfl ?_
            refine r_isub C dX4_readNumber_73 ?_
            refine r_istore (L' := [(6, .int (((10 * v) + (M 74 b)) - 48)), (5, .int (nI a)), (0, .ref (mA G 73)), (1, .int (nI D)), (2, .int low), (3, .int high), (4, .int en)]) C dX4_readNumber_74 (by decide) rfl ?_
            refine r_aload_n C dX4_readNumber_76 2 rfl ?_
            refine r_dup C dX4_readNumber_77 rfl ?_
            refine r_geti C dX4_readNumber_78 2 f_X4_19 rfl rfl ?_
            refine r_valI (y := nI b) (by rw [mset_at, upd_at]) ?_
            refine r_iconst (v := 1) C dX4_readNumber_81 rfl ?_
            refine r_iadd C dX4_readNumber_82 ?_
            refine r_valI (y := nI (b + 1)) (nI_1 _) ?_
            refine r_puti C dX4_readNumber_83 2 fi_X4_19 rfl rfl ?_
            refine r_mem (M' := mset M 73 2 (nI (b + 1))) (mset_again _ _ _ _ _) ?_
            refine r_goto (tgt := 19) C dX4_readNumber_86 (by decide) ?_
            refine r_sub (L' := [(6, .int (((10 * v) + (M 74 b)) - 48)), (5, .int (nI a)), (0, .ref (mA G 73)), (1, .int (nI D)), (2, .int low), (3, .int high), (4, .int en)]) [0, 1, 2, 3, 4, 5, 6] rfl ?_
            exact ih19 (b + 1) (10 * v + M 74 b - 48) (by omega) (by omega) (by omega) (by rw [← hs, show D - (b + 1 - a) = D - (b - a) - 1 by omega]; exact (numR_step (by omega) hbl (b2i_1.mp c42)).symm) (by omega)
  refine r_mem (M' := mset M 73 2 (nI a)) (mset_id ha).symm ?_
  refine r_sub (L' := [(6, .int 0), (5, .int (nI a)), (0, .ref (mA G 73)), (1, .int (nI D)), (2, .int low), (3, .int high), (4, .int en)]) [0, 1, 2, 3, 4, 5, 6] rfl ?_
  exact lp19 _ a 0 (by omega) hal (by omega) (by rw [Nat.sub_self, Nat.sub_zero]) (Nat.lt_succ_self _)
