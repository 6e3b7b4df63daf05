theorem mset_sw {M : Mem} {k i j : Nat} {x y z : Int32} (h : i ≠ j) : mset (mset (mset M k i x) k j y) k i z = mset (mset M k i z) k j y := by
  funext q
  by_cases e : q = k
  · subst e
    rw [mset_at, mset_at, mset_at, mset_at, mset_at]
    funext r
    by_cases e1 : r = i
    · subst e1; rw [upd_at, upd_ne h, upd_at]
    · rw [upd_ne e1]
      by_cases e2 : r = j
      · subst e2; rw [upd_at, upd_at]
      · rw [upd_ne e2, upd_ne e2, upd_ne e1, upd_ne e1]
  · rw [mset_ne e, mset_ne e, mset_ne e, mset_ne e, mset_ne e]
theorem mset_2 {M : Mem} {k i j : Nat} {x y z w : Int32} (h : i ≠ j) : mset (mset (mset (mset M k i x) k j y) k i z) k j w = mset (mset M k i z) k j w := by
  rw [mset_sw h, mset_again]
theorem dg_t {b len : Nat} {x : Int32} (h : ¬ b2i (decide (b < len) && isDig x) = 0) : b < len ∧ isDig x = true := by
  have := b2i_1.mp h
  rw [Bool.and_eq_true, decide_eq_true_eq] at this
  exact this
theorem dg_f {b len : Nat} {x : Int32} (h : b2i (decide (b < len) && isDig x) = 0) : ¬ (b < len ∧ isDig x = true) := fun z => by
  have := b2i_0.mp h
  rw [decide_eq_true z.1, z.2] at this
  exact absurd this (by decide)
theorem nb_post {M : Mem} {T : Nat → Int32} {len a D pos : Nat} {low high en v : Int32} {bb : Bool} (hR : rdN T len a D low high en = (bb, v, pos)) : b2i bb = b2i (rdN T len a D low high en).1 ∧ mset (mset M 107 13 (nI pos)) 107 14 v = mset (mset M 107 13 (nI (rdN T len a D low high en).2.2)) 107 14 (rdN T len a D low high en).2.1 := by
  rw [hR]
  exact ⟨rfl, rfl⟩
theorem nin_or {x a b : Int32} (h : ¬ inW x a b) : x < a ∨ b < x := by
  rcases Classical.em (x < a) with q | q
  · exact Or.inl q
  · exact Or.inr (i32_nle.mp (fun z => h ⟨i32_nlt.mp q, z⟩))
theorem in_nor {x a b : Int32} (h : inW x a b) : ¬ (x < a ∨ b < x) := fun z => by
  rcases z with q | q
  · exact i32_nlt.mpr h.1 q
  · exact i32_nlt.mpr h.2 q
def ntP (M M' : Mem) (P : View) (len a : Nat) (r : Int32) : Prop :=
  (vN P = 16 ∧ r = 0 ∧ M' 107 13 = nI a ∨ ¬ vN P = 16 ∧ r = b2i (rdNode (M 111) len a (vN P)).1 ∧ M' 107 13 = nI (rdNode (M 111) len a (vN P)).2.1 ∧ ((rdNode (M 111) len a (vN P)).1 = true → rV (M' 108) (vPar P (rdNode (M 111) len a (vN P))))) ∧ (∀ q, q ≠ 107 → q ≠ 108 → M' q = M q) ∧ (∀ i, i ≠ 13 → i ≠ 14 → M' 107 i = M 107 i)
theorem nt_f {M : Mem} {P : View} {len a pos : Nat} {v : Int32} (hn : ¬ vN P = 16) (hX : rdNode (M 111) len a (vN P) = (false, pos, 0, 0, 0, 0, 0)) : ntP M (mset (mset M 107 13 (nI pos)) 107 14 v) P len a 0 := by
  refine ⟨Or.inr ⟨hn, by rw [hX]; rfl, by rw [hX, mset_at, upd_ne (by decide), mset_at, upd_at], fun z => by rw [hX] at z; exact absurd z Bool.false_ne_true⟩, fun q a b => by rw [mset_ne a, mset_ne a], fun i a b => by rw [mset_at, upd_ne b, mset_at, upd_ne a]⟩
theorem nt_t {M : Mem} {P : View} {len a pos : Nat} {v x1 x2 x3 x4 x5 : Int32} (hn : vN P < 16) (hP : rV (M 108) P) (hX : rdNode (M 111) len a (vN P) = (true, pos, x1, x2, x3, x4, x5)) : ntP M (mrow (mset (mset M 107 13 (nI pos)) 107 14 v) 108 (ad8 (mset (mset M 107 13 (nI pos)) 107 14 v 108) (vN P) x1 x2 x3 x4 x5)) P len a 1 := by
  refine ⟨Or.inr ⟨by omega, by rw [hX]; rfl, by rw [hX, mrow_ne (by decide), mset_at, upd_ne (by decide), mset_at, upd_at], fun _ => ?_⟩, fun q a b => by rw [mrow_ne b, mset_ne a, mset_ne a], fun i a b => by rw [mrow_ne (by decide), mset_at, upd_ne b, mset_at, upd_ne a]⟩
  rw [mrow_at, hX, mset_ne (by decide), mset_ne (by decide)]
  exact rV_add hn hP
set_option maxRecDepth 20000 in
set_option maxHeartbeats 1000000 in
theorem c_X8_isDigit (l : Launch) (G : mG) (hG : mInj G) (M : Mem) (g : Glo) (len a : Nat) (hlen : len ≤ 180) (hal : a ≤ len) (hl : M 107 5 = nI len) (ha : M 107 13 = nI a) : mcI l G yX8_isDigit cX8_isDigit 1 .boolean 2 [.ref (mA G 107)] M g (fun r M' g' => r = b2i (decide (a < len) && isDig (M 111 a)) ∧ M' = M ∧ g' = g) := by
  refine mcI_of (L0 := [(0, .ref (mA G 107))]) hG (by decide) (Nat.le_of_ble_eq_true rfl) rfl ?_
  intro p e s m args below meth c Q C hend
  refine r_aload_n C dX8_isDigit_0 0 rfl ?_
  refine r_geti C dX8_isDigit_1 13 f_X8_185 rfl rfl ?_
  refine r_valI (y := nI a) (ha) ?_
  refine r_aload_n C dX8_isDigit_4 0 rfl ?_
  refine r_geti C dX8_isDigit_5 5 f_X8_182 rfl rfl ?_
  refine r_valI (y := nI len) (hl) ?_
  refine r_icmp_ge (tgt := 34) C dX8_isDigit_8 (by decide) (fun c8 => ?_) (fun c8 => ?_)
  ·
    have hge : ¬ a < len := by have := le_of_le (by omega) (by omega) c8; omega
    refine r_iconst (v := 0) C dX8_isDigit_34 rfl ?_
    exact hend _ _ _ _ _ dX8_isDigit_35 (rfl) (⟨by rw [decide_eq_false hge, Bool.false_and]; rfl, rfl, rfl⟩)
  ·
    have hlt : a < len := lt_of_nle (by omega) c8
    refine r_aload_n C dX8_isDigit_11 0 rfl ?_
    refine r_getr (q2 := 111) C dX8_isDigit_12 4 f_X8_19 rfl rfl ?_
    refine r_aload_n C dX8_isDigit_15 0 rfl ?_
    refine r_geti C dX8_isDigit_16 13 f_X8_185 rfl rfl ?_
    refine r_valI (y := nI a) (ha) ?_
    refine r_ialdN (j := a) (v := M 111 a) C dX8_isDigit_19 rfl (rfl) (by omega) (by decide) (rfl) ?_
    refine r_bipush (v := 48) C dX8_isDigit_20 rfl ?_
    refine r_bipush (v := 57) C dX8_isDigit_22 rfl ?_
    refine r_callSI (As := [.int (M 111 a), .int 48, .int 57]) (rest := []) C dX8_isDigit_24 s_X8_83 (c_X8_in l G hG M g (M 111 a) 48 57) (by decide) rfl rfl (Nat.le_of_ble_eq_true rfl) (Nat.le_of_ble_eq_true rfl) (Nat.le_of_ble_eq_true rfl) (fun r24 M24 g24 hp24 => ?_)
    obtain ⟨hy24, eM24, eg24⟩ := hp24
    rw [eg24]
    rw [eM24]
    refine r_if_eq (tgt := 34) C dX8_isDigit_27 (by decide) (fun c27 => ?_) (fun c27 => ?_)
    ·
      refine r_iconst (v := 0) C dX8_isDigit_34 rfl ?_
      exact hend _ _ _ _ _ dX8_isDigit_35 (rfl) (⟨by rw [show isDig (M 111 a) = false from decide_eq_false (hy24.f c27), Bool.and_false]; rfl, rfl, rfl⟩)
    ·
      refine r_iconst (v := 1) C dX8_isDigit_30 rfl ?_
      refine r_goto (tgt := 35) C dX8_isDigit_31 (by decide) ?_
      exact hend _ _ _ _ _ dX8_isDigit_35 (rfl) (⟨by rw [show isDig (M 111 a) = true from decide_eq_true (hy24.t c27), decide_eq_true hlt]; rfl, rfl, rfl⟩)

set_option maxRecDepth 20000 in
set_option maxHeartbeats 1000000 in
theorem c_X8_isNumber (l : Launch) (G : mG) (hG : mInj G) (M : Mem) (g : Glo) (T : Nat → Int32) (hT : M 111 = T) (len a D : Nat) (low high en : Int32) (hlen : len ≤ 180) (hal : a ≤ len) (hD : D < 100) (hl : M 107 5 = nI len) (ha : M 107 13 = nI a) : mcI l G yX8_isNumber cX8_isNumber 6 .boolean 3 [.ref (mA G 107), .int (nI D), .int low, .int high, .int en] M g (fun r M' g' => (r = b2i (rdN T len a D low high en).1 ∧ M' = mset (mset M 107 13 (nI (rdN T len a D low high en).2.2)) 107 14 (rdN T len a D low high en).2.1) ∧ g' = g) := by
  refine mcI_of (L0 := [(0, .ref (mA G 107)), (1, .int (nI D)), (2, .int low), (3, .int high), (4, .int en)]) hG (by decide) (Nat.le_of_ble_eq_true rfl) rfl ?_
  intro p e s m args below meth c Q C hend
  subst hT
  refine r_aload_n C dX8_isNumber_0 0 rfl ?_
  refine r_geti C dX8_isNumber_1 13 f_X8_185 rfl rfl ?_
  refine r_valI (y := nI a) (ha) ?_
  refine r_istore (L' := [(5, .int (nI a)), (0, .ref (mA G 107)), (1, .int (nI D)), (2, .int low), (3, .int high), (4, .int en)]) C dX8_isNumber_4 (by decide) rfl ?_
  refine r_aload_n C dX8_isNumber_6 1 rfl ?_
  refine r_iconst (v := 0) C dX8_isNumber_7 rfl ?_
  refine r_puti C dX8_isNumber_8 14 fi_X8_188 rfl rfl ?_
  have lp11 : ∀ (fu : Nat) (b : Nat) (v : Int32), (a ≤ b) → (b ≤ len) → (b - a ≤ D) → (numR (M 111) len (D - (b - a)) b v = numR (M 111) len D a 0) → (len - b) < fu → At p l e (rmD 3 0 0) s m args below meth c G 6 0 0 Q (mset (mset M 107 13 (nI b)) 107 14 v) g [(5, .int (nI a)), (0, .ref (mA G 107)), (1, .int (nI D)), (2, .int low), (3, .int high), (4, .int en)] 11 [] := by
    intro fu
    induction fu with
    | zero => intro b v hab hbl hbD hn hfu; exact absurd hfu (Nat.not_lt_zero _)
    | succ fu ih11 =>
      intro b v hab hbl hbD hn hfu11
      refine r_aload_n C dX8_isNumber_11 1 rfl ?_
      refine r_callVI (As := []) (rest := []) C dX8_isNumber_12 s_X8_191 (c_X8_isDigit l G hG (mset (mset M 107 13 (nI b)) 107 14 v) g len b hlen hbl (by rw [mset_at, upd_ne (by decide), mset_at, upd_ne (by decide)]; exact hl) (by rw [mset_at, upd_ne (by decide), mset_at, upd_at])) (by decide) rfl rfl rfl rfl (Nat.le_of_ble_eq_true rfl) (Nat.le_of_ble_eq_true rfl) (Nat.le_of_ble_eq_true rfl) (pk_I ?_)
      refine r_valI (y := b2i (decide (b < len) && isDig (M 111 b))) (rfl) ?_
      refine r_if_eq (tgt := 66) C dX8_isNumber_15 (by decide) (fun c15 => ?_) (fun c15 => ?_)
      ·
        have hN : numR (M 111) len D a 0 = (v, b) := by rw [← hn]; exact numR_stop (dg_f c15)
        refine r_aload_n C dX8_isNumber_66 1 rfl ?_
        refine r_geti C dX8_isNumber_67 13 f_X8_185 rfl rfl ?_
        refine r_valI (y := nI b) (by rw [mset_at, upd_ne (by decide), mset_at, upd_at]) ?_
        refine r_iload C dX8_isNumber_70 0 rfl ?_
        refine r_icmp_eq (tgt := 82) C dX8_isNumber_72 (by decide) (fun c72 => ?_) (fun c72 => ?_)
        ·
          have hba : b = a := (nI_eq (by omega) (by omega)).mp c72
          refine r_iconst (v := 0) C dX8_isNumber_82 rfl ?_
          exact hend _ _ _ _ _ dX8_isNumber_83 (rfl) (⟨nb_post (bb := false) (by rw [rdN_eq hN, if_pos (Or.inl hba)]), rfl⟩)
        ·
          have hba : ¬ b = a := fun z => c72 (by rw [z])
          refine r_aload_n C dX8_isNumber_75 1 rfl ?_
          refine r_callVI (As := []) (rest := []) C dX8_isNumber_76 s_X8_191 (c_X8_isDigit l G hG (mset (mset M 107 13 (nI b)) 107 14 v) g len b hlen hbl (by rw [mset_at, upd_ne (by decide), mset_at, upd_ne (by decide)]; exact hl) (by rw [mset_at, upd_ne (by decide), mset_at, upd_at])) (by decide) rfl rfl rfl rfl (Nat.le_of_ble_eq_true rfl) (Nat.le_of_ble_eq_true rfl) (Nat.le_of_ble_eq_true rfl) (pk_I ?_)
          refine r_valI (y := b2i (decide (b < len) && isDig (M 111 b))) (rfl) ?_
          refine r_if_eq (tgt := 84) C dX8_isNumber_79 (by decide) (fun c79 => ?_) (fun c79 => ?_)
          ·
            refine r_aload_n C dX8_isNumber_84 1 rfl ?_
            refine r_geti C dX8_isNumber_85 14 f_X8_188 rfl rfl ?_
            refine r_valI (y := v) (by rw [mset_at, upd_at]) ?_
            refine r_iload_n C dX8_isNumber_88 3 rfl ?_
            refine r_iload_n C dX8_isNumber_89 4 rfl ?_
            refine r_callSI (As := [.int v, .int low, .int high]) (rest := []) C dX8_isNumber_90 s_X8_83 (c_X8_in l G hG (mset (mset M 107 13 (nI b)) 107 14 v) g v low high) (by decide) rfl rfl (Nat.le_of_ble_eq_true rfl) (Nat.le_of_ble_eq_true rfl) (Nat.le_of_ble_eq_true rfl) (fun r90 M90 g90 hp90 => ?_)
            obtain ⟨hy90, eM90, eg90⟩ := hp90
            rw [eg90]
            rw [eM90]
            refine r_if_ne (tgt := 104) C dX8_isNumber_93 (by decide) (fun c93 => ?_) (fun c93 => ?_)
            ·
              refine r_aload_n C dX8_isNumber_104 1 rfl ?_
              refine r_geti C dX8_isNumber_105 13 f_X8_185 rfl rfl ?_
              refine r_valI (y := nI b) (by rw [mset_at, upd_ne (by decide), mset_at, upd_at]) ?_
              refine r_aload_n C dX8_isNumber_108 1 rfl ?_
              refine r_geti C dX8_isNumber_109 5 f_X8_182 rfl rfl ?_
              refine r_valI (y := nI len) (by rw [mset_at, upd_ne (by decide), mset_at, upd_ne (by decide)]; exact hl) ?_
              refine r_icmp_eq (tgt := 129) C dX8_isNumber_112 (by decide) (fun c112 => ?_) (fun c112 => ?_)
              ·
                have hbe : b = len := (nI_eq (by omega) (by omega)).mp c112
                refine r_iconst (v := 0) C dX8_isNumber_129 rfl ?_
                exact hend _ _ _ _ _ dX8_isNumber_130 (rfl) (⟨nb_post (bb := false) (by rw [rdN_eq hN, if_neg (fun z => z.elim hba (dg_f c79)), if_neg (in_nor (hy90.t c93)), if_pos (Or.inl (by omega))]), rfl⟩)
              ·
                have hbe : ¬ b = len := fun z => c112 (by rw [z])
                refine r_aload_n C dX8_isNumber_115 1 rfl ?_
                refine r_getr (q2 := 111) C dX8_isNumber_116 4 f_X8_19 rfl rfl ?_
                refine r_aload_n C dX8_isNumber_119 1 rfl ?_
                refine r_geti C dX8_isNumber_120 13 f_X8_185 rfl rfl ?_
                refine r_valI (y := nI b) (by rw [mset_at, upd_ne (by decide), mset_at, upd_at]) ?_
                refine r_ialdN (j := b) (v := M 111 b) C dX8_isNumber_123 rfl (rfl) (by omega) (by decide) (rfl) ?_
                refine r_iload C dX8_isNumber_124 5 rfl ?_
                refine r_icmp_eq (tgt := 131) C dX8_isNumber_126 (by decide) (fun c126 => ?_) (fun c126 => ?_)
                ·
                  refine r_aload_n C dX8_isNumber_131 1 rfl ?_
                  refine r_dup C dX8_isNumber_132 rfl ?_
                  refine r_geti C dX8_isNumber_133 13 f_X8_185 rfl rfl ?_
                  refine r_valI (y := nI b) (by rw [mset_at, upd_ne (by decide), mset_at, upd_at]) ?_
                  refine r_iconst (v := 1) C dX8_isNumber_136 rfl ?_
                  refine r_iadd C dX8_isNumber_137 ?_
                  refine r_valI (y := nI (b + 1)) (nI_1 _) ?_
                  refine r_puti C dX8_isNumber_138 13 fi_X8_185 rfl rfl ?_
                  refine r_mem (M' := mset (mset M 107 13 (nI (b + 1))) 107 14 v) (mset_sw (by decide)) ?_
                  refine r_iconst (v := 1) C dX8_isNumber_141 rfl ?_
                  exact hend _ _ _ _ _ dX8_isNumber_142 (rfl) (⟨nb_post (bb := true) (by rw [rdN_eq hN, if_neg (fun z => z.elim hba (dg_f c79)), if_neg (in_nor (hy90.t c93)), if_neg (fun z => z.elim (fun y => by omega) (fun y => y c126))]), rfl⟩)
                ·
                  refine r_iconst (v := 0) C dX8_isNumber_129 rfl ?_
                  exact hend _ _ _ _ _ dX8_isNumber_130 (rfl) (⟨nb_post (bb := false) (by rw [rdN_eq hN, if_neg (fun z => z.elim hba (dg_f c79)), if_neg (in_nor (hy90.t c93)), if_pos (Or.inr c126)]), rfl⟩)
            ·
              refine r_aload_n C dX8_isNumber_96 1 rfl ?_
              refine r_iload C dX8_isNumber_97 0 rfl ?_
              refine r_puti C dX8_isNumber_99 13 fi_X8_185 rfl rfl ?_
              refine r_mem (M' := mset (mset M 107 13 (nI a)) 107 14 v) (mset_sw (by decide)) ?_
              refine r_iconst (v := 0) C dX8_isNumber_102 rfl ?_
              exact hend _ _ _ _ _ dX8_isNumber_103 (rfl) (⟨nb_post (bb := false) (by rw [rdN_eq hN, if_neg (fun z => z.elim hba (dg_f c79)), if_pos (nin_or (hy90.f c93))]), rfl⟩)
          ·
            refine r_iconst (v := 0) C dX8_isNumber_82 rfl ?_
            exact hend _ _ _ _ _ dX8_isNumber_83 (rfl) (⟨nb_post (bb := false) (by rw [rdN_eq hN, if_pos (Or.inr (dg_t c79))]), rfl⟩)
      ·
        refine r_aload_n C dX8_isNumber_18 1 rfl ?_
        refine r_geti C dX8_isNumber_19 13 f_X8_185 rfl rfl ?_
        refine r_valI (y := nI b) (by rw [mset_at, upd_ne (by decide), mset_at, upd_at]) ?_
        refine r_iload C dX8_isNumber_22 0 rfl ?_
        refine r_isub C dX8_isNumber_24 ?_
        refine r_valI (y := nI (b - a)) (pk_sub hab) ?_
        refine r_iload_n C dX8_isNumber_25 2 rfl ?_
        refine r_icmp_ge (tgt := 66) C dX8_isNumber_26 (by decide) (fun c26 => ?_) (fun c26 => ?_)
        ·
          have hge : D ≤ b - a := le_of_le (by omega) (by omega) c26
          have hN : numR (M 111) len D a 0 = (v, b) := by rw [← hn, show D - (b - a) = 0 by omega]; rfl
          refine r_aload_n C dX8_isNumber_66 1 rfl ?_
          refine r_geti C dX8_isNumber_67 13 f_X8_185 rfl rfl ?_
          refine r_valI (y := nI b) (by rw [mset_at, upd_ne (by decide), mset_at, upd_at]) ?_
          refine r_iload C dX8_isNumber_70 0 rfl ?_
          refine r_icmp_eq (tgt := 82) C dX8_isNumber_72 (by decide) (fun c72 => ?_) (fun c72 => ?_)
          ·
            have hba : b = a := (nI_eq (by omega) (by omega)).mp c72
            refine r_iconst (v := 0) C dX8_isNumber_82 rfl ?_
            exact hend _ _ _ _ _ dX8_isNumber_83 (rfl) (⟨nb_post (bb := false) (by rw [rdN_eq hN, if_pos (Or.inl hba)]), rfl⟩)
          ·
            have hba : ¬ b = a := fun z => c72 (by rw [z])
            refine r_aload_n C dX8_isNumber_75 1 rfl ?_
            refine r_callVI (As := []) (rest := []) C dX8_isNumber_76 s_X8_191 (c_X8_isDigit l G hG (mset (mset M 107 13 (nI b)) 107 14 v) g len b hlen hbl (by rw [mset_at, upd_ne (by decide), mset_at, upd_ne (by decide)]; exact hl) (by rw [mset_at, upd_ne (by decide), mset_at, upd_at])) (by decide) rfl rfl rfl rfl (Nat.le_of_ble_eq_true rfl) (Nat.le_of_ble_eq_true rfl) (Nat.le_of_ble_eq_true rfl) (pk_I ?_)
            refine r_valI (y := b2i (decide (b < len) && isDig (M 111 b))) (rfl) ?_
            refine r_if_eq (tgt := 84) C dX8_isNumber_79 (by decide) (fun c79 => ?_) (fun c79 => ?_)
            ·
              refine r_aload_n C dX8_isNumber_84 1 rfl ?_
              refine r_geti C dX8_isNumber_85 14 f_X8_188 rfl rfl ?_
              refine r_valI (y := v) (by rw [mset_at, upd_at]) ?_
              refine r_iload_n C dX8_isNumber_88 3 rfl ?_
              refine r_iload_n C dX8_isNumber_89 4 rfl ?_
              refine r_callSI (As := [.int v, .int low, .int high]) (rest := []) C dX8_isNumber_90 s_X8_83 (c_X8_in l G hG (mset (mset M 107 13 (nI b)) 107 14 v) g v low high) (by decide) rfl rfl (Nat.le_of_ble_eq_true rfl) (Nat.le_of_ble_eq_true rfl) (Nat.le_of_ble_eq_true rfl) (fun r90 M90 g90 hp90 => ?_)
              obtain ⟨hy90, eM90, eg90⟩ := hp90
              rw [eg90]
              rw [eM90]
              refine r_if_ne (tgt := 104) C dX8_isNumber_93 (by decide) (fun c93 => ?_) (fun c93 => ?_)
              ·
                refine r_aload_n C dX8_isNumber_104 1 rfl ?_
                refine r_geti C dX8_isNumber_105 13 f_X8_185 rfl rfl ?_
                refine r_valI (y := nI b) (by rw [mset_at, upd_ne (by decide), mset_at, upd_at]) ?_
                refine r_aload_n C dX8_isNumber_108 1 rfl ?_
                refine r_geti C dX8_isNumber_109 5 f_X8_182 rfl rfl ?_
                refine r_valI (y := nI len) (by rw [mset_at, upd_ne (by decide), mset_at, upd_ne (by decide)]; exact hl) ?_
                refine r_icmp_eq (tgt := 129) C dX8_isNumber_112 (by decide) (fun c112 => ?_) (fun c112 => ?_)
                ·
                  have hbe : b = len := (nI_eq (by omega) (by omega)).mp c112
                  refine r_iconst (v := 0) C dX8_isNumber_129 rfl ?_
                  exact hend _ _ _ _ _ dX8_isNumber_130 (rfl) (⟨nb_post (bb := false) (by rw [rdN_eq hN, if_neg (fun z => z.elim hba (dg_f c79)), if_neg (in_nor (hy90.t c93)), if_pos (Or.inl (by omega))]), rfl⟩)
                ·
                  have hbe : ¬ b = len := fun z => c112 (by rw [z])
                  refine r_aload_n C dX8_isNumber_115 1 rfl ?_
                  refine r_getr (q2 := 111) C dX8_isNumber_116 4 f_X8_19 rfl rfl ?_
                  refine r_aload_n C dX8_isNumber_119 1 rfl ?_
                  refine r_geti C dX8_isNumber_120 13 f_X8_185 rfl rfl ?_
                  refine r_valI (y := nI b) (by rw [mset_at, upd_ne (by decide), mset_at, upd_at]) ?_
                  refine r_ialdN (j := b) (v := M 111 b) C dX8_isNumber_123 rfl (rfl) (by omega) (by decide) (rfl) ?_
                  refine r_iload C dX8_isNumber_124 5 rfl ?_
                  refine r_icmp_eq (tgt := 131) C dX8_isNumber_126 (by decide) (fun c126 => ?_) (fun c126 => ?_)
                  ·
                    refine r_aload_n C dX8_isNumber_131 1 rfl ?_
                    refine r_dup C dX8_isNumber_132 rfl ?_
                    refine r_geti C dX8_isNumber_133 13 f_X8_185 rfl rfl ?_
                    refine r_valI (y := nI b) (by rw [mset_at, upd_ne (by decide), mset_at, upd_at]) ?_
                    refine r_iconst (v := 1) C dX8_isNumber_136 rfl ?_
                    refine r_iadd C dX8_isNumber_137 ?_
                    refine r_valI (y := nI (b + 1)) (nI_1 _) ?_
                    refine r_puti C dX8_isNumber_138 13 fi_X8_185 rfl rfl ?_
                    refine r_mem (M' := mset (mset M 107 13 (nI (b + 1))) 107 14 v) (mset_sw (by decide)) ?_
                    refine r_iconst (v := 1) C dX8_isNumber_141 rfl ?_
                    exact hend _ _ _ _ _ dX8_isNumber_142 (rfl) (⟨nb_post (bb := true) (by rw [rdN_eq hN, if_neg (fun z => z.elim hba (dg_f c79)), if_neg (in_nor (hy90.t c93)), if_neg (fun z => z.elim (fun y => by omega) (fun y => y c126))]), rfl⟩)
                  ·
                    refine r_iconst (v := 0) C dX8_isNumber_129 rfl ?_
                    exact hend _ _ _ _ _ dX8_isNumber_130 (rfl) (⟨nb_post (bb := false) (by rw [rdN_eq hN, if_neg (fun z => z.elim hba (dg_f c79)), if_neg (in_nor (hy90.t c93)), if_pos (Or.inr c126)]), rfl⟩)
              ·
                refine r_aload_n C dX8_isNumber_96 1 rfl ?_
                refine r_iload C dX8_isNumber_97 0 rfl ?_
                refine r_puti C dX8_isNumber_99 13 fi_X8_185 rfl rfl ?_
                refine r_mem (M' := mset (mset M 107 13 (nI a)) 107 14 v) (mset_sw (by decide)) ?_
                refine r_iconst (v := 0) C dX8_isNumber_102 rfl ?_
                exact hend _ _ _ _ _ dX8_isNumber_103 (rfl) (⟨nb_post (bb := false) (by rw [rdN_eq hN, if_neg (fun z => z.elim hba (dg_f c79)), if_pos (nin_or (hy90.f c93))]), rfl⟩)
            ·
              refine r_iconst (v := 0) C dX8_isNumber_82 rfl ?_
              exact hend _ _ _ _ _ dX8_isNumber_83 (rfl) (⟨nb_post (bb := false) (by rw [rdN_eq hN, if_pos (Or.inr (dg_t c79))]), rfl⟩)
        ·
          have hlD : b - a < D := lt_of_nle (by omega) c26
          have hdg := dg_t c15
          refine r_aload_n C dX8_isNumber_29 1 rfl ?_
          refine r_bipush (v := 10) C dX8_isNumber_30 rfl ?_
          refine r_aload_n C dX8_isNumber_32 1 rfl ?_
          refine r_geti C dX8_isNumber_33 14 f_X8_188 rfl rfl ?_
          refine r_valI (y := v) (by rw [mset_at, upd_at]) ?_
          refine r_imul C dX8_isNumber_36 ?_
          refine r_aload_n C dX8_isNumber_37 1 rfl ?_
          refine r_getr (q2 := 111) C dX8_isNumber_38 4 f_X8_19 rfl rfl ?_
          refine r_aload_n C dX8_isNumber_41 1 rfl ?_
          refine r_geti C dX8_isNumber_42 13 f_X8_185 rfl rfl ?_
          refine r_valI (y := nI b) (by rw [mset_at, upd_ne (by decide), mset_at, upd_at]) ?_
          refine r_ialdN (j := b) (v := M 111 b) C dX8_isNumber_45 rfl (rfl) (by have := (dg_t c15).1; omega) (by decide) (rfl) ?_
          refine r_iadd C dX8_isNumber_46 ?_
          refine r_bipush (v := 48) C dX8_isNumber_47 rfl ?_
          refine r_isub C dX8_isNumber_49 ?_
          refine r_puti C dX8_isNumber_50 14 fi_X8_188 rfl rfl ?_
          refine r_mem (M' := mset (mset M 107 13 (nI b)) 107 14 (10 * v + M 111 b - 48)) (mset_again _ _ _ _ _) ?_
          refine r_aload_n C dX8_isNumber_53 1 rfl ?_
          refine r_dup C dX8_isNumber_54 rfl ?_
          refine r_geti C dX8_isNumber_55 13 f_X8_185 rfl rfl ?_
          refine r_valI (y := nI b) (by rw [mset_at, upd_ne (by decide), mset_at, upd_at]) ?_
          refine r_iconst (v := 1) C dX8_isNumber_58 rfl ?_
          refine r_iadd C dX8_isNumber_59 ?_
          refine r_valI (y := nI (b + 1)) (nI_1 _) ?_
          refine r_puti C dX8_isNumber_60 13 fi_X8_185 rfl rfl ?_
          refine r_mem (M' := mset (mset M 107 13 (nI (b + 1))) 107 14 (10 * v + M 111 b - 48)) (mset_sw (by decide)) ?_
          refine r_goto (tgt := 11) C dX8_isNumber_63 (by decide) ?_
          refine r_sub (L' := [(5, .int (nI a)), (0, .ref (mA G 107)), (1, .int (nI D)), (2, .int low), (3, .int high), (4, .int en)]) [0, 1, 2, 3, 4, 5] rfl ?_
          exact ih11 (b + 1) _ (by omega) (by omega) (by omega) (by rw [← hn, numR_step (by omega) hdg.1 hdg.2, show D - (b - a) - 1 = D - (b + 1 - a) by omega]) (by omega)
  refine r_mem (M' := mset (mset M 107 13 (nI a)) 107 14 0) (by rw [mset_id ha]) ?_
  refine r_sub (L' := [(5, .int (nI a)), (0, .ref (mA G 107)), (1, .int (nI D)), (2, .int low), (3, .int high), (4, .int en)]) [0, 1, 2, 3, 4, 5] rfl ?_
  exact lp11 _ a 0 (Nat.le_refl a) hal (by omega) (by rw [Nat.sub_self, Nat.sub_zero]) (Nat.lt_succ_self _)

set_option maxRecDepth 20000 in
set_option maxHeartbeats 1000000 in
theorem c_X8_isNodeText (l : Launch) (G : mG) (hG : mInj G) (M : Mem) (g : Glo) (P : View) (hP : rV (M 108) P) (hn16 : vN P ≤ 16) (hn1 : 1 ≤ vN P) (len a : Nat) (hlen : len ≤ 180) (hal : a ≤ len) (hl : M 107 5 = nI len) (ha : M 107 13 = nI a) : mcI l G yX8_isNodeText cX8_isNodeText 6 .boolean 4 [.ref (mA G 107)] M g (fun r M' g' => ntP M M' P len a r ∧ g' = g) := by
  refine mcI_of (L0 := [(0, .ref (mA G 107))]) hG (by decide) (Nat.le_of_ble_eq_true rfl) rfl ?_
  intro p e s m args below meth c Q C hend
  obtain ⟨R1, hR1⟩ : ∃ R, rdN (M 111) len a 2 0 (nI (vN P - 1)) 44 = R := ⟨_, rfl⟩
  have l1 : R1.2.2 ≤ len := by rw [← hR1]; exact rdN_le hal
  obtain ⟨R2, hR2⟩ : ∃ R, rdN (M 111) len R1.2.2 3 1 500 44 = R := ⟨_, rfl⟩
  have l2 : R2.2.2 ≤ len := by rw [← hR2]; exact rdN_le l1
  obtain ⟨R3, hR3⟩ : ∃ R, rdN (M 111) len R2.2.2 2 0 50 44 = R := ⟨_, rfl⟩
  have l3 : R3.2.2 ≤ len := by rw [← hR3]; exact rdN_le l2
  obtain ⟨R4, hR4⟩ : ∃ R, rdN (M 111) len R3.2.2 3 0 500 44 = R := ⟨_, rfl⟩
  have l4 : R4.2.2 ≤ len := by rw [← hR4]; exact rdN_le l3
  obtain ⟨R5, hR5⟩ : ∃ R, rdN (M 111) len R4.2.2 4 0 1200 59 = R := ⟨_, rfl⟩
  refine r_aload_n C dX8_isNodeText_0 0 rfl ?_
  refine r_getr (q2 := 108) C dX8_isNodeText_1 0 f_X8_7 rfl rfl ?_
  refine r_iconst (v := 5) C dX8_isNodeText_4 rfl ?_
  refine r_ialdN (j := 5) (v := nI (vN P)) C dX8_isNodeText_5 rfl (rfl) (by omega) (by decide) (hP.1.1) ?_
  refine r_istore_n (L' := [(1, .int (nI (vN P))), (0, .ref (mA G 107))]) C dX8_isNodeText_6 (by decide) rfl ?_
  refine r_iload_n C dX8_isNodeText_7 0 rfl ?_
  refine r_bipush (v := 16) C dX8_isNodeText_8 rfl ?_
  refine r_icmp_eq (tgt := 27) C dX8_isNodeText_10 (by decide) (fun c10 => ?_) (fun c10 => ?_)
  ·
    have h16 : vN P = 16 := (nI_eq (b := 16) (by omega) (by decide)).mp c10
    refine r_iconst (v := 0) C dX8_isNodeText_27 rfl ?_
    exact hend _ _ _ _ _ dX8_isNodeText_28 (rfl) (⟨⟨Or.inl ⟨h16, rfl, ha⟩, fun _ _ _ => rfl, fun _ _ _ => rfl⟩, rfl⟩)
  ·
    have hn : ¬ vN P = 16 := fun z => c10 (by rw [z]; rfl)
    have hlt16 : vN P < 16 := by omega
    refine r_aload_n C dX8_isNodeText_13 1 rfl ?_
    refine r_iconst (v := 2) C dX8_isNodeText_14 rfl ?_
    refine r_iconst (v := 0) C dX8_isNodeText_15 rfl ?_
    refine r_iload_n C dX8_isNodeText_16 0 rfl ?_
    refine r_iconst (v := 1) C dX8_isNodeText_17 rfl ?_
    refine r_isub C dX8_isNodeText_18 ?_
    refine r_valI (y := nI (vN P - 1)) (pk_sub (b := 1) hn1) ?_
    refine r_bipush (v := 44) C dX8_isNodeText_19 rfl ?_
    refine r_callVI (As := [.int 2, .int 0, .int (nI (vN P - 1)), .int 44]) (rest := []) C dX8_isNodeText_21 s_X8_194 (c_X8_isNumber l G hG M g (M 111) rfl len a 2 0 (nI (vN P - 1)) 44 hlen hal (by decide) hl ha) (by decide) rfl rfl rfl rfl (Nat.le_of_ble_eq_true rfl) (Nat.le_of_ble_eq_true rfl) (Nat.le_of_ble_eq_true rfl) (fun r21 M21 g21 hp21 => ?_)
    obtain ⟨⟨e21, eM21⟩, eg21⟩ := hp21
    rw [eg21]
    rw [hR1] at e21 eM21
    subst eM21
    refine r_if_ne (tgt := 29) C dX8_isNodeText_24 (by decide) (fun c24 => ?_) (fun c24 => ?_)
    ·
      have b1 : R1.1 = true := b2i_1.mp (fun z => c24 (e21.trans z))
      refine r_aload_n C dX8_isNodeText_29 1 rfl ?_
      refine r_geti C dX8_isNodeText_30 14 f_X8_188 rfl rfl ?_
      refine r_valI (y := R1.2.1) (by rw [mset_at, upd_at]) ?_
      refine r_istore_n (L' := [(2, .int R1.2.1), (1, .int (nI (vN P))), (0, .ref (mA G 107))]) C dX8_isNodeText_33 (by decide) rfl ?_
      refine r_aload_n C dX8_isNodeText_34 2 rfl ?_
      refine r_iconst (v := 3) C dX8_isNodeText_35 rfl ?_
      refine r_iconst (v := 1) C dX8_isNodeText_36 rfl ?_
      refine r_sipush (v := 500) C dX8_isNodeText_37 rfl ?_
      refine r_bipush (v := 44) C dX8_isNodeText_40 rfl ?_
      refine r_callVI (As := [.int 3, .int 1, .int 500, .int 44]) (rest := []) C dX8_isNodeText_42 s_X8_194 (c_X8_isNumber l G hG (mset (mset M 107 13 (nI R1.2.2)) 107 14 R1.2.1) g (M 111) rfl len R1.2.2 3 1 500 44 hlen l1 (by decide) (by rw [mset_at, upd_ne (by decide), mset_at, upd_ne (by decide)]; exact hl) (by rw [mset_at, upd_ne (by decide), mset_at, upd_at])) (by decide) rfl rfl rfl rfl (Nat.le_of_ble_eq_true rfl) (Nat.le_of_ble_eq_true rfl) (Nat.le_of_ble_eq_true rfl) (fun r42 M42 g42 hp42 => ?_)
      obtain ⟨⟨e42, eM42⟩, eg42⟩ := hp42
      rw [eg42]
      rw [hR2] at e42 eM42
      subst eM42
      refine r_mem (M' := mset (mset M 107 13 (nI R2.2.2)) 107 14 R2.2.1) (mset_2 (by decide)) ?_
      refine r_if_ne (tgt := 50) C dX8_isNodeText_45 (by decide) (fun c45 => ?_) (fun c45 => ?_)
      ·
        have b2 : R2.1 = true := b2i_1.mp (fun z => c45 (e42.trans z))
        refine r_aload_n C dX8_isNodeText_50 2 rfl ?_
        refine r_geti C dX8_isNodeText_51 14 f_X8_188 rfl rfl ?_
        refine r_valI (y := R2.2.1) (by rw [mset_at, upd_at]) ?_
        refine r_istore_n (L' := [(3, .int R2.2.1), (2, .int R1.2.1), (1, .int (nI (vN P))), (0, .ref (mA G 107))]) C dX8_isNodeText_54 (by decide) rfl ?_
        refine r_aload_n C dX8_isNodeText_55 3 rfl ?_
        refine r_iconst (v := 2) C dX8_isNodeText_56 rfl ?_
        refine r_iconst (v := 0) C dX8_isNodeText_57 rfl ?_
        refine r_bipush (v := 50) C dX8_isNodeText_58 rfl ?_
        refine r_bipush (v := 44) C dX8_isNodeText_60 rfl ?_
        refine r_callVI (As := [.int 2, .int 0, .int 50, .int 44]) (rest := []) C dX8_isNodeText_62 s_X8_194 (c_X8_isNumber l G hG (mset (mset M 107 13 (nI R2.2.2)) 107 14 R2.2.1) g (M 111) rfl len R2.2.2 2 0 50 44 hlen l2 (by decide) (by rw [mset_at, upd_ne (by decide), mset_at, upd_ne (by decide)]; exact hl) (by rw [mset_at, upd_ne (by decide), mset_at, upd_at])) (by decide) rfl rfl rfl rfl (Nat.le_of_ble_eq_true rfl) (Nat.le_of_ble_eq_true rfl) (Nat.le_of_ble_eq_true rfl) (fun r62 M62 g62 hp62 => ?_)
        obtain ⟨⟨e62, eM62⟩, eg62⟩ := hp62
        rw [eg62]
        rw [hR3] at e62 eM62
        subst eM62
        refine r_mem (M' := mset (mset M 107 13 (nI R3.2.2)) 107 14 R3.2.1) (mset_2 (by decide)) ?_
        refine r_if_ne (tgt := 70) C dX8_isNodeText_65 (by decide) (fun c65 => ?_) (fun c65 => ?_)
        ·
          have b3 : R3.1 = true := b2i_1.mp (fun z => c65 (e62.trans z))
          refine r_aload_n C dX8_isNodeText_70 3 rfl ?_
          refine r_geti C dX8_isNodeText_71 14 f_X8_188 rfl rfl ?_
          refine r_valI (y := R3.2.1) (by rw [mset_at, upd_at]) ?_
          refine r_istore (L' := [(4, .int R3.2.1), (3, .int R2.2.1), (2, .int R1.2.1), (1, .int (nI (vN P))), (0, .ref (mA G 107))]) C dX8_isNodeText_74 (by decide) rfl ?_
          refine r_aload_n C dX8_isNodeText_76 4 rfl ?_
          refine r_iconst (v := 3) C dX8_isNodeText_77 rfl ?_
          refine r_iconst (v := 0) C dX8_isNodeText_78 rfl ?_
          refine r_sipush (v := 500) C dX8_isNodeText_79 rfl ?_
          refine r_bipush (v := 44) C dX8_isNodeText_82 rfl ?_
          refine r_callVI (As := [.int 3, .int 0, .int 500, .int 44]) (rest := []) C dX8_isNodeText_84 s_X8_194 (c_X8_isNumber l G hG (mset (mset M 107 13 (nI R3.2.2)) 107 14 R3.2.1) g (M 111) rfl len R3.2.2 3 0 500 44 hlen l3 (by decide) (by rw [mset_at, upd_ne (by decide), mset_at, upd_ne (by decide)]; exact hl) (by rw [mset_at, upd_ne (by decide), mset_at, upd_at])) (by decide) rfl rfl rfl rfl (Nat.le_of_ble_eq_true rfl) (Nat.le_of_ble_eq_true rfl) (Nat.le_of_ble_eq_true rfl) (fun r84 M84 g84 hp84 => ?_)
          obtain ⟨⟨e84, eM84⟩, eg84⟩ := hp84
          rw [eg84]
          rw [hR4] at e84 eM84
          subst eM84
          refine r_mem (M' := mset (mset M 107 13 (nI R4.2.2)) 107 14 R4.2.1) (mset_2 (by decide)) ?_
          refine r_if_ne (tgt := 92) C dX8_isNodeText_87 (by decide) (fun c87 => ?_) (fun c87 => ?_)
          ·
            have b4 : R4.1 = true := b2i_1.mp (fun z => c87 (e84.trans z))
            refine r_aload_n C dX8_isNodeText_92 4 rfl ?_
            refine r_geti C dX8_isNodeText_93 14 f_X8_188 rfl rfl ?_
            refine r_valI (y := R4.2.1) (by rw [mset_at, upd_at]) ?_
            refine r_istore (L' := [(5, .int R4.2.1), (4, .int R3.2.1), (3, .int R2.2.1), (2, .int R1.2.1), (1, .int (nI (vN P))), (0, .ref (mA G 107))]) C dX8_isNodeText_96 (by decide) rfl ?_
            refine r_aload_n C dX8_isNodeText_98 5 rfl ?_
            refine r_iconst (v := 4) C dX8_isNodeText_99 rfl ?_
            refine r_iconst (v := 0) C dX8_isNodeText_100 rfl ?_
            refine r_sipush (v := 1200) C dX8_isNodeText_101 rfl ?_
            refine r_bipush (v := 59) C dX8_isNodeText_104 rfl ?_
            refine r_callVI (As := [.int 4, .int 0, .int 1200, .int 59]) (rest := []) C dX8_isNodeText_106 s_X8_194 (c_X8_isNumber l G hG (mset (mset M 107 13 (nI R4.2.2)) 107 14 R4.2.1) g (M 111) rfl len R4.2.2 4 0 1200 59 hlen l4 (by decide) (by rw [mset_at, upd_ne (by decide), mset_at, upd_ne (by decide)]; exact hl) (by rw [mset_at, upd_ne (by decide), mset_at, upd_at])) (by decide) rfl rfl rfl rfl (Nat.le_of_ble_eq_true rfl) (Nat.le_of_ble_eq_true rfl) (Nat.le_of_ble_eq_true rfl) (fun r106 M106 g106 hp106 => ?_)
            obtain ⟨⟨e106, eM106⟩, eg106⟩ := hp106
            rw [eg106]
            rw [hR5] at e106 eM106
            subst eM106
            refine r_mem (M' := mset (mset M 107 13 (nI R5.2.2)) 107 14 R5.2.1) (mset_2 (by decide)) ?_
            refine r_if_ne (tgt := 114) C dX8_isNodeText_109 (by decide) (fun c109 => ?_) (fun c109 => ?_)
            ·
              have b5 : R5.1 = true := b2i_1.mp (fun z => c109 (e106.trans z))
              refine r_aload_n C dX8_isNodeText_114 5 rfl ?_
              refine r_iload_n C dX8_isNodeText_115 3 rfl ?_
              refine r_iload_n C dX8_isNodeText_116 2 rfl ?_
              refine r_iload C dX8_isNodeText_117 1 rfl ?_
              refine r_iload C dX8_isNodeText_119 0 rfl ?_
              refine r_aload_n C dX8_isNodeText_121 5 rfl ?_
              refine r_geti C dX8_isNodeText_122 14 f_X8_188 rfl rfl ?_
              refine r_valI (y := R5.2.1) (by rw [mset_at, upd_at]) ?_
              refine r_callVV (As := [.int R1.2.1, .int R2.2.1, .int R3.2.1, .int R4.2.1, .int R5.2.1]) (rest := []) C dX8_isNodeText_125 s_X8_108 (c_X8_adds l G hG (mset (mset M 107 13 (nI R5.2.2)) 107 14 R5.2.1) g P (by rw [mset_ne (by decide), mset_ne (by decide)]; exact hP) hlt16 R1.2.1 R2.2.1 R3.2.1 R4.2.1 R5.2.1) (by decide) rfl rfl rfl rfl (Nat.le_of_ble_eq_true rfl) (Nat.le_of_ble_eq_true rfl) (Nat.le_of_ble_eq_true rfl) (pk_V ?_)
              refine r_iconst (v := 1) C dX8_isNodeText_128 rfl ?_
              exact hend _ _ _ _ _ dX8_isNodeText_129 (rfl) (⟨nt_t hlt16 hP (rdNode_t hR1 hR2 hR3 hR4 hR5 b1 b2 b3 b4 b5), rfl⟩)
            ·
              have b5 : R5.1 = false := b2i_0.mp (e106.symm.trans c109)
              refine r_iconst (v := 0) C dX8_isNodeText_112 rfl ?_
              exact hend _ _ _ _ _ dX8_isNodeText_113 (rfl) (⟨nt_f hn (rdNode_f5 hR1 hR2 hR3 hR4 hR5 b1 b2 b3 b4 b5), rfl⟩)
          ·
            have b4 : R4.1 = false := b2i_0.mp (e84.symm.trans c87)
            refine r_iconst (v := 0) C dX8_isNodeText_90 rfl ?_
            exact hend _ _ _ _ _ dX8_isNodeText_91 (rfl) (⟨nt_f hn (rdNode_f4 hR1 hR2 hR3 hR4 b1 b2 b3 b4), rfl⟩)
        ·
          have b3 : R3.1 = false := b2i_0.mp (e62.symm.trans c65)
          refine r_iconst (v := 0) C dX8_isNodeText_68 rfl ?_
          exact hend _ _ _ _ _ dX8_isNodeText_69 (rfl) (⟨nt_f hn (rdNode_f3 hR1 hR2 hR3 b1 b2 b3), rfl⟩)
      ·
        have b2 : R2.1 = false := b2i_0.mp (e42.symm.trans c45)
        refine r_iconst (v := 0) C dX8_isNodeText_48 rfl ?_
        exact hend _ _ _ _ _ dX8_isNodeText_49 (rfl) (⟨nt_f hn (rdNode_f2 hR1 hR2 b1 b2), rfl⟩)
    ·
      have b1 : R1.1 = false := b2i_0.mp (e21.symm.trans c24)
      refine r_iconst (v := 0) C dX8_isNodeText_27 rfl ?_
      exact hend _ _ _ _ _ dX8_isNodeText_28 (rfl) (⟨nt_f hn (rdNode_f1 hR1 b1), rfl⟩)

theorem numR_ge (T : Nat → Int32) (len : Nat) : ∀ (d a : Nat) (v : Int32), a ≤ (numR T len d a v).2
  | 0, a, v => Nat.le_refl a
  | d + 1, a, v => by
    rw [numR]
    split
    · have := numR_ge T len d (a + 1) (10 * v + T a - 48)
      omega
    · exact Nat.le_refl a
theorem rdN_gt {T : Nat → Int32} {len a D : Nat} {low high en : Int32} (h : (rdN T len a D low high en).1 = true) : a < (rdN T len a D low high en).2.2 := by
  unfold rdN at h ⊢
  by_cases h1 : (numR T len D a 0).2 = a ∨ ((numR T len D a 0).2 < len ∧ isDig (T (numR T len D a 0).2) = true)
  · rw [if_pos h1] at h; exact absurd h Bool.false_ne_true
  · rw [if_neg h1] at h ⊢
    by_cases h2 : (numR T len D a 0).1 < low ∨ high < (numR T len D a 0).1
    · rw [if_pos h2] at h; exact absurd h Bool.false_ne_true
    · rw [if_neg h2] at h ⊢
      by_cases h3 : len ≤ (numR T len D a 0).2 ∨ ¬ T (numR T len D a 0).2 = en
      · rw [if_pos h3] at h; exact absurd h Bool.false_ne_true
      · rw [if_neg h3]
        have h4 := numR_ge T len D a 0
        show a < (numR T len D a 0).2 + 1
        omega
theorem rdNode_gt {T : Nat → Int32} {len a n : Nat} (h : (rdNode T len a n).1 = true) : a < (rdNode T len a n).2.1 := by
  cases b1 : (rdN T len a 2 0 (nI (n - 1)) 44).1 with
  | false => rw [rdNode_f1 rfl b1] at h; exact absurd h Bool.false_ne_true
  | true =>
    cases b2 : (rdN T len (rdN T len a 2 0 (nI (n - 1)) 44).2.2 3 1 500 44).1 with
    | false => rw [rdNode_f2 rfl rfl b1 b2] at h; exact absurd h Bool.false_ne_true
    | true =>
      cases b3 : (rdN T len (rdN T len (rdN T len a 2 0 (nI (n - 1)) 44).2.2 3 1 500 44).2.2 2 0 50 44).1 with
      | false => rw [rdNode_f3 rfl rfl rfl b1 b2 b3] at h; exact absurd h Bool.false_ne_true
      | true =>
        cases b4 : (rdN T len (rdN T len (rdN T len (rdN T len a 2 0 (nI (n - 1)) 44).2.2 3 1 500 44).2.2 2 0 50 44).2.2 3 0 500 44).1 with
        | false => rw [rdNode_f4 rfl rfl rfl rfl b1 b2 b3 b4] at h; exact absurd h Bool.false_ne_true
        | true =>
          cases b5 : (rdN T len (rdN T len (rdN T len (rdN T len (rdN T len a 2 0 (nI (n - 1)) 44).2.2 3 1 500 44).2.2 2 0 50 44).2.2 3 0 500 44).2.2 4 0 1200 59).1 with
          | false => rw [rdNode_f5 rfl rfl rfl rfl rfl b1 b2 b3 b4 b5] at h; exact absurd h Bool.false_ne_true
          | true =>
            rw [rdNode_t rfl rfl rfl rfl rfl b1 b2 b3 b4 b5]
            have g1 := rdN_gt b1
            have g2 := rdN_gt b2
            have g3 := rdN_gt b3
            have g4 := rdN_gt b4
            have g5 := rdN_gt b5
            show a < (rdN T len (rdN T len (rdN T len (rdN T len (rdN T len a 2 0 (nI (n - 1)) 44).2.2 3 1 500 44).2.2 2 0 50 44).2.2 3 0 500 44).2.2 4 0 1200 59).2.2
            omega
/-- while the text is read -/
def rdP (M N : Mem) (V P : View) (len a f : Nat) : Prop := rV (N 108) (vNet V P) ∧ vN P + f = 17 ∧ 1 ≤ f ∧ 1 ≤ vN P ∧ N 107 13 = nI a ∧ a ≤ len ∧ psF (M 111) len f P a = psF (M 111) len 16 vOne 0 ∧ (∀ q, q ≠ 107 → q ≠ 108 → q ≠ 110 → N q = M q) ∧ (∀ i, i ≠ 13 → i ≠ 14 → N 107 i = M 107 i) ∧ ∀ k, k < 149 → N 110 k = M 108 k
theorem rd_go {M N N' : Mem} {V P : View} {len a f : Nat} {r : Int32} (h : rdP M N V P len a f) (hal : a < len) (hx : ntP N N' (vNet V P) len a r) (hr : ¬ r = 0) : ∃ P' a' f', a < a' ∧ rdP M N' V P' len a' f' := by
  obtain ⟨h1, h2, h3, h4, h5, h6, h7, h8, h9, h10⟩ := h
  obtain ⟨y, z1, z2⟩ := hx
  rcases y with ⟨_, q, _⟩ | ⟨b1, b2, b3, b4⟩
  · exact absurd q hr
  · have e111 : N 111 = M 111 := h8 111 (by decide) (by decide) (by decide)
    have hn : vN (vNet V P) = vN P := rfl
    rw [hn] at b1 b2 b3 b4
    rw [e111] at b2 b3 b4
    have hX : (rdNode (M 111) len a (vN P)).1 = true := b2i_1.mp (fun z => hr (b2.trans z))
    have hlt := rdNode_gt hX
    obtain ⟨f2, rfl⟩ : ∃ f2, f = f2 + 1 := ⟨f - 1, by omega⟩
    refine ⟨vPar P (rdNode (M 111) len a (vN P)), (rdNode (M 111) len a (vN P)).2.1, f2, hlt, b4 hX, by rw [vPar_N]; omega, by omega, by rw [vPar_N]; omega, b3, rdNode_le h6, ?_, fun q a b c => (z1 q a b).trans (h8 q a b c), fun i a b => (z2 i a b).trans (h9 i a b), fun k hk => by rw [z1 110 (by decide) (by decide)]; exact h10 k hk⟩
    rw [← h7, psF, if_neg (by omega), if_neg b1, if_pos hX]
theorem rd_stop {M N N' : Mem} {V P : View} {len a f : Nat} {r : Int32} (h : rdP M N V P len a f) (hal : a < len) (hx : ntP N N' (vNet V P) len a r) (hr : r = 0) : ∃ pos, (psF (M 111) len 16 vOne 0).1 = false ∧ (psF (M 111) len 16 vOne 0).2.2 = pos ∧ N' 107 13 = nI pos ∧ (∀ q, q ≠ 107 → q ≠ 108 → q ≠ 110 → N' q = M q) ∧ (∀ i, i ≠ 13 → i ≠ 14 → N' 107 i = M 107 i) ∧ ∀ k, k < 149 → N' 110 k = M 108 k := by
  obtain ⟨h1, h2, h3, h4, h5, h6, h7, h8, h9, h10⟩ := h
  obtain ⟨y, z1, z2⟩ := hx
  have e111 : N 111 = M 111 := h8 111 (by decide) (by decide) (by decide)
  have hn : vN (vNet V P) = vN P := rfl
  rw [hn, e111] at y
  obtain ⟨f2, rfl⟩ : ∃ f2, f = f2 + 1 := ⟨f - 1, by omega⟩
  have w1 : ∀ q, q ≠ 107 → q ≠ 108 → q ≠ 110 → N' q = M q := fun q a b c => (z1 q a b).trans (h8 q a b c)
  have w2 : ∀ i, i ≠ 13 → i ≠ 14 → N' 107 i = M 107 i := fun i a b => (z2 i a b).trans (h9 i a b)
  have w3 : ∀ k, k < 149 → N' 110 k = M 108 k := fun k hk => by rw [z1 110 (by decide) (by decide)]; exact h10 k hk
  rcases y with ⟨b1, _, b3⟩ | ⟨b1, b2, b3, b4⟩
  · have e : psF (M 111) len 16 vOne 0 = (false, P, a) := by rw [← h7, psF, if_neg (by omega), if_pos b1]
    exact ⟨a, by rw [e], by rw [e], b3, w1, w2, w3⟩
  · have hX : ¬ (rdNode (M 111) len a (vN P)).1 = true := by
      rw [b2i_0.mp (b2.symm.trans hr)]
      decide
    have e : psF (M 111) len 16 vOne 0 = (false, P, (rdNode (M 111) len a (vN P)).2.1) := by rw [← h7, psF, if_neg (by omega), if_neg b1, if_neg hX]
    exact ⟨_, by rw [e], by rw [e], b3, w1, w2, w3⟩
theorem rd_end {M N : Mem} {V P : View} {len a f : Nat} (h : rdP M N V P len a f) (hal : len ≤ a) : psF (M 111) len 16 vOne 0 = (true, P, a) := by
  obtain ⟨h1, h2, h3, h4, h5, h6, h7, h8, h9, h10⟩ := h
  obtain ⟨f2, rfl⟩ : ∃ f2, f = f2 + 1 := ⟨f - 1, by omega⟩
  rw [← h7, psF, if_pos hal]
theorem rd_start {M : Mem} {V : View} {len : Nat} {fh : Nat → Int32} (hW : wfV V) (hV : rV (M 108) V) (hfh : ∀ k, k < 149 → fh k = M 108 k) : rdP M (mset (mset (mrow M 110 fh) 107 13 0) 108 5 1) V vOne len 0 16 := by
  refine ⟨?_, rfl, by decide, by decide, by rw [mset_ne (by decide), mset_at, upd_at]; rfl, Nat.zero_le _, rfl, fun q a b c => by rw [mset_ne b, mset_ne a, mrow_ne c], fun i a b => by rw [mset_ne (by decide), mset_at, upd_ne a, mrow_ne (by decide)], fun k hk => by rw [mset_ne (by decide), mset_ne (by decide), mrow_at]; exact hfh k hk⟩
  rw [mset_at, mset_ne (by decide), mrow_ne (by decide)]
  obtain ⟨⟨a1, a2⟩, ⟨b0, b1, b2, b3, b4, b7, b8⟩, c, d⟩ := hV
  refine ⟨⟨by rw [upd_at]; rfl, by rw [upd_ne (by decide)]; exact a2⟩, ⟨?_, ?_, ?_, ?_, ?_, ?_, ?_⟩, fun w hw j hj => ?_, fun w hw b hb => by rw [upd_ne (by omega)]; exact d w hw b hb⟩
  · rw [upd_ne (by decide)]; exact b0
  · rw [upd_ne (by decide)]; exact b1
  · rw [upd_ne (by decide)]; exact b2
  · rw [upd_ne (by decide)]; exact b3
  · rw [upd_ne (by decide)]; exact b4
  · rw [upd_ne (by decide)]; exact b7
  · rw [upd_ne (by decide)]; exact b8
  · have hj1 : j < 1 := hj
    have : j = 0 := by omega
    subst this
    rw [upd_ne (by omega)]
    exact (c w hw 0 (by have := hW.1.1; omega)).trans (hW.2.1 w hw)
theorem par_fin {M N : Mem} {V : View} {Hs : List View} {len : Nat} {T f : Nat → Int32} (hI : rINV M V Hs len T) (hn : vN V ≤ 16) (hb : vB V ≤ 4) (hf : ∀ j, j < 149 → f j = M 108 j) (w1 : ∀ q, q ≠ 107 → q ≠ 108 → q ≠ 110 → N q = M q) (w2 : ∀ i, i ≠ 13 → i ≠ 14 → N 107 i = M 107 i) : rINV (mset (mrow N 108 f) 107 6 0) V Hs len T ∧ offR M (mset (mrow N 108 f) 107 6 0) 107 116 := by
  obtain ⟨h1, ⟨h2, h3, h4⟩, h5, h6, h7⟩ := hI
  refine ⟨⟨by rw [mset_ne (by decide), mrow_at]; exact rV_cong hn hb (fun k hk => (hf k hk).symm) h1, ⟨?_, h3, fun i W hi => ?_⟩, ?_, h6, fun j hj => ?_⟩, fun q hq => by rw [mset_ne (by omega), mrow_ne (by omega), w1 q (by omega) (by omega) (by omega)]⟩
  · rw [mset_at, upd_ne (by decide), mrow_ne (by decide), w2 3 (by decide) (by decide)]; exact h2
  · rw [mset_ne (by decide), mrow_ne (by decide), w1 109 (by decide) (by decide) (by decide)]; exact h4 i W hi
  · rw [mset_at, upd_ne (by decide), mrow_ne (by decide), w2 5 (by decide) (by decide)]; exact h5
  · rw [mset_ne (by decide), mrow_ne (by decide), w1 111 (by decide) (by decide) (by decide)]; exact h7 j hj
theorem rd_hd {M N : Mem} {V P : View} {Hs : List View} {len a f : Nat} {T : Nat → Int32} (hI : rINV M V Hs len T) (hd : rdP M N V P len a f) : rHis N Hs ∧ rTxt N len T := by
  obtain ⟨h1, h2, h3, h4, h5, h6, h7, h8, h9, h10⟩ := hd
  exact hd2 hI (h9 3 (by decide) (by decide)) (h9 5 (by decide) (by decide)) (h8 109 (by decide) (by decide) (by decide)) (h8 111 (by decide) (by decide) (by decide))
set_option maxRecDepth 20000 in
set_option maxHeartbeats 1000000 in
theorem c_X8_parse (l : Launch) (G : mG) (hG : mInj G) (M : Mem) (g : Glo) (V : View) (Hs : List View) (len : Nat) (T : Nat → Int32) (hW : wfV V) (hI : rINV M V Hs len T) (hHs : ∀ W, W ∈ Hs → wfV W) : mcI l G yX8_parse cX8_parse 2 .int 5 [.ref (mA G 107)] M g (fun r M' g' => (((((psF T len 16 vOne 0).1 = true ∧ r = nI (vN (psF T len 16 vOne 0).2.1) ∧ rINV M' (vNet V (psF T len 16 vOne 0).2.1) (hPush Hs V) len T) ∨ ((psF T len 16 vOne 0).1 = false ∧ r = -10 - nI (psF T len 16 vOne 0).2.2 ∧ rINV M' V Hs len T)) ∧ offR M M' 107 116) ∧ g' = g)) := by
  refine mcI_of (L0 := [(0, .ref (mA G 107))]) hG (by decide) (Nat.le_of_ble_eq_true rfl) rfl ?_
  intro p e s m args below meth c Q C hend
  have hT := hW.1
  obtain ⟨hn1, hn16, hb4, ⟨hd0, hd3, hd5, hd6⟩, hpar⟩ := id hT
  have hV := hI.1
  obtain ⟨hl5, hlen, htx⟩ := id hI.2.2
  have hfl2 : psF (M 111) len 16 vOne 0 = psF T len 16 vOne 0 := psF_fl htx 16 vOne 0 (Nat.zero_le _)
  refine r_aload_n C dX8_parse_0 0 rfl ?_
  refine r_callVV (As := []) (rest := []) C dX8_parse_1 s_X8_105 (c_X8_hold l G hG M g ) (by decide) rfl rfl rfl rfl (Nat.le_of_ble_eq_true rfl) (Nat.le_of_ble_eq_true rfl) (Nat.le_of_ble_eq_true rfl) (fun M1 g1 hp1 => ?_)
  obtain ⟨⟨fh, rfl, hfh⟩, eg1⟩ := hp1
  rw [eg1]
  refine r_aload_n C dX8_parse_4 0 rfl ?_
  refine r_iconst (v := 0) C dX8_parse_5 rfl ?_
  refine r_puti C dX8_parse_6 13 fi_X8_185 rfl rfl ?_
  refine r_aload_n C dX8_parse_9 0 rfl ?_
  refine r_getr (q2 := 108) C dX8_parse_10 0 f_X8_7 rfl rfl ?_
  refine r_iconst (v := 5) C dX8_parse_13 rfl ?_
  refine r_iconst (v := 1) C dX8_parse_14 rfl ?_
  refine r_iastN (j := 5) C dX8_parse_15 rfl (rfl) (by omega) (by decide) ?_
  have lp16 : ∀ (fu : Nat) (N : Mem) (P : View) (a ff : Nat), (rdP M N V P len a ff) → (len - a) < fu → At p l e (rmD 5 0 0) s m args below meth c G 2 0 0 Q N g [(0, .ref (mA G 107))] 16 [] := by
    intro fu
    induction fu with
    | zero => intro N P a ff hd hfu; exact absurd hfu (Nat.not_lt_zero _)
    | succ fu ih16 =>
      intro N P a ff hd hfu16
      have hal9 : a ≤ len := hd.2.2.2.2.2.1
      refine r_aload_n C dX8_parse_16 0 rfl ?_
      refine r_geti C dX8_parse_17 13 f_X8_185 rfl rfl ?_
      refine r_valI (y := nI a) (hd.2.2.2.2.1) ?_
      refine r_aload_n C dX8_parse_20 0 rfl ?_
      refine r_geti C dX8_parse_21 5 f_X8_182 rfl rfl ?_
      refine r_valI (y := nI len) (by rw [hd.2.2.2.2.2.2.2.2.1 5 (by decide) (by decide)]; exact hl5) ?_
      refine r_icmp_ge (tgt := 73) C dX8_parse_24 (by decide) (fun c24 => ?_) (fun c24 => ?_)
      ·
        have hge : len ≤ a := le_of_le (by omega) (by omega) c24
        refine r_aload_n C dX8_parse_73 0 rfl ?_
        refine r_aload_n C dX8_parse_74 0 rfl ?_
        refine r_getr (q2 := 108) C dX8_parse_75 0 f_X8_7 rfl rfl ?_
        refine r_iconst (v := 5) C dX8_parse_78 rfl ?_
        refine r_ialdN (j := 5) (v := nI (vN P)) C dX8_parse_79 rfl (rfl) (by omega) (by decide) (hd.1.1.1) ?_
        refine r_callVI (As := [.int (nI (vN P))]) (rest := []) C dX8_parse_80 s_X8_112 (c_X8_ends l G hG N g V (vNet V P) Hs len T hHs (rd_hd hI hd).1 (rd_hd hI hd).2 (rV_cong hn16 hb4 (fun k hk => (hd.2.2.2.2.2.2.2.2.2 k hk).symm) hV) hn16 hb4 hd.1 (nI (vN P))) (by decide) rfl rfl rfl rfl (Nat.le_of_ble_eq_true rfl) (Nat.le_of_ble_eq_true rfl) (Nat.le_of_ble_eq_true rfl) (fun r80 M80 g80 hp80 => ?_)
        obtain ⟨⟨e80, hd80⟩, eg80⟩ := hp80
        rw [eg80]
        exact hend _ _ _ _ _ dX8_parse_83 (rfl) (by have hE := rd_end hd hge; rw [hfl2] at hE; rw [hE]; exact ⟨⟨Or.inl ⟨rfl, e80, hd80.1⟩, fun q hq => (hd80.2.2 q hq).trans (hd.2.2.2.2.2.2.2.1 q (by omega) (by omega) (by omega))⟩, rfl⟩)
      ·
        have hal : a < len := lt_of_nle (by omega) c24
        refine r_aload_n C dX8_parse_27 0 rfl ?_
        refine r_callVI (As := []) (rest := []) C dX8_parse_28 s_X8_198 (c_X8_isNodeText l G hG N g (vNet V P) hd.1 (by show vN P ≤ 16; have := hd.2.1; have := hd.2.2.1; omega) hd.2.2.2.1 len a hlen hd.2.2.2.2.2.1 (by rw [hd.2.2.2.2.2.2.2.2.1 5 (by decide) (by decide)]; exact hl5) hd.2.2.2.2.1) (by decide) rfl rfl rfl rfl (Nat.le_of_ble_eq_true rfl) (Nat.le_of_ble_eq_true rfl) (Nat.le_of_ble_eq_true rfl) (fun r28 M28 g28 hp28 => ?_)
        obtain ⟨hx28, eg28⟩ := hp28
        rw [eg28]
        refine r_if_ne (tgt := 16) C dX8_parse_31 (by decide) (fun c31 => ?_) (fun c31 => ?_)
        ·
          obtain ⟨P2, a2, f2, hlt2, hd2⟩ := rd_go hd hal hx28 c31
          refine r_sub (L' := [(0, .ref (mA G 107))]) [0] rfl ?_
          exact ih16 _ P2 a2 f2 hd2 (by have := hd2.2.2.2.2.2.1; omega)
        ·
          obtain ⟨pos, hp1, hp2, hp13, hpq, hpi, hp110⟩ := rd_stop hd hal hx28 c31
          refine r_iconst (v := nI 0) C dX8_parse_34 rfl ?_
          refine r_istore_n (L' := [(1, .int (nI 0)), (0, .ref (mA G 107))]) C dX8_parse_35 (by decide) rfl ?_
          have lp36 : ∀ (fu : Nat) (k : Nat) (f : Nat → Int32), (k ≤ 149) → (∀ j, j < k → f j = M 108 j) → (149 - k) < fu → At p l e (rmD 5 0 0) s m args below meth c G 2 0 0 Q (mrow M28 108 f) g [(1, .int (nI k)), (0, .ref (mA G 107))] 36 [] := by
            intro fu
            induction fu with
            | zero => intro k f hkn hf hfu; exact absurd hfu (Nat.not_lt_zero _)
            | succ fu ih36 =>
              intro k f hkn hf hfu36
              refine r_iload_n C dX8_parse_36 0 rfl ?_
              refine r_sipush (v := 149) C dX8_parse_37 rfl ?_
              refine r_icmp_ge (tgt := 61) C dX8_parse_40 (by decide) (fun c40 => ?_) (fun c40 => ?_)
              ·
                have hkn2 : k = 149 := by have := le_of_le (a := 149) (by decide) (by omega) c40; omega
                refine r_aload_n C dX8_parse_61 1 rfl ?_
                refine r_bipush (v := (-10)) C dX8_parse_62 rfl ?_
                refine r_aload_n C dX8_parse_64 1 rfl ?_
                refine r_geti C dX8_parse_65 13 f_X8_185 rfl rfl ?_
                refine r_valI (y := nI pos) (by rw [mrow_ne (by decide)]; exact hp13) ?_
                refine r_isub C dX8_parse_68 ?_
                refine r_callVI (As := [.int ((-10) - (nI pos))]) (rest := []) C dX8_parse_69 s_X8_44 (c_X8_tells l G hG (mrow M28 108 f) g (-10 - nI pos)) (by decide) rfl rfl rfl rfl (Nat.le_of_ble_eq_true rfl) (Nat.le_of_ble_eq_true rfl) (Nat.le_of_ble_eq_true rfl) (pk_I ?_)
                exact hend _ _ _ _ _ dX8_parse_72 (rfl) (⟨⟨Or.inr ⟨by rw [← hfl2]; exact hp1, by rw [← hfl2, hp2], (par_fin hI hn16 hb4 (fun j hj => hf j (by omega)) hpq hpi).1⟩, (par_fin hI hn16 hb4 (fun j hj => hf j (by omega)) hpq hpi).2⟩, rfl⟩)
              ·
                have hlt : k < 149 := lt_of_nle (b := 149) (by omega) c40
                refine r_aload_n C dX8_parse_43 1 rfl ?_
                refine r_getr (q2 := 108) C dX8_parse_44 0 f_X8_7 rfl rfl ?_
                refine r_iload_n C dX8_parse_47 0 rfl ?_
                refine r_aload_n C dX8_parse_48 1 rfl ?_
                refine r_getr (q2 := 110) C dX8_parse_49 2 f_X8_16 rfl rfl ?_
                refine r_iload_n C dX8_parse_52 0 rfl ?_
                refine r_ialdN (j := k) (v := M 108 k) C dX8_parse_53 rfl (rfl) (by omega) (by decide) (by rw [mrow_ne (by decide)]; exact hp110 k hlt) ?_
                refine r_iastN (j := k) C dX8_parse_54 rfl (rfl) (by omega) (by decide) ?_
                refine r_mem (M' := mrow M28 108 (upd f k (M 108 k))) (mset_row _ _ _ _ _) ?_
                refine r_iinc (v := nI (k + 1)) (L' := [(1, .int (nI (k + 1))), (0, .ref (mA G 107))]) C dX8_parse_55 0 rfl (nI_inc _) (by decide) rfl ?_
                refine r_goto (tgt := 36) C dX8_parse_58 (by decide) ?_
                refine r_sub (L' := [(1, .int (nI (k + 1))), (0, .ref (mA G 107))]) [0, 1] rfl ?_
                exact ih36 (k + 1) _ (by omega) (fun j hj => by rcases Nat.lt_or_ge j k with q | q; (rw [upd_ne (by omega)]; exact hf j q); (have e9 : j = k := by omega); subst e9; rw [upd_at]) (by omega)
          refine r_mem (M' := mrow M28 108 (M28 108)) (mrow_self M28 108).symm ?_
          refine r_sub (L' := [(1, .int (nI 0)), (0, .ref (mA G 107))]) [0, 1] rfl ?_
          exact lp36 _ 0 (M28 108) (by omega) (fun j hj => absurd hj (Nat.not_lt_zero j)) (Nat.lt_succ_self _)
  refine r_sub (L' := [(0, .ref (mA G 107))]) [0] rfl ?_
  exact lp16 _ _ vOne 0 16 (rd_start hW hV hfh) (Nat.lt_succ_self _)
