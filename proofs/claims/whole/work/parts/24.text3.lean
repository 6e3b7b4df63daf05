theorem offT.tr {M M' M'' : Mem} (h : offT M M') (h' : offT M' M'') : offT M M'' := fun q h1 h2 => (h' q h1 h2).trans (h q h1 h2)
def vOne : View := ((1, 0), (fun _ => 0), (fun _ => 0), (fun w _ => if w = 0 then -1 else 0), (fun _ _ => 0))
theorem cNet_one {M : Mem} (h : ∀ w, w < 8 → M (98 + w) 0 = if w = 0 then -1 else 0) : cNet (mset (mset (mset M 97 8 1) 73 2 0) 73 3 (-1)) 97 vOne := by
  refine ⟨by rw [mset_ne (by decide), mset_ne (by decide), mset_at, upd_at]; rfl, fun w hw j hj => ?_⟩
  have hj2 : j < 1 := hj
  have e : j = 0 := by omega
  subst e
  rw [mset_ne (by omega), mset_ne (by omega), mset_ne (by omega), show 97 + 1 + w = 98 + w by omega, h w hw]
  rfl
theorem vPar_N (V : View) (x : Bool × Nat × Int32 × Int32 × Int32 × Int32 × Int32) : vN (vPar V x) = vN V + 1 := rfl
theorem rdNode_le {T : Nat → Int32} {len a n : Nat} (h : a ≤ len) : (rdNode T len a n).2.1 ≤ len := by
  have h1 := rdN_le (T := T) (len := len) (a := a) (D := 2) (low := 0) (high := nI (n - 1)) (en := 44) h
  generalize e1 : rdN T len a 2 0 (nI (n - 1)) 44 = R1 at h1
  rcases Bool.eq_false_or_eq_true R1.1 with b1 | b1
  · have h2 := rdN_le (T := T) (len := len) (a := R1.2.2) (D := 3) (low := 1) (high := 500) (en := 44) h1
    generalize e2 : rdN T len R1.2.2 3 1 500 44 = R2 at h2
    rcases Bool.eq_false_or_eq_true R2.1 with b2 | b2
    · have h3 := rdN_le (T := T) (len := len) (a := R2.2.2) (D := 2) (low := 0) (high := 50) (en := 44) h2
      generalize e3 : rdN T len R2.2.2 2 0 50 44 = R3 at h3
      rcases Bool.eq_false_or_eq_true R3.1 with b3 | b3
      · have h4 := rdN_le (T := T) (len := len) (a := R3.2.2) (D := 3) (low := 0) (high := 500) (en := 44) h3
        generalize e4 : rdN T len R3.2.2 3 0 500 44 = R4 at h4
        rcases Bool.eq_false_or_eq_true R4.1 with b4 | b4
        · have h5 := rdN_le (T := T) (len := len) (a := R4.2.2) (D := 4) (low := 0) (high := 1200) (en := 59) h4
          generalize e5 : rdN T len R4.2.2 4 0 1200 59 = R5 at h5
          rcases Bool.eq_false_or_eq_true R5.1 with b5 | b5
          · rw [rdNode_t e1 e2 e3 e4 e5 b1 b2 b3 b4 b5]; exact h5
          · rw [rdNode_f5 e1 e2 e3 e4 e5 b1 b2 b3 b4 b5]; exact h5
        · rw [rdNode_f4 e1 e2 e3 e4 b1 b2 b3 b4]; exact h4
      · rw [rdNode_f3 e1 e2 e3 b1 b2 b3]; exact h3
    · rw [rdNode_f2 e1 e2 b1 b2]; exact h2
  · rw [rdNode_f1 e1 b1]; exact h1

set_option maxRecDepth 20000 in
set_option maxHeartbeats 1000000 in
theorem c_X4_readInto (l : Launch) (G : mG) (hG : mInj G) (M : Mem) (g : Glo) (len : Nat) (hlen : len ≤ 180) (hl0 : M 73 1 = nI len) (h0 : ∀ w, w < 8 → M (98 + w) 0 = if w = 0 then -1 else 0) : mcI l G yX4_readInto cX4_readInto 3 .int 4 [.ref (mA G 73), .ref (mA G 97)] M g (fun r M' g' => (r = (if (psF (M 74) len 16 vOne 0).1 = true then -1 else nI (psF (M 74) len 16 vOne 0).2.2) ∧ M' 73 1 = nI len ∧ offT M M' ∧ cNet M' 97 (psF (M 74) len 16 vOne 0).2.1) ∧ g' = g) := by
  refine mcI_of (L0 := [(0, .ref (mA G 73)), (1, .ref (mA G 97))]) hG (by decide) (Nat.le_of_ble_eq_true rfl) rfl ?_
  intro p e s m args below meth c Q C hend
  refine r_aload_n C dX4_readInto_0 1 rfl ?_
  refine r_iconst (v := 1) C dX4_readInto_1 rfl ?_
  refine r_puti C dX4_readInto_2 8 fi_X4_25 rfl rfl ?_
  refine r_aload_n C dX4_readInto_5 0 rfl ?_
  refine r_iconst (v := 0) C dX4_readInto_6 rfl ?_
  refine r_puti C dX4_readInto_7 2 fi_X4_19 rfl rfl ?_
  refine r_aload_n C dX4_readInto_10 0 rfl ?_
  refine r_iconst (v := (-1)) C dX4_readInto_11 rfl ?_
  refine r_puti C dX4_readInto_12 3 fi_X4_22 rfl rfl ?_
  refine r_iconst (v := nI 1) C dX4_readInto_15 rfl ?_
  refine r_istore_n (L' := [(2, .int (nI 1)), (0, .ref (mA G 73)), (1, .ref (mA G 97))]) C dX4_readInto_16 (by decide) rfl ?_
  have lp17 : ∀ (fu : Nat) (k : Nat) (V : View) (a : Nat) (N : Mem), (vN V = k) → (1 ≤ k) → (k ≤ 16) → (N 73 1 = nI len) → (N 73 2 = nI a) → (a ≤ len) → (N 73 3 = -1) → (cNet N 97 V) → (offT M N) → (psF (M 74) len (17 - k) V a = psF (M 74) len 16 vOne 0) → (17 - k) < fu → At p l e (rmD 4 0 0) s m args below meth c G 3 0 0 Q N g [(2, .int (nI k)), (0, .ref (mA G 73)), (1, .ref (mA G 97))] 17 [] := by
    intro fu
    induction fu with
    | zero => intro k V a N hk hk1 hk16 hl ha hal hf hV ho hs hfu; exact absurd hfu (Nat.not_lt_zero _)
    | succ fu ih17 =>
      intro k V a N hk hk1 hk16 hl ha hal hf hV ho hs hfu17
      refine r_iload_n C dX4_readInto_17 0 rfl ?_
      refine r_bipush (v := 16) C dX4_readInto_18 rfl ?_
      refine r_icmp_ge (tgt := 54) C dX4_readInto_20 (by decide) (fun c20 => ?_) (fun c20 => ?_)
      ·
        have hk9 : k = 16 := by have := le_of_le (a := 16) (by decide) (by omega) c20; omega
        have hps2 : ∀ h : a < len, psF (M 74) len (17 - k) V a = (false, V, a) := fun h => by rw [show 17 - k = 0 + 1 by omega, psF, if_neg (by omega), if_pos (by omega)]
        have hps1 : ∀ h : len ≤ a, psF (M 74) len (17 - k) V a = (true, V, a) := fun h => by rw [show 17 - k = 0 + 1 by omega, psF, if_pos h]
        refine r_aload_n C dX4_readInto_54 1 rfl ?_
        refine r_geti C dX4_readInto_55 3 f_X4_22 rfl rfl ?_
        refine r_valI (y := (-1)) (hf) ?_
        refine r_iconst (v := (-1)) C dX4_readInto_58 rfl ?_
        refine r_icmp_ne (tgt := 81) C dX4_readInto_59 (by decide) (fun h => absurd ((rfl : (-1 : Int32) = -1)) h) (fun _ => ?_)
        refine r_aload_n C dX4_readInto_62 1 rfl ?_
        refine r_geti C dX4_readInto_63 2 f_X4_19 rfl rfl ?_
        refine r_valI (y := nI a) (ha) ?_
        refine r_aload_n C dX4_readInto_66 1 rfl ?_
        refine r_geti C dX4_readInto_67 1 f_X4_15 rfl rfl ?_
        refine r_valI (y := nI len) (hl) ?_
        refine r_icmp_ge (tgt := 81) C dX4_readInto_70 (by decide) (fun c70 => ?_) (fun c70 => ?_)
        ·
          have hps1 := hps1 (le_of_le (by omega) (by omega) c70)
          refine r_aload_n C dX4_readInto_81 1 rfl ?_
          refine r_geti C dX4_readInto_82 3 f_X4_22 rfl rfl ?_
          refine r_valI (y := (-1)) (hf) ?_
          exact hend _ _ _ _ _ dX4_readInto_85 (rfl) (⟨⟨by rw [← hs, hps1]; exact (if_pos rfl).symm, hl, ho, by rw [← hs, hps1]; exact hV⟩, rfl⟩)
        ·
          have hps2 := hps2 (lt_of_nle (by omega) c70)
          refine r_aload_n C dX4_readInto_73 1 rfl ?_
          refine r_aload_n C dX4_readInto_74 1 rfl ?_
          refine r_geti C dX4_readInto_75 2 f_X4_19 rfl rfl ?_
          refine r_valI (y := nI a) (ha) ?_
          refine r_puti C dX4_readInto_78 3 fi_X4_22 rfl rfl ?_
          refine r_aload_n C dX4_readInto_81 1 rfl ?_
          refine r_geti C dX4_readInto_82 3 f_X4_22 rfl rfl ?_
          refine r_valI (y := nI a) (by rw [mset_at, upd_at]) ?_
          exact hend _ _ _ _ _ dX4_readInto_85 (rfl) (⟨⟨by rw [← hs, hps2]; exact (if_neg Bool.false_ne_true).symm, by rw [mset_at, upd_ne (by decide)]; exact hl, fun q h1 h2 => by rw [mset_ne h1]; exact ho q h1 h2, by rw [← hs, hps2]; exact hV.off (a := 73) (b := 73) (fun q hq => mset_ne (by omega)) (by omega)⟩, rfl⟩)
      ·
        have hk9 : k < 16 := lt_of_nle (b := 16) (by omega) c20
        refine r_aload_n C dX4_readInto_23 1 rfl ?_
        refine r_geti C dX4_readInto_24 2 f_X4_19 rfl rfl ?_
        refine r_valI (y := nI a) (ha) ?_
        refine r_aload_n C dX4_readInto_27 1 rfl ?_
        refine r_geti C dX4_readInto_28 1 f_X4_15 rfl rfl ?_
        refine r_valI (y := nI len) (hl) ?_
        refine r_icmp_ge (tgt := 54) C dX4_readInto_31 (by decide) (fun c31 => ?_) (fun c31 => ?_)
        ·
          have hle : len ≤ a := le_of_le (by omega) (by omega) c31
          have hps1 : psF (M 74) len (17 - k) V a = (true, V, a) := by rw [show 17 - k = (17 - (k + 1)) + 1 by omega, psF, if_pos hle]
          refine r_aload_n C dX4_readInto_54 1 rfl ?_
          refine r_geti C dX4_readInto_55 3 f_X4_22 rfl rfl ?_
          refine r_valI (y := (-1)) (hf) ?_
          refine r_iconst (v := (-1)) C dX4_readInto_58 rfl ?_
          refine r_icmp_ne (tgt := 81) C dX4_readInto_59 (by decide) (fun h => absurd ((rfl : (-1 : Int32) = -1)) h) (fun _ => ?_)
          refine r_aload_n C dX4_readInto_62 1 rfl ?_
          refine r_geti C dX4_readInto_63 2 f_X4_19 rfl rfl ?_
          refine r_valI (y := nI a) (ha) ?_
          refine r_aload_n C dX4_readInto_66 1 rfl ?_
          refine r_geti C dX4_readInto_67 1 f_X4_15 rfl rfl ?_
          refine r_valI (y := nI len) (hl) ?_
          refine r_icmp_ge (tgt := 81) C dX4_readInto_70 (by decide) (fun _ => ?_) (fun h => absurd (nI_le hle (by omega)) h)
          refine r_aload_n C dX4_readInto_81 1 rfl ?_
          refine r_geti C dX4_readInto_82 3 f_X4_22 rfl rfl ?_
          refine r_valI (y := (-1)) (hf) ?_
          exact hend _ _ _ _ _ dX4_readInto_85 (rfl) (⟨⟨by rw [← hs, hps1]; exact (if_pos rfl).symm, hl, ho, by rw [← hs, hps1]; exact hV⟩, rfl⟩)
        ·
          have hlt : a < len := lt_of_nle (by omega) c31
          refine r_aload_n C dX4_readInto_34 1 rfl ?_
          refine r_geti C dX4_readInto_35 3 f_X4_22 rfl rfl ?_
          refine r_valI (y := (-1)) (hf) ?_
          refine r_iconst (v := (-1)) C dX4_readInto_38 rfl ?_
          refine r_icmp_ne (tgt := 54) C dX4_readInto_39 (by decide) (fun h => absurd ((rfl : (-1 : Int32) = -1)) h) (fun _ => ?_)
          refine r_aload_n C dX4_readInto_42 1 rfl ?_
          refine r_aload_n C dX4_readInto_43 2 rfl ?_
          refine r_iload_n C dX4_readInto_44 0 rfl ?_
          refine r_callVV (As := [.ref (mA G 97), .int (nI k)]) (rest := []) C dX4_readInto_45 s_X4_30 (c_X4_readNode l G hG N g len a k hlen hal hk1 (by omega) hl ha hf V hV hk) (by decide) rfl rfl rfl rfl (Nat.le_of_ble_eq_true rfl) (Nat.le_of_ble_eq_true rfl) (Nat.le_of_ble_eq_true rfl) (fun M45 g45 hp45 => ?_)
          obtain ⟨⟨⟨hp1, hp2⟩, hp3⟩, eg45⟩ := hp45
          rw [eg45]
          rw [show N 74 = M 74 from ho 74 (by decide) (by decide)] at hp3
          rcases Bool.eq_false_or_eq_true (rdNode (M 74) len a k).1 with hX | hX
          ·
            rw [if_pos hX] at hp3
            refine r_iinc (v := nI (k + 1)) (L' := [(2, .int (nI (k + 1))), (0, .ref (mA G 73)), (1, .ref (mA G 97))]) C dX4_readInto_48 0 rfl (nI_inc _) (by decide) rfl ?_
            refine r_goto (tgt := 17) C dX4_readInto_51 (by decide) ?_
            refine r_sub (L' := [(2, .int (nI (k + 1))), (0, .ref (mA G 73)), (1, .ref (mA G 97))]) [0, 1, 2] rfl ?_
            exact ih17 (k + 1) (vPar V (rdNode (M 74) len a k)) (rdNode (M 74) len a k).2.1 M45 (by rw [vPar_N, hk]) (by omega) (by omega) hp1 hp3.1 (rdNode_le hal) hp3.2.1 hp3.2.2 (ho.tr hp2) (by rw [← hs, show 17 - k = (17 - (k + 1)) + 1 by omega, psF, if_neg (by omega), if_neg (by omega), hk, if_pos hX]) (by omega)
          ·
            rw [if_neg (by rw [hX]; decide)] at hp3
            obtain ⟨hp3, hp4⟩ := hp3
            have hpl := rdNode_le (T := M 74) (n := k) hal
            have hps : psF (M 74) len (17 - k) V a = (false, V, (rdNode (M 74) len a k).2.1) := by rw [show 17 - k = (17 - (k + 1)) + 1 by omega, psF, if_neg (by omega), if_neg (by omega), hk, if_neg (by rw [hX]; decide)]
            refine r_iinc (v := nI (k + 1)) (L' := [(2, .int (nI (k + 1))), (0, .ref (mA G 73)), (1, .ref (mA G 97))]) C dX4_readInto_48 0 rfl (nI_inc _) (by decide) rfl ?_
            refine r_goto (tgt := 17) C dX4_readInto_51 (by decide) ?_
            refine r_iload_n C dX4_readInto_17 0 rfl ?_
            refine r_bipush (v := 16) C dX4_readInto_18 rfl ?_
            refine r_icmp_ge (tgt := 54) C dX4_readInto_20 (by decide) (fun c20 => ?_) (fun c20 => ?_)
            ·
              refine r_aload_n C dX4_readInto_54 1 rfl ?_
              refine r_geti C dX4_readInto_55 3 f_X4_22 rfl rfl ?_
              refine r_valI (y := nI ((rdNode (M 74) len a k).2.1)) (hp3) ?_
              refine r_iconst (v := (-1)) C dX4_readInto_58 rfl ?_
              refine r_icmp_ne (tgt := 81) C dX4_readInto_59 (by decide) (fun _ => ?_) (fun h => absurd h (nI_nm1 (by omega)))
              refine r_aload_n C dX4_readInto_81 1 rfl ?_
              refine r_geti C dX4_readInto_82 3 f_X4_22 rfl rfl ?_
              refine r_valI (y := nI ((rdNode (M 74) len a k).2.1)) (hp3) ?_
              exact hend _ _ _ _ _ dX4_readInto_85 (rfl) (⟨⟨by rw [← hs, hps]; exact (if_neg Bool.false_ne_true).symm, hp1, ho.tr hp2, by rw [← hs, hps]; exact hp4⟩, rfl⟩)
            ·
              refine r_aload_n C dX4_readInto_23 1 rfl ?_
              refine r_geti C dX4_readInto_24 2 f_X4_19 rfl rfl ?_
              refine r_valI (y := M45 73 2) (rfl) ?_
              refine r_aload_n C dX4_readInto_27 1 rfl ?_
              refine r_geti C dX4_readInto_28 1 f_X4_15 rfl rfl ?_
              refine r_valI (y := nI len) (hp1) ?_
              refine r_icmp_ge (tgt := 54) C dX4_readInto_31 (by decide) (fun c31 => ?_) (fun c31 => ?_)
              ·
                refine r_aload_n C dX4_readInto_54 1 rfl ?_
                refine r_geti C dX4_readInto_55 3 f_X4_22 rfl rfl ?_
                refine r_valI (y := nI ((rdNode (M 74) len a k).2.1)) (hp3) ?_
                refine r_iconst (v := (-1)) C dX4_readInto_58 rfl ?_
                refine r_icmp_ne (tgt := 81) C dX4_readInto_59 (by decide) (fun _ => ?_) (fun h => absurd h (nI_nm1 (by omega)))
                refine r_aload_n C dX4_readInto_81 1 rfl ?_
                refine r_geti C dX4_readInto_82 3 f_X4_22 rfl rfl ?_
                refine r_valI (y := nI ((rdNode (M 74) len a k).2.1)) (hp3) ?_
                exact hend _ _ _ _ _ dX4_readInto_85 (rfl) (⟨⟨by rw [← hs, hps]; exact (if_neg Bool.false_ne_true).symm, hp1, ho.tr hp2, by rw [← hs, hps]; exact hp4⟩, rfl⟩)
              ·
                refine r_aload_n C dX4_readInto_34 1 rfl ?_
                refine r_geti C dX4_readInto_35 3 f_X4_22 rfl rfl ?_
                refine r_valI (y := nI ((rdNode (M 74) len a k).2.1)) (hp3) ?_
                refine r_iconst (v := (-1)) C dX4_readInto_38 rfl ?_
                refine r_icmp_ne (tgt := 54) C dX4_readInto_39 (by decide) (fun _ => ?_) (fun h => absurd h (nI_nm1 (by omega)))
                refine r_aload_n C dX4_readInto_54 1 rfl ?_
                refine r_geti C dX4_readInto_55 3 f_X4_22 rfl rfl ?_
                refine r_valI (y := nI ((rdNode (M 74) len a k).2.1)) (hp3) ?_
                refine r_iconst (v := (-1)) C dX4_readInto_58 rfl ?_
                refine r_icmp_ne (tgt := 81) C dX4_readInto_59 (by decide) (fun _ => ?_) (fun h => absurd h (nI_nm1 (by omega)))
                refine r_aload_n C dX4_readInto_81 1 rfl ?_
                refine r_geti C dX4_readInto_82 3 f_X4_22 rfl rfl ?_
                refine r_valI (y := nI ((rdNode (M 74) len a k).2.1)) (hp3) ?_
                exact hend _ _ _ _ _ dX4_readInto_85 (rfl) (⟨⟨by rw [← hs, hps]; exact (if_neg Bool.false_ne_true).symm, hp1, ho.tr hp2, by rw [← hs, hps]; exact hp4⟩, rfl⟩)
  refine r_sub (L' := [(2, .int (nI 1)), (0, .ref (mA G 73)), (1, .ref (mA G 97))]) [0, 1, 2] rfl ?_
  exact lp17 _ 1 vOne 0 (mset (mset (mset M 97 8 1) 73 2 0) 73 3 (-1)) rfl (Nat.le_refl 1) (by decide) (by rw [mset_at, upd_ne (by decide), mset_at, upd_ne (by decide), mset_ne (by decide)]; exact hl0) (by rw [mset_at, upd_ne (by decide), mset_at, upd_at]; rfl) (Nat.zero_le _) (by rw [mset_at, upd_at]) (cNet_one h0) (fun q h1 h2 => by rw [mset_ne h1, mset_ne h1, mset_ne (by omega)]) rfl (Nat.lt_succ_self _)
