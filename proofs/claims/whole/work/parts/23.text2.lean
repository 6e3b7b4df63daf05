theorem rdNode_f1 {T : Nat → Int32} {len a n : Nat} {R1 : Bool × Int32 × Nat} (h1 : rdN T len a 2 0 (nI (n - 1)) 44 = R1)  (b : R1.1 = false) : rdNode T len a n = (false, R1.2.2, 0, 0, 0, 0, 0) := by
  unfold rdNode
  simp [h1, b]

theorem rdNode_f2 {T : Nat → Int32} {len a n : Nat} {R1 R2 : Bool × Int32 × Nat} (h1 : rdN T len a 2 0 (nI (n - 1)) 44 = R1) (h2 : rdN T len R1.2.2 3 1 500 44 = R2) (b1 : R1.1 = true) (b : R2.1 = false) : rdNode T len a n = (false, R2.2.2, 0, 0, 0, 0, 0) := by
  unfold rdNode
  simp [h1, h2, b1, b]

theorem rdNode_f3 {T : Nat → Int32} {len a n : Nat} {R1 R2 R3 : Bool × Int32 × Nat} (h1 : rdN T len a 2 0 (nI (n - 1)) 44 = R1) (h2 : rdN T len R1.2.2 3 1 500 44 = R2) (h3 : rdN T len R2.2.2 2 0 50 44 = R3) (b1 : R1.1 = true) (b2 : R2.1 = true) (b : R3.1 = false) : rdNode T len a n = (false, R3.2.2, 0, 0, 0, 0, 0) := by
  unfold rdNode
  simp [h1, h2, h3, b1, b2, b]

theorem rdNode_f4 {T : Nat → Int32} {len a n : Nat} {R1 R2 R3 R4 : Bool × Int32 × Nat} (h1 : rdN T len a 2 0 (nI (n - 1)) 44 = R1) (h2 : rdN T len R1.2.2 3 1 500 44 = R2) (h3 : rdN T len R2.2.2 2 0 50 44 = R3) (h4 : rdN T len R3.2.2 3 0 500 44 = R4) (b1 : R1.1 = true) (b2 : R2.1 = true) (b3 : R3.1 = true) (b : R4.1 = false) : rdNode T len a n = (false, R4.2.2, 0, 0, 0, 0, 0) := by
  unfold rdNode
  simp [h1, h2, h3, h4, b1, b2, b3, b]

theorem rdNode_f5 {T : Nat → Int32} {len a n : Nat} {R1 R2 R3 R4 R5 : Bool × Int32 × Nat} (h1 : rdN T len a 2 0 (nI (n - 1)) 44 = R1) (h2 : rdN T len R1.2.2 3 1 500 44 = R2) (h3 : rdN T len R2.2.2 2 0 50 44 = R3) (h4 : rdN T len R3.2.2 3 0 500 44 = R4) (h5 : rdN T len R4.2.2 4 0 1200 59 = R5) (b1 : R1.1 = true) (b2 : R2.1 = true) (b3 : R3.1 = true) (b4 : R4.1 = true) (b : R5.1 = false) : rdNode T len a n = (false, R5.2.2, 0, 0, 0, 0, 0) := by
  unfold rdNode
  simp [h1, h2, h3, h4, h5, b1, b2, b3, b4, b]

theorem rdNode_t {T : Nat → Int32} {len a n : Nat} {R1 R2 R3 R4 R5 : Bool × Int32 × Nat} (h1 : rdN T len a 2 0 (nI (n - 1)) 44 = R1) (h2 : rdN T len R1.2.2 3 1 500 44 = R2) (h3 : rdN T len R2.2.2 2 0 50 44 = R3) (h4 : rdN T len R3.2.2 3 0 500 44 = R4) (h5 : rdN T len R4.2.2 4 0 1200 59 = R5) (b1 : R1.1 = true) (b2 : R2.1 = true) (b3 : R3.1 = true) (b4 : R4.1 = true) (b5 : R5.1 = true) : rdNode T len a n = (true, R5.2.2, R1.2.1, R2.2.1, R3.2.1, R4.2.1, R5.2.1) := by
  unfold rdNode
  simp [h1, h2, h3, h4, h5, b1, b2, b3, b4, b5]

def offT (M M' : Mem) : Prop := ∀ q, q ≠ 73 → (q < 97 ∨ 105 < q) → M' q = M q
def rnPost (M M' : Mem) (V : View) (len : Nat) (X : Bool × Nat × Int32 × Int32 × Int32 × Int32 × Int32) : Prop := (M' 73 1 = nI len ∧ offT M M') ∧ (if X.1 = true then M' 73 2 = nI X.2.1 ∧ M' 73 3 = -1 ∧ cNet M' 97 (vPar V X) else M' 73 3 = nI X.2.1 ∧ cNet M' 97 V)
theorem rn_f {M : Mem} {V : View} {len p : Nat} {x : Int32} {X : Bool × Nat × Int32 × Int32 × Int32 × Int32 × Int32} (hV : cNet M 97 V) (hl : M 73 1 = nI len) (hX : X = (false, p, 0, 0, 0, 0, 0)) (y : Int32) : rnPost M (mset (mset (mset M 73 2 y) 73 2 x) 73 3 (nI p)) V len X := by
  subst hX
  refine ⟨⟨by rw [mset_at, upd_ne (by decide), mset_at, upd_ne (by decide), mset_at, upd_ne (by decide)]; exact hl, fun q h1 _ => by rw [mset_ne h1, mset_ne h1, mset_ne h1]⟩, ?_⟩
  refine ⟨by rw [mset_at, upd_at], hV.off (a := 73) (b := 73) (fun q hq => by rw [mset_ne (by omega), mset_ne (by omega), mset_ne (by omega)]) (by omega)⟩
theorem rn_t {M M' : Mem} {V : View} {len p : Nat} {a l s d t : Int32} {X : Bool × Nat × Int32 × Int32 × Int32 × Int32 × Int32} (hl : M 73 1 = nI len) (hf : M 73 3 = -1) (hX : X = (true, p, a, l, s, d, t)) (hc : cNet M' 97 (vAdd V a l s d t)) (ho : offR (mset M 73 2 (nI p)) M' 97 (97 + 8)) : rnPost M M' V len X := by
  subst hX
  refine ⟨⟨by rw [ho 73 (by omega), mset_at, upd_ne (by decide)]; exact hl, fun q h1 h2 => by rw [ho q (by omega), mset_ne h1]⟩, ?_⟩
  exact ⟨by rw [ho 73 (by omega), mset_at, upd_at], by rw [ho 73 (by omega), mset_at, upd_ne (by decide)]; exact hf, hc⟩

set_option maxRecDepth 20000 in
set_option maxHeartbeats 1000000 in
theorem c_X4_readNode (l : Launch) (G : mG) (hG : mInj G) (M : Mem) (g : Glo) (len a n : Nat) (hlen : len ≤ 180) (hal : a ≤ len) (hn1 : 1 ≤ n) (hn : n < 16) (hl : M 73 1 = nI len) (ha : M 73 2 = nI a) (hf : M 73 3 = -1) (V : View) (hV : cNet M 97 V) (hvn : vN V = n) : mcV l G yX4_readNode cX4_readNode 8 3 [.ref (mA G 73), .ref (mA G 97), .int (nI n)] M g (fun M' g' => rnPost M M' V len (rdNode (M 74) len a n) ∧ g' = g) := by
  refine mcV_of (L0 := [(0, .ref (mA G 73)), (1, .ref (mA G 97)), (2, .int (nI n))]) hG (by decide) (Nat.le_of_ble_eq_true rfl) rfl ?_
  intro p e s m args below meth c Q C hend
  refine r_aload_n C dX4_readNode_0 0 rfl ?_
  refine r_iconst (v := 2) C dX4_readNode_1 rfl ?_
  refine r_iconst (v := 0) C dX4_readNode_2 rfl ?_
  refine r_iload_n C dX4_readNode_3 2 rfl ?_
  refine r_iconst (v := 1) C dX4_readNode_4 rfl ?_
  refine r_isub C dX4_readNode_5 ?_
  refine r_valI (y := nI (n - 1)) (pk_sub (by omega)) ?_
  refine r_bipush (v := 44) C dX4_readNode_6 rfl ?_
  refine r_callVI (As := [.int 2, .int 0, .int (nI (n - 1)), .int 44]) (rest := []) C dX4_readNode_8 s_X4_34 (c_X4_readNumber l G hG M g len a 2 0 (nI (n - 1)) 44 hlen hal (by decide) hl ha hf) (by decide) rfl rfl rfl rfl (Nat.le_of_ble_eq_true rfl) (Nat.le_of_ble_eq_true rfl) (Nat.le_of_ble_eq_true rfl) (fun r8 M8 g8 hp8 => ?_)
  obtain ⟨⟨e8, h8⟩, eg8⟩ := hp8
  rw [eg8]
  have hp1 := rdN_le (T := M 74) (len := len) (a := a) (D := 2) (low := 0) (high := (nI (n - 1))) (en := 44) (hal)
  generalize hR1 : rdN (M 74) len a 2 0 (nI (n - 1)) 44 = R1 at e8 h8 hp1
  rcases Bool.eq_false_or_eq_true R1.1 with hb1 | hb1
  ·
    rw [if_pos hb1] at h8
    subst h8
    refine r_istore_n (L' := [(3, .int r8), (0, .ref (mA G 73)), (1, .ref (mA G 97)), (2, .int (nI n))]) C dX4_readNode_11 (by decide) rfl ?_
    refine r_aload_n C dX4_readNode_12 1 rfl ?_
    refine r_iconst (v := 3) C dX4_readNode_13 rfl ?_
    refine r_iconst (v := 1) C dX4_readNode_14 rfl ?_
    refine r_sipush (v := 500) C dX4_readNode_15 rfl ?_
    refine r_bipush (v := 44) C dX4_readNode_18 rfl ?_
    refine r_callVI (As := [.int 3, .int 1, .int 500, .int 44]) (rest := []) C dX4_readNode_20 s_X4_34 (c_X4_readNumber l G hG (mset M 73 2 (nI R1.2.2)) g len R1.2.2 3 1 500 44 hlen hp1 (by decide) (by rw [mset_at, upd_ne (by decide)]; exact hl) (by rw [mset_at, upd_at]) (by rw [mset_at, upd_ne (by decide)]; exact hf)) (by decide) rfl rfl rfl rfl (Nat.le_of_ble_eq_true rfl) (Nat.le_of_ble_eq_true rfl) (Nat.le_of_ble_eq_true rfl) (fun r20 M20 g20 hp20 => ?_)
    obtain ⟨⟨e20, h20⟩, eg20⟩ := hp20
    rw [eg20]
    rw [mset_ne (show (74 : Nat) ≠ 73 by decide)] at e20 h20
    have hp2 := rdN_le (T := M 74) (len := len) (a := R1.2.2) (D := 3) (low := 1) (high := 500) (en := 44) (hp1)
    generalize hR2 : rdN (M 74) len R1.2.2 3 1 500 44 = R2 at e20 h20 hp2
    rcases Bool.eq_false_or_eq_true R2.1 with hb2 | hb2
    ·
      rw [if_pos hb2] at h20
      subst h20
      rw [mset_again]
      refine r_istore (L' := [(4, .int r20), (3, .int r8), (0, .ref (mA G 73)), (1, .ref (mA G 97)), (2, .int (nI n))]) C dX4_readNode_23 (by decide) rfl ?_
      refine r_aload_n C dX4_readNode_25 2 rfl ?_
      refine r_iconst (v := 2) C dX4_readNode_26 rfl ?_
      refine r_iconst (v := 0) C dX4_readNode_27 rfl ?_
      refine r_bipush (v := 50) C dX4_readNode_28 rfl ?_
      refine r_bipush (v := 44) C dX4_readNode_30 rfl ?_
      refine r_callVI (As := [.int 2, .int 0, .int 50, .int 44]) (rest := []) C dX4_readNode_32 s_X4_34 (c_X4_readNumber l G hG (mset M 73 2 (nI R2.2.2)) g len R2.2.2 2 0 50 44 hlen hp2 (by decide) (by rw [mset_at, upd_ne (by decide)]; exact hl) (by rw [mset_at, upd_at]) (by rw [mset_at, upd_ne (by decide)]; exact hf)) (by decide) rfl rfl rfl rfl (Nat.le_of_ble_eq_true rfl) (Nat.le_of_ble_eq_true rfl) (Nat.le_of_ble_eq_true rfl) (fun r32 M32 g32 hp32 => ?_)
      obtain ⟨⟨e32, h32⟩, eg32⟩ := hp32
      rw [eg32]
      rw [mset_ne (show (74 : Nat) ≠ 73 by decide)] at e32 h32
      have hp3 := rdN_le (T := M 74) (len := len) (a := R2.2.2) (D := 2) (low := 0) (high := 50) (en := 44) (hp2)
      generalize hR3 : rdN (M 74) len R2.2.2 2 0 50 44 = R3 at e32 h32 hp3
      rcases Bool.eq_false_or_eq_true R3.1 with hb3 | hb3
      ·
        rw [if_pos hb3] at h32
        subst h32
        rw [mset_again]
        refine r_istore (L' := [(5, .int r32), (4, .int r20), (3, .int r8), (0, .ref (mA G 73)), (1, .ref (mA G 97)), (2, .int (nI n))]) C dX4_readNode_35 (by decide) rfl ?_
        refine r_aload_n C dX4_readNode_37 3 rfl ?_
        refine r_iconst (v := 3) C dX4_readNode_38 rfl ?_
        refine r_iconst (v := 0) C dX4_readNode_39 rfl ?_
        refine r_sipush (v := 500) C dX4_readNode_40 rfl ?_
        refine r_bipush (v := 44) C dX4_readNode_43 rfl ?_
        refine r_callVI (As := [.int 3, .int 0, .int 500, .int 44]) (rest := []) C dX4_readNode_45 s_X4_34 (c_X4_readNumber l G hG (mset M 73 2 (nI R3.2.2)) g len R3.2.2 3 0 500 44 hlen hp3 (by decide) (by rw [mset_at, upd_ne (by decide)]; exact hl) (by rw [mset_at, upd_at]) (by rw [mset_at, upd_ne (by decide)]; exact hf)) (by decide) rfl rfl rfl rfl (Nat.le_of_ble_eq_true rfl) (Nat.le_of_ble_eq_true rfl) (Nat.le_of_ble_eq_true rfl) (fun r45 M45 g45 hp45 => ?_)
        obtain ⟨⟨e45, h45⟩, eg45⟩ := hp45
        rw [eg45]
        rw [mset_ne (show (74 : Nat) ≠ 73 by decide)] at e45 h45
        have hp4 := rdN_le (T := M 74) (len := len) (a := R3.2.2) (D := 3) (low := 0) (high := 500) (en := 44) (hp3)
        generalize hR4 : rdN (M 74) len R3.2.2 3 0 500 44 = R4 at e45 h45 hp4
        rcases Bool.eq_false_or_eq_true R4.1 with hb4 | hb4
        ·
          rw [if_pos hb4] at h45
          subst h45
          rw [mset_again]
          refine r_istore (L' := [(6, .int r45), (5, .int r32), (4, .int r20), (3, .int r8), (0, .ref (mA G 73)), (1, .ref (mA G 97)), (2, .int (nI n))]) C dX4_readNode_48 (by decide) rfl ?_
          refine r_aload_n C dX4_readNode_50 4 rfl ?_
          refine r_iconst (v := 4) C dX4_readNode_51 rfl ?_
          refine r_iconst (v := 0) C dX4_readNode_52 rfl ?_
          refine r_sipush (v := 1200) C dX4_readNode_53 rfl ?_
          refine r_bipush (v := 59) C dX4_readNode_56 rfl ?_
          refine r_callVI (As := [.int 4, .int 0, .int 1200, .int 59]) (rest := []) C dX4_readNode_58 s_X4_34 (c_X4_readNumber l G hG (mset M 73 2 (nI R4.2.2)) g len R4.2.2 4 0 1200 59 hlen hp4 (by decide) (by rw [mset_at, upd_ne (by decide)]; exact hl) (by rw [mset_at, upd_at]) (by rw [mset_at, upd_ne (by decide)]; exact hf)) (by decide) rfl rfl rfl rfl (Nat.le_of_ble_eq_true rfl) (Nat.le_of_ble_eq_true rfl) (Nat.le_of_ble_eq_true rfl) (fun r58 M58 g58 hp58 => ?_)
          obtain ⟨⟨e58, h58⟩, eg58⟩ := hp58
          rw [eg58]
          rw [mset_ne (show (74 : Nat) ≠ 73 by decide)] at e58 h58
          have hp5 := rdN_le (T := M 74) (len := len) (a := R4.2.2) (D := 4) (low := 0) (high := 1200) (en := 59) (hp4)
          generalize hR5 : rdN (M 74) len R4.2.2 4 0 1200 59 = R5 at e58 h58 hp5
          rcases Bool.eq_false_or_eq_true R5.1 with hb5 | hb5
          ·
            rw [if_pos hb5] at h58
            subst h58
            rw [mset_again]
            refine r_istore (L' := [(7, .int r58), (6, .int r45), (5, .int r32), (4, .int r20), (3, .int r8), (0, .ref (mA G 73)), (1, .ref (mA G 97)), (2, .int (nI n))]) C dX4_readNode_61 (by decide) rfl ?_
            refine r_aload_n C dX4_readNode_63 5 rfl ?_
            refine r_geti C dX4_readNode_64 3 f_X4_22 rfl rfl ?_
            refine r_valI (y := (-1)) (by rw [mset_at, upd_ne (by decide)]; exact hf) ?_
            refine r_iconst (v := (-1)) C dX4_readNode_67 rfl ?_
            refine r_icmp_ne (tgt := 85) C dX4_readNode_68 (by decide) (fun h => absurd ((rfl : (-1 : Int32) = -1)) h) (fun _ => ?_)
            refine r_aload_n C dX4_readNode_71 6 rfl ?_
            refine r_iload_n C dX4_readNode_72 4 rfl ?_
            refine r_iload C dX4_readNode_73 3 rfl ?_
            refine r_iload C dX4_readNode_75 2 rfl ?_
            refine r_iload C dX4_readNode_77 1 rfl ?_
            refine r_iload C dX4_readNode_79 0 rfl ?_
            refine r_callVI (As := [.int r8, .int r20, .int r32, .int r45, .int r58]) (rest := []) C dX4_readNode_81 s_X4_38 (c_X3_attach l G hG (mset M 73 2 (nI R5.2.2)) g 97 isNet_97 V (hV.off (a := 73) (b := 73) (fun q hq => mset_ne (by omega)) (by omega)) (by omega) r8 r20 r32 r45 r58) (by decide) rfl rfl rfl rfl (Nat.le_of_ble_eq_true rfl) (Nat.le_of_ble_eq_true rfl) (Nat.le_of_ble_eq_true rfl) (fun r81 M81 g81 hp81 => ?_)
            obtain ⟨⟨e81, hc81, o81⟩, eg81⟩ := hp81
            rw [eg81]
            refine r_pop C dX4_readNode_84 rfl ?_
            exact hend _ _ _ _ dX4_readNode_85 (⟨rn_t hl hf (by rw [rdNode_t hR1 hR2 hR3 hR4 hR5 hb1 hb2 hb3 hb4 hb5, e8, e20, e32, e45, e58]) hc81 o81, rfl⟩)
          ·
            rw [if_neg (by rw [hb5]; decide)] at h58
            obtain ⟨x5, rfl⟩ := h58
            refine r_istore (L' := [(7, .int r58), (6, .int r45), (5, .int r32), (4, .int r20), (3, .int r8), (0, .ref (mA G 73)), (1, .ref (mA G 97)), (2, .int (nI n))]) C dX4_readNode_61 (by decide) rfl ?_
            refine r_aload_n C dX4_readNode_63 5 rfl ?_
            refine r_geti C dX4_readNode_64 3 f_X4_22 rfl rfl ?_
            refine r_valI (y := nI R5.2.2) (by rw [mset_at, upd_at]) ?_
            refine r_iconst (v := (-1)) C dX4_readNode_67 rfl ?_
            refine r_icmp_ne (tgt := 85) C dX4_readNode_68 (by decide) (fun _ => ?_) (fun h => absurd h (nI_nm1 (by have := hp5; omega)))
            exact hend _ _ _ _ dX4_readNode_85 (⟨rn_f hV hl (rdNode_f5 hR1 hR2 hR3 hR4 hR5 hb1 hb2 hb3 hb4 hb5) _, rfl⟩)
        ·
          rw [if_neg (by rw [hb4]; decide)] at h45
          obtain ⟨x4, rfl⟩ := h45
          refine r_istore (L' := [(6, .int r45), (5, .int r32), (4, .int r20), (3, .int r8), (0, .ref (mA G 73)), (1, .ref (mA G 97)), (2, .int (nI n))]) C dX4_readNode_48 (by decide) rfl ?_
          refine r_aload_n C dX4_readNode_50 4 rfl ?_
          refine r_iconst (v := 4) C dX4_readNode_51 rfl ?_
          refine r_iconst (v := 0) C dX4_readNode_52 rfl ?_
          refine r_sipush (v := 1200) C dX4_readNode_53 rfl ?_
          refine r_bipush (v := 59) C dX4_readNode_56 rfl ?_
          refine r_callVI (As := [.int 4, .int 0, .int 1200, .int 59]) (rest := []) C dX4_readNode_58 s_X4_34 (c_X4_readNumber_f l G hG (mset (mset (mset M 73 2 (nI R3.2.2)) 73 2 x4) 73 3 (nI R4.2.2)) g 4 0 1200 59 (by rw [mset_at, upd_at]; exact nI_nm1 (by have := hp4; omega))) (by decide) rfl rfl rfl rfl (Nat.le_of_ble_eq_true rfl) (Nat.le_of_ble_eq_true rfl) (Nat.le_of_ble_eq_true rfl) (pk_I ?_)
          refine r_istore (L' := [(7, .int 0), (6, .int r45), (5, .int r32), (4, .int r20), (3, .int r8), (0, .ref (mA G 73)), (1, .ref (mA G 97)), (2, .int (nI n))]) C dX4_readNode_61 (by decide) rfl ?_
          refine r_aload_n C dX4_readNode_63 5 rfl ?_
          refine r_geti C dX4_readNode_64 3 f_X4_22 rfl rfl ?_
          refine r_valI (y := nI R4.2.2) (by rw [mset_at, upd_at]) ?_
          refine r_iconst (v := (-1)) C dX4_readNode_67 rfl ?_
          refine r_icmp_ne (tgt := 85) C dX4_readNode_68 (by decide) (fun _ => ?_) (fun h => absurd h (nI_nm1 (by have := hp4; omega)))
          exact hend _ _ _ _ dX4_readNode_85 (⟨rn_f hV hl (rdNode_f4 hR1 hR2 hR3 hR4 hb1 hb2 hb3 hb4) _, rfl⟩)
      ·
        rw [if_neg (by rw [hb3]; decide)] at h32
        obtain ⟨x3, rfl⟩ := h32
        refine r_istore (L' := [(5, .int r32), (4, .int r20), (3, .int r8), (0, .ref (mA G 73)), (1, .ref (mA G 97)), (2, .int (nI n))]) C dX4_readNode_35 (by decide) rfl ?_
        refine r_aload_n C dX4_readNode_37 3 rfl ?_
        refine r_iconst (v := 3) C dX4_readNode_38 rfl ?_
        refine r_iconst (v := 0) C dX4_readNode_39 rfl ?_
        refine r_sipush (v := 500) C dX4_readNode_40 rfl ?_
        refine r_bipush (v := 44) C dX4_readNode_43 rfl ?_
        refine r_callVI (As := [.int 3, .int 0, .int 500, .int 44]) (rest := []) C dX4_readNode_45 s_X4_34 (c_X4_readNumber_f l G hG (mset (mset (mset M 73 2 (nI R2.2.2)) 73 2 x3) 73 3 (nI R3.2.2)) g 3 0 500 44 (by rw [mset_at, upd_at]; exact nI_nm1 (by have := hp3; omega))) (by decide) rfl rfl rfl rfl (Nat.le_of_ble_eq_true rfl) (Nat.le_of_ble_eq_true rfl) (Nat.le_of_ble_eq_true rfl) (pk_I ?_)
        refine r_istore (L' := [(6, .int 0), (5, .int r32), (4, .int r20), (3, .int r8), (0, .ref (mA G 73)), (1, .ref (mA G 97)), (2, .int (nI n))]) C dX4_readNode_48 (by decide) rfl ?_
        refine r_aload_n C dX4_readNode_50 4 rfl ?_
        refine r_iconst (v := 4) C dX4_readNode_51 rfl ?_
        refine r_iconst (v := 0) C dX4_readNode_52 rfl ?_
        refine r_sipush (v := 1200) C dX4_readNode_53 rfl ?_
        refine r_bipush (v := 59) C dX4_readNode_56 rfl ?_
        refine r_callVI (As := [.int 4, .int 0, .int 1200, .int 59]) (rest := []) C dX4_readNode_58 s_X4_34 (c_X4_readNumber_f l G hG (mset (mset (mset M 73 2 (nI R2.2.2)) 73 2 x3) 73 3 (nI R3.2.2)) g 4 0 1200 59 (by rw [mset_at, upd_at]; exact nI_nm1 (by have := hp3; omega))) (by decide) rfl rfl rfl rfl (Nat.le_of_ble_eq_true rfl) (Nat.le_of_ble_eq_true rfl) (Nat.le_of_ble_eq_true rfl) (pk_I ?_)
        refine r_istore (L' := [(7, .int 0), (6, .int 0), (5, .int r32), (4, .int r20), (3, .int r8), (0, .ref (mA G 73)), (1, .ref (mA G 97)), (2, .int (nI n))]) C dX4_readNode_61 (by decide) rfl ?_
        refine r_aload_n C dX4_readNode_63 5 rfl ?_
        refine r_geti C dX4_readNode_64 3 f_X4_22 rfl rfl ?_
        refine r_valI (y := nI R3.2.2) (by rw [mset_at, upd_at]) ?_
        refine r_iconst (v := (-1)) C dX4_readNode_67 rfl ?_
        refine r_icmp_ne (tgt := 85) C dX4_readNode_68 (by decide) (fun _ => ?_) (fun h => absurd h (nI_nm1 (by have := hp3; omega)))
        exact hend _ _ _ _ dX4_readNode_85 (⟨rn_f hV hl (rdNode_f3 hR1 hR2 hR3 hb1 hb2 hb3) _, rfl⟩)
    ·
      rw [if_neg (by rw [hb2]; decide)] at h20
      obtain ⟨x2, rfl⟩ := h20
      refine r_istore (L' := [(4, .int r20), (3, .int r8), (0, .ref (mA G 73)), (1, .ref (mA G 97)), (2, .int (nI n))]) C dX4_readNode_23 (by decide) rfl ?_
      refine r_aload_n C dX4_readNode_25 2 rfl ?_
      refine r_iconst (v := 2) C dX4_readNode_26 rfl ?_
      refine r_iconst (v := 0) C dX4_readNode_27 rfl ?_
      refine r_bipush (v := 50) C dX4_readNode_28 rfl ?_
      refine r_bipush (v := 44) C dX4_readNode_30 rfl ?_
      refine r_callVI (As := [.int 2, .int 0, .int 50, .int 44]) (rest := []) C dX4_readNode_32 s_X4_34 (c_X4_readNumber_f l G hG (mset (mset (mset M 73 2 (nI R1.2.2)) 73 2 x2) 73 3 (nI R2.2.2)) g 2 0 50 44 (by rw [mset_at, upd_at]; exact nI_nm1 (by have := hp2; omega))) (by decide) rfl rfl rfl rfl (Nat.le_of_ble_eq_true rfl) (Nat.le_of_ble_eq_true rfl) (Nat.le_of_ble_eq_true rfl) (pk_I ?_)
      refine r_istore (L' := [(5, .int 0), (4, .int r20), (3, .int r8), (0, .ref (mA G 73)), (1, .ref (mA G 97)), (2, .int (nI n))]) C dX4_readNode_35 (by decide) rfl ?_
      refine r_aload_n C dX4_readNode_37 3 rfl ?_
      refine r_iconst (v := 3) C dX4_readNode_38 rfl ?_
      refine r_iconst (v := 0) C dX4_readNode_39 rfl ?_
      refine r_sipush (v := 500) C dX4_readNode_40 rfl ?_
      refine r_bipush (v := 44) C dX4_readNode_43 rfl ?_
      refine r_callVI (As := [.int 3, .int 0, .int 500, .int 44]) (rest := []) C dX4_readNode_45 s_X4_34 (c_X4_readNumber_f l G hG (mset (mset (mset M 73 2 (nI R1.2.2)) 73 2 x2) 73 3 (nI R2.2.2)) g 3 0 500 44 (by rw [mset_at, upd_at]; exact nI_nm1 (by have := hp2; omega))) (by decide) rfl rfl rfl rfl (Nat.le_of_ble_eq_true rfl) (Nat.le_of_ble_eq_true rfl) (Nat.le_of_ble_eq_true rfl) (pk_I ?_)
      refine r_istore (L' := [(6, .int 0), (5, .int 0), (4, .int r20), (3, .int r8), (0, .ref (mA G 73)), (1, .ref (mA G 97)), (2, .int (nI n))]) C dX4_readNode_48 (by decide) rfl ?_
      refine r_aload_n C dX4_readNode_50 4 rfl ?_
      refine r_iconst (v := 4) C dX4_readNode_51 rfl ?_
      refine r_iconst (v := 0) C dX4_readNode_52 rfl ?_
      refine r_sipush (v := 1200) C dX4_readNode_53 rfl ?_
      refine r_bipush (v := 59) C dX4_readNode_56 rfl ?_
      refine r_callVI (As := [.int 4, .int 0, .int 1200, .int 59]) (rest := []) C dX4_readNode_58 s_X4_34 (c_X4_readNumber_f l G hG (mset (mset (mset M 73 2 (nI R1.2.2)) 73 2 x2) 73 3 (nI R2.2.2)) g 4 0 1200 59 (by rw [mset_at, upd_at]; exact nI_nm1 (by have := hp2; omega))) (by decide) rfl rfl rfl rfl (Nat.le_of_ble_eq_true rfl) (Nat.le_of_ble_eq_true rfl) (Nat.le_of_ble_eq_true rfl) (pk_I ?_)
      refine r_istore (L' := [(7, .int 0), (6, .int 0), (5, .int 0), (4, .int r20), (3, .int r8), (0, .ref (mA G 73)), (1, .ref (mA G 97)), (2, .int (nI n))]) C dX4_readNode_61 (by decide) rfl ?_
      refine r_aload_n C dX4_readNode_63 5 rfl ?_
      refine r_geti C dX4_readNode_64 3 f_X4_22 rfl rfl ?_
      refine r_valI (y := nI R2.2.2) (by rw [mset_at, upd_at]) ?_
      refine r_iconst (v := (-1)) C dX4_readNode_67 rfl ?_
      refine r_icmp_ne (tgt := 85) C dX4_readNode_68 (by decide) (fun _ => ?_) (fun h => absurd h (nI_nm1 (by have := hp2; omega)))
      exact hend _ _ _ _ dX4_readNode_85 (⟨rn_f hV hl (rdNode_f2 hR1 hR2 hb1 hb2) _, rfl⟩)
  ·
    rw [if_neg (by rw [hb1]; decide)] at h8
    obtain ⟨x1, rfl⟩ := h8
    rw [show mset M 73 2 x1 = mset (mset M 73 2 (nI a)) 73 2 x1 from (mset_again _ _ _ _ _).symm]
    refine r_istore_n (L' := [(3, .int r8), (0, .ref (mA G 73)), (1, .ref (mA G 97)), (2, .int (nI n))]) C dX4_readNode_11 (by decide) rfl ?_
    refine r_aload_n C dX4_readNode_12 1 rfl ?_
    refine r_iconst (v := 3) C dX4_readNode_13 rfl ?_
    refine r_iconst (v := 1) C dX4_readNode_14 rfl ?_
    refine r_sipush (v := 500) C dX4_readNode_15 rfl ?_
    refine r_bipush (v := 44) C dX4_readNode_18 rfl ?_
    refine r_callVI (As := [.int 3, .int 1, .int 500, .int 44]) (rest := []) C dX4_readNode_20 s_X4_34 (c_X4_readNumber_f l G hG (mset (mset (mset M 73 2 (nI a)) 73 2 x1) 73 3 (nI R1.2.2)) g 3 1 500 44 (by rw [mset_at, upd_at]; exact nI_nm1 (by have := hp1; omega))) (by decide) rfl rfl rfl rfl (Nat.le_of_ble_eq_true rfl) (Nat.le_of_ble_eq_true rfl) (Nat.le_of_ble_eq_true rfl) (pk_I ?_)
    refine r_istore (L' := [(4, .int 0), (3, .int r8), (0, .ref (mA G 73)), (1, .ref (mA G 97)), (2, .int (nI n))]) C dX4_readNode_23 (by decide) rfl ?_
    refine r_aload_n C dX4_readNode_25 2 rfl ?_
    refine r_iconst (v := 2) C dX4_readNode_26 rfl ?_
    refine r_iconst (v := 0) C dX4_readNode_27 rfl ?_
    refine r_bipush (v := 50) C dX4_readNode_28 rfl ?_
    refine r_bipush (v := 44) C dX4_readNode_30 rfl ?_
    refine r_callVI (As := [.int 2, .int 0, .int 50, .int 44]) (rest := []) C dX4_readNode_32 s_X4_34 (c_X4_readNumber_f l G hG (mset (mset (mset M 73 2 (nI a)) 73 2 x1) 73 3 (nI R1.2.2)) g 2 0 50 44 (by rw [mset_at, upd_at]; exact nI_nm1 (by have := hp1; omega))) (by decide) rfl rfl rfl rfl (Nat.le_of_ble_eq_true rfl) (Nat.le_of_ble_eq_true rfl) (Nat.le_of_ble_eq_true rfl) (pk_I ?_)
    refine r_istore (L' := [(5, .int 0), (4, .int 0), (3, .int r8), (0, .ref (mA G 73)), (1, .ref (mA G 97)), (2, .int (nI n))]) C dX4_readNode_35 (by decide) rfl ?_
    refine r_aload_n C dX4_readNode_37 3 rfl ?_
    refine r_iconst (v := 3) C dX4_readNode_38 rfl ?_
    refine r_iconst (v := 0) C dX4_readNode_39 rfl ?_
    refine r_sipush (v := 500) C dX4_readNode_40 rfl ?_
    refine r_bipush (v := 44) C dX4_readNode_43 rfl ?_
    refine r_callVI (As := [.int 3, .int 0, .int 500, .int 44]) (rest := []) C dX4_readNode_45 s_X4_34 (c_X4_readNumber_f l G hG (mset (mset (mset M 73 2 (nI a)) 73 2 x1) 73 3 (nI R1.2.2)) g 3 0 500 44 (by rw [mset_at, upd_at]; exact nI_nm1 (by have := hp1; omega))) (by decide) rfl rfl rfl rfl (Nat.le_of_ble_eq_true rfl) (Nat.le_of_ble_eq_true rfl) (Nat.le_of_ble_eq_true rfl) (pk_I ?_)
    refine r_istore (L' := [(6, .int 0), (5, .int 0), (4, .int 0), (3, .int r8), (0, .ref (mA G 73)), (1, .ref (mA G 97)), (2, .int (nI n))]) C dX4_readNode_48 (by decide) rfl ?_
    refine r_aload_n C dX4_readNode_50 4 rfl ?_
    refine r_iconst (v := 4) C dX4_readNode_51 rfl ?_
    refine r_iconst (v := 0) C dX4_readNode_52 rfl ?_
    refine r_sipush (v := 1200) C dX4_readNode_53 rfl ?_
    refine r_bipush (v := 59) C dX4_readNode_56 rfl ?_
    refine r_callVI (As := [.int 4, .int 0, .int 1200, .int 59]) (rest := []) C dX4_readNode_58 s_X4_34 (c_X4_readNumber_f l G hG (mset (mset (mset M 73 2 (nI a)) 73 2 x1) 73 3 (nI R1.2.2)) g 4 0 1200 59 (by rw [mset_at, upd_at]; exact nI_nm1 (by have := hp1; omega))) (by decide) rfl rfl rfl rfl (Nat.le_of_ble_eq_true rfl) (Nat.le_of_ble_eq_true rfl) (Nat.le_of_ble_eq_true rfl) (pk_I ?_)
    refine r_istore (L' := [(7, .int 0), (6, .int 0), (5, .int 0), (4, .int 0), (3, .int r8), (0, .ref (mA G 73)), (1, .ref (mA G 97)), (2, .int (nI n))]) C dX4_readNode_61 (by decide) rfl ?_
    refine r_aload_n C dX4_readNode_63 5 rfl ?_
    refine r_geti C dX4_readNode_64 3 f_X4_22 rfl rfl ?_
    refine r_valI (y := nI R1.2.2) (by rw [mset_at, upd_at]) ?_
    refine r_iconst (v := (-1)) C dX4_readNode_67 rfl ?_
    refine r_icmp_ne (tgt := 85) C dX4_readNode_68 (by decide) (fun _ => ?_) (fun h => absurd h (nI_nm1 (by have := hp1; omega)))
    exact hend _ _ _ _ dX4_readNode_85 (⟨rn_f hV hl (rdNode_f1 hR1  hb1) _, rfl⟩)
