def vMt (V : View) (mt : Nat → Int32) : View := ((vN V, vB V), vP V, vS V, (fun w j => if w = 6 then mt j else vD V w j), vO V)
def mtF (V : View) (b : Nat → Bool) (j : Nat) : Int32 := if b j then 1 else vD V 6 j
def updB (b : Nat → Bool) (i j : Nat) : Bool := if j = i then true else b j
def bK (b : Nat → Bool) (k j : Nat) : Bool := b j && decide (k ≤ j)
theorem sameW_mt (V : View) (mt : Nat → Int32) : sameW V (vMt V mt) := by
  refine ⟨rfl, rfl, rfl, rfl, fun w hw => ?_, rfl⟩
  funext j
  show vD V w j = if w = 6 then mt j else vD V w j
  rw [if_neg (by omega)]
theorem sameW.next {V V' : View} (h : sameW V V') (mt : Nat → Int32) : nextF V mt = nextF V' mt := by
  obtain ⟨h1, h2, h3, h4, h5, h6⟩ := id h
  have e5 := h5 5 (by decide)
  funext node
  unfold nextF ibF szF lkF szR lkR
  rw [h1, h3, h.hd mt, e5]
theorem sameW.fn {V V' : View} (h : sameW V V') (mt : Nat → Int32) : fnF V mt = fnF V' mt := by
  unfold fnF
  rw [h.next mt, h.1]
theorem wf_mt {V : View} {mt : Nat → Int32} (hW : wfV V) (h0 : mt 0 = 0) (hm : ∀ j, 0 < j → j < vN V → mt j = 0 ∨ mt j = 1) : wfV (vMt V mt) := by
  obtain ⟨⟨t1, t2, t3, ⟨d0, d3, d5, d6⟩, t5⟩, h2, h3, h4, h5⟩ := hW
  have e : ∀ w j, w ≠ 6 → vD (vMt V mt) w j = vD V w j := fun w j hw => by show (if w = 6 then mt j else vD V w j) = _; rw [if_neg hw]
  have e6 : ∀ j, vD (vMt V mt) 6 j = mt j := fun j => rfl
  refine ⟨⟨t1, t2, t3, ⟨by rw [e 0 0 (by decide)]; exact d0, by rw [e 3 0 (by decide)]; exact d3, by rw [e 5 0 (by decide)]; exact d5, by rw [e6]; exact h0⟩, fun j a b => by rw [e 0 j (by decide)]; exact t5 j a b⟩, fun w hw => ?_, fun j a b => ?_, h4, h5⟩
  · by_cases z : w = 6
    · subst z; rw [e6, h0]; rfl
    · rw [e w 0 z]; exact h2 w hw
  · have := h3 j a b
    unfold wfC at this ⊢
    rw [e 1 j (by decide), e 2 j (by decide), e 3 j (by decide), e 4 j (by decide), e 5 j (by decide), e6]
    exact ⟨this.1, this.2.1, this.2.2.1, this.2.2.2.1, this.2.2.2.2.1, hm j a b⟩
/-- the places that a search has taken -/
def bOK (V : View) (b : Nat → Bool) : Prop := ∀ j, b j = true → 0 < j ∧ j < vN V ∧ vD V 6 j = 0
theorem wf_mtF {V : View} {b : Nat → Bool} (hW : wfV V) (hb : bOK V b) : wfV (vMt V (mtF V b)) := by
  refine wf_mt hW ?_ (fun j a c => ?_)
  · unfold mtF
    rw [if_neg (fun z => by have := hb 0 z; omega)]
    exact hW.1.2.2.2.1.2.2.2
  · unfold mtF
    by_cases z : b j = true
    · rw [if_pos z]; exact Or.inr rfl
    · rw [if_neg z]; exact (hW.2.2.1 j a c).2.2.2.2.2
theorem mt_none (V : View) : mtF V (fun _ => false) = vD V 6 := by
  funext j
  exact if_neg Bool.false_ne_true
theorem mt_upd (V : View) (b : Nat → Bool) (i : Nat) : upd (mtF V b) i 1 = mtF V (updB b i) := by
  funext j
  unfold mtF updB
  by_cases e : j = i
  · rw [e, upd_at, if_pos rfl, if_pos rfl]
  · rw [upd_ne e, if_neg e]
theorem mt_free {V : View} {b : Nat → Bool} {i : Nat} (h : mtF V b i = 0) : b i = false ∧ vD V 6 i = 0 := by
  unfold mtF at h
  by_cases z : b i = true
  · rw [if_pos z] at h; exact absurd h (by decide)
  · rw [if_neg z] at h; exact ⟨by simpa using z, h⟩
theorem bOK.upd {V : View} {b : Nat → Bool} {i : Nat} (h : bOK V b) (h0 : 0 < i) (hi : i < vN V) (hz : vD V 6 i = 0) : bOK V (updB b i) := fun j hj => by
  unfold updB at hj
  by_cases e : j = i
  · subst e; exact ⟨h0, hi, hz⟩
  · rw [if_neg e] at hj; exact h j hj
theorem cntA_upd {b : Nat → Bool} {i : Nat} (hb : b i = false) : ∀ k, cntA (updB b i) k = cntA b k + (if i < k then 1 else 0)
  | 0 => by rw [if_neg (by omega)]; rfl
  | k + 1 => by
    rw [cntA, cntA, cntA_upd hb k]
    unfold updB
    by_cases e : k = i
    · subst e
      rw [if_pos rfl, hb]
      simp
    · rw [if_neg e]
      by_cases z : i < k
      · rw [if_pos z, if_pos (show i < k + 1 by omega)]; omega
      · rw [if_neg z, if_neg (show ¬ i < k + 1 by omega)]; omega
theorem mkB_test (b : Nat → Bool) (d p : Nat) : (mkB b d).testBit p = (decide (p < d) && b p) := by
  by_cases h : p < d
  · rw [Nat.testBit_eq_decide_div_mod_eq, mkB_bit b d p h, decide_eq_true h, Bool.true_and]
    cases b p <;> rfl
  · rw [decide_eq_false h, Bool.false_and]
    have h2 : (2 : Nat) ^ d ≤ 2 ^ p := Nat.pow_le_pow_right (by decide) (by omega)
    have h1 := mkB_lt b d
    exact Nat.testBit_lt_two_pow (by omega)
theorem mkB_or {b : Nat → Bool} {i : Nat} (hi : i < 16) : nI (mkB b 16) ||| ((1 : Int32) <<< (nI i &&& 31)) = nI (mkB (updB b i) 16) := by
  have h31 : (2 : Nat) ^ i ≤ 2 ^ 15 := Nat.pow_le_pow_right (by decide) (by omega)
  rw [show (1 : Int32) = nI 1 from rfl, pk_shlN (n := 1) _ i (smod31 i (by omega)) (by omega), nb_or]
  congr 1
  apply Nat.eq_of_testBit_eq
  intro p
  rw [Nat.testBit_or, mkB_test, mkB_test, Nat.one_mul, Nat.testBit_two_pow]
  unfold updB
  by_cases e : p = i
  · subst e
    rw [if_pos rfl, decide_eq_true hi, decide_eq_true rfl]
    simp
  · rw [if_neg e, decide_eq_false (show ¬ i = p from fun z => e z.symm), Bool.or_false]
theorem bit_val {b : Nat → Bool} {k : Nat} (hk : k < 16) : (nI (mkB b 16) >>> (nI k &&& 31)) &&& 1 = b2i (b k) := by
  have h1 := mkB_lt b 16
  have hd : mkB b 16 / 2 ^ k ≤ mkB b 16 := Nat.div_le_self _ _
  rw [pk_shrN (by omega) _ k (smod31 k (by omega)), pk_andN (by omega) 1 (by decide), Nat.pow_one, mkB_bit b 16 k hk]
  cases b k <;> rfl
theorem mt_row {f : Nat → Int32} {V : View} {b : Nat → Bool} {i : Nat} (hn : vN V ≤ 16) (hi : i < vN V) (h : rV f (vMt V (mtF V b))) : rV (upd f (9 + 8 * i + 6) 1) (vMt V (mtF V (updB b i))) := by
  refine rV_ext (V := vSet (vMt V (mtF V b)) 6 i 1) rfl rfl (fun _ => rfl) (fun w j _ => ?_) (fun _ _ => rfl) (rV_set hn h (by decide) hi)
  show (if w = 6 ∧ j = i then 1 else if w = 6 then mtF V b j else vD V w j) = if w = 6 then mtF V (updB b i) j else vD V w j
  by_cases e : w = 6
  · rw [if_pos e, if_pos e, ← mt_upd]
    by_cases z : j = i
    · rw [if_pos ⟨e, z⟩, z, upd_at]
    · rw [if_neg (fun y => z y.2), upd_ne z]
  · rw [if_neg (fun y => e y.1), if_neg e, if_neg e]
theorem rs_row {f : Nat → Int32} {V : View} {b : Nat → Bool} {k : Nat} {x : Int32} (hn : vN V ≤ 16) (hb : bOK V b) (h : rV f (vMt V (mtF V (bK b k)))) (hx : b k = true ∧ x = 0 ∨ b k = false ∧ x = f (9 + 8 * k + 6)) : rV (upd f (9 + 8 * k + 6) x) (vMt V (mtF V (bK b (k + 1)))) := by
  have hne : ∀ j, j ≠ k → mtF V (bK b (k + 1)) j = mtF V (bK b k) j := fun j hj => by
    unfold mtF bK
    rw [show decide (k + 1 ≤ j) = decide (k ≤ j) from decide_eq_decide.mpr (by omega)]
  have hk1 : mtF V (bK b (k + 1)) k = vD V 6 k := by
    unfold mtF bK
    rw [decide_eq_false (show ¬ k + 1 ≤ k by omega), Bool.and_false]
    exact if_neg (by decide)
  rcases hx with ⟨h1, rfl⟩ | ⟨h1, rfl⟩
  · obtain ⟨b1, b2, b3⟩ := hb k h1
    refine rV_ext (V := vSet (vMt V (mtF V (bK b k))) 6 k 0) rfl rfl (fun _ => rfl) (fun w j _ => ?_) (fun _ _ => rfl) (rV_set hn h (by decide) b2)
    show (if w = 6 ∧ j = k then 0 else if w = 6 then mtF V (bK b k) j else vD V w j) = if w = 6 then mtF V (bK b (k + 1)) j else vD V w j
    by_cases e : w = 6
    · rw [if_pos e, if_pos e]
      by_cases z : j = k
      · rw [if_pos ⟨e, z⟩, z, hk1, b3]
      · rw [if_neg (fun y => z y.2), hne j z]
    · rw [if_neg (fun y => e y.1), if_neg e, if_neg e]
  · have e1 : upd f (9 + 8 * k + 6) (f (9 + 8 * k + 6)) = f := by
      funext i
      by_cases e : i = 9 + 8 * k + 6
      · rw [e, upd_at]
      · rw [upd_ne e]
    rw [e1]
    refine rV_ext (V := vMt V (mtF V (bK b k))) rfl rfl (fun _ => rfl) (fun w j _ => ?_) (fun _ _ => rfl) h
    show (if w = 6 then mtF V (bK b k) j else vD V w j) = if w = 6 then mtF V (bK b (k + 1)) j else vD V w j
    by_cases z : j = k
    · rw [z, hk1]
      have : mtF V (bK b k) k = vD V 6 k := by
        unfold mtF bK
        rw [h1, Bool.false_and]
        exact if_neg (by decide)
      rw [this]
    · rw [hne j z]
theorem rs_start {f : Nat → Int32} {V : View} {b : Nat → Bool} (h : rV f (vMt V (mtF V b))) : rV f (vMt V (mtF V (bK b 0))) := by
  have e : bK b 0 = b := by
    funext j
    unfold bK
    rw [decide_eq_true (Nat.zero_le j), Bool.and_true]
  rw [e]
  exact h
theorem rs_end {f : Nat → Int32} {V : View} {b : Nat → Bool} (hn : vN V ≤ 16) (hb : bOK V b) (h : rV f (vMt V (mtF V (bK b 16)))) : rV f V := by
  refine rV_ext (V := vMt V (mtF V (bK b 16))) rfl rfl (fun _ => rfl) (fun w j _ => ?_) (fun _ _ => rfl) h
  show (if w = 6 then mtF V (bK b 16) j else vD V w j) = vD V w j
  by_cases e : w = 6
  · rw [if_pos e, e]
    unfold mtF bK
    refine if_neg (fun z => ?_)
    rw [Bool.and_eq_true, decide_eq_true_eq] at z
    have := hb j z.1
    omega
  · rw [if_neg e]
theorem mt_rowP {M : Mem} {V : View} {Hs : List View} {len : Nat} {T f : Nat → Int32} {r a : Int32} (hI : rINV M V Hs len T) (hf : rV f V) (hr : r = a) : mtP M (mset (mrow M 108 f) 107 6 0) V Hs len T V Hs len T 0 r a := by
  obtain ⟨h1, ⟨h2, h3, h4⟩, h5, h6, h7⟩ := hI
  refine ⟨by rw [mset_at, upd_at]; rfl, fun q hq => by rw [mset_ne (by omega), mrow_ne (by omega)], fun _ => ⟨hr, by rw [mset_ne (by decide), mrow_at]; exact hf, ⟨?_, h3, fun i W hi => by rw [mset_ne (by decide), mrow_ne (by decide)]; exact h4 i W hi⟩, ?_, h6, fun j hj => by rw [mset_ne (by decide), mrow_ne (by decide)]; exact h7 j hj⟩, fun z => absurd rfl z⟩
  · rw [mset_at, upd_ne (by decide), mrow_ne (by decide)]; exact h2
  · rw [mset_at, upd_ne (by decide), mrow_ne (by decide)]; exact h5
theorem fn_mt (V : View) (b : Nat → Bool) : fnF (vMt V (mtF V b)) (vD (vMt V (mtF V b)) 6) = fnF V (mtF V b) := by
  have e : vD (vMt V (mtF V b)) 6 = mtF V b := rfl
  rw [e]
  exact ((sameW_mt V (mtF V b)).fn (mtF V b)).symm
theorem cnt_lt {V : View} {b : Nat → Bool} (hb : bOK V b) : cntA b 16 < 16 := cntA_lt (j := 0) (by decide) (by
  cases h : b 0 with
  | false => rfl
  | true => exact absurd (hb 0 h).1 (by omega))
set_option maxRecDepth 20000 in
set_option maxHeartbeats 1000000 in
theorem c_X8_ofR (l : Launch) (G : mG) (hG : mInj G) (M : Mem) (g : Glo) (j w : Nat) (hj : j < 16) (hw : w < 8) : mcI l G yX8_of cX8_of 3 .int 1 [.ref (mA G 107), .int (nI j), .int (nI w)] M g (fun r M' g' => r = M 108 (9 + 8 * j + w) ∧ M' = M ∧ g' = g) := by
  refine mcI_of (L0 := [(0, .ref (mA G 107)), (1, .int (nI j)), (2, .int (nI w))]) hG (by decide) (Nat.le_of_ble_eq_true rfl) rfl ?_
  intro p e s m args below meth c Q C hend
  refine r_aload_n C dX8_of_0 0 rfl ?_
  refine r_getr (q2 := 108) C dX8_of_1 0 f_X8_7 rfl rfl ?_
  refine r_bipush (v := 9) C dX8_of_4 rfl ?_
  refine r_bipush (v := 8) C dX8_of_6 rfl ?_
  refine r_iload_n C dX8_of_8 1 rfl ?_
  refine r_imul C dX8_of_9 ?_
  refine r_iadd C dX8_of_10 ?_
  refine r_iload_n C dX8_of_11 2 rfl ?_
  refine r_iadd C dX8_of_12 ?_
  refine r_ialdN (j := 9 + 8 * j + w) (v := M 108 (9 + 8 * j + w)) C dX8_of_13 rfl (ix8 j w) (by omega) (by decide) (rfl) ?_
  exact hend _ _ _ _ _ dX8_of_14 (rfl) (⟨rfl, rfl, rfl⟩)

set_option maxRecDepth 20000 in
set_option maxHeartbeats 1000000 in
theorem c_X8_metersToFind (l : Launch) (G : mG) (hG : mInj G) (M : Mem) (g : Glo) (V : View) (Hs : List View) (len : Nat) (T : Nat → Int32) (hW : wfV V) (hI : rINV M V Hs len T) : mcI l G yX8_metersToFind cX8_metersToFind 4 .int 6 [.ref (mA G 107)] M g (fun r M' g' => mtP M M' V Hs len T V Hs len T 0 r (nI (mfF V 16 (vD V 6))) ∧ g' = g) := by
  refine mcI_of (L0 := [(0, .ref (mA G 107))]) hG (by decide) (Nat.le_of_ble_eq_true rfl) rfl ?_
  intro p e s m args below meth c Q C hend
  have hT := hW.1
  obtain ⟨hn1, hn16, hb4, ⟨hd0, hd3, hd5, hd6⟩, hpar⟩ := id hT
  have hV := hI.1
  refine r_iconst (v := 0) C dX8_metersToFind_0 rfl ?_
  refine r_istore_n (L' := [(1, .int 0), (0, .ref (mA G 107))]) C dX8_metersToFind_1 (by decide) rfl ?_
  refine r_iconst (v := nI 0) C dX8_metersToFind_2 rfl ?_
  refine r_istore_n (L' := [(2, .int (nI 0)), (1, .int 0), (0, .ref (mA G 107))]) C dX8_metersToFind_3 (by decide) rfl ?_
  refine r_aload_n C dX8_metersToFind_4 2 rfl ?_
  refine r_callVI (As := []) (rest := []) C dX8_metersToFind_5 s_X8_175 (c_X8_firstNext l G hG M g V hW hV) (by decide) rfl rfl rfl rfl (Nat.le_of_ble_eq_true rfl) (Nat.le_of_ble_eq_true rfl) (Nat.le_of_ble_eq_true rfl) (pk_I ?_)
  refine r_istore_n (L' := [(3, .int (fnF V (vD V 6))), (2, .int (nI 0)), (1, .int 0), (0, .ref (mA G 107))]) C dX8_metersToFind_8 (by decide) rfl ?_
  have lp9 : ∀ (fu : Nat) (f : Nat → Int32) (b : Nat → Bool) (nn : Nat) (kk st : Int32), (rV f (vMt V (mtF V b))) → (bOK V b) → (st = nI (mkB b 16)) → (kk = fnF V (mtF V b)) → (cntA b 16 = nn) → (mfF V (16 - nn) (mtF V b) + nn = mfF V 16 (vD V 6)) → (16 - nn) < fu → At p l e (rmD 6 0 0) s m args below meth c G 4 0 0 Q (mrow M 108 f) g [(3, .int kk), (2, .int (nI nn)), (1, .int st), (0, .ref (mA G 107))] 9 [] := by
    intro fu
    induction fu with
    | zero => intro f b nn kk st hf hb hset hk hc hm hfu; exact absurd hfu (Nat.not_lt_zero _)
    | succ fu ih9 =>
      intro f b nn kk st hf hb hset hk hc hm hfu9
      refine r_iload_n C dX8_metersToFind_9 0 rfl ?_
      refine r_iconst (v := (-1)) C dX8_metersToFind_10 rfl ?_
      refine r_icmp_eq (tgt := 39) C dX8_metersToFind_11 (by decide) (fun c11 => ?_) (fun c11 => ?_)
      ·
        have hmf : mfF V (16 - nn) (mtF V b) = 0 := mf_no (hk.symm.trans c11)
        refine r_iconst (v := nI 0) C dX8_metersToFind_39 rfl ?_
        refine r_istore_n (L' := [(3, .int (nI 0)), (2, .int (nI nn)), (1, .int st), (0, .ref (mA G 107))]) C dX8_metersToFind_40 (by decide) rfl ?_
        have lp41 : ∀ (fu : Nat) (k2 : Nat) (f2 : Nat → Int32), (k2 ≤ 16) → (rV f2 (vMt V (mtF V (bK b k2)))) → (16 - k2) < fu → At p l e (rmD 6 0 0) s m args below meth c G 4 0 0 Q (mrow M 108 f2) g [(3, .int (nI k2)), (2, .int (nI nn)), (1, .int st), (0, .ref (mA G 107))] 41 [] := by
          intro fu
          induction fu with
          | zero => intro k2 f2 hkn hf2 hfu; exact absurd hfu (Nat.not_lt_zero _)
          | succ fu ih41 =>
            intro k2 f2 hkn hf2 hfu41
            refine r_iload_n C dX8_metersToFind_41 0 rfl ?_
            refine r_bipush (v := 16) C dX8_metersToFind_42 rfl ?_
            refine r_icmp_ge (tgt := 80) C dX8_metersToFind_44 (by decide) (fun c44 => ?_) (fun c44 => ?_)
            ·
              have hkn2 : k2 = 16 := by have := le_of_le (a := 16) (by decide) (by omega) c44; omega
              refine r_aload_n C dX8_metersToFind_80 3 rfl ?_
              refine r_iload_n C dX8_metersToFind_81 1 rfl ?_
              refine r_callVI (As := [.int (nI nn)]) (rest := []) C dX8_metersToFind_82 s_X8_44 (c_X8_tells l G hG (mrow M 108 f2) g (nI nn)) (by decide) rfl rfl rfl rfl (Nat.le_of_ble_eq_true rfl) (Nat.le_of_ble_eq_true rfl) (Nat.le_of_ble_eq_true rfl) (pk_I ?_)
              exact hend _ _ _ _ _ dX8_metersToFind_85 (rfl) (⟨mt_rowP hI (rs_end hn16 hb (by rw [hkn2] at hf2; exact hf2)) (by rw [← hm, hmf, Nat.zero_add]), rfl⟩)
            ·
              have hlt : k2 < 16 := lt_of_nle (b := 16) (by omega) c44
              refine r_aload_n C dX8_metersToFind_47 3 rfl ?_
              refine r_iload_n C dX8_metersToFind_48 0 rfl ?_
              refine r_bipush (v := 6) C dX8_metersToFind_49 rfl ?_
              refine r_iload_n C dX8_metersToFind_51 2 rfl ?_
              refine r_iload_n C dX8_metersToFind_52 0 rfl ?_
              refine r_ishr C dX8_metersToFind_53 ?_
              refine r_iconst (v := 1) C dX8_metersToFind_54 rfl ?_
              refine r_iand C dX8_metersToFind_55 ?_
              refine r_valI (y := b2i (b k2)) (by rw [hset]; exact bit_val hlt) ?_
              refine r_iconst (v := 1) C dX8_metersToFind_56 rfl ?_
              refine r_icmp_ne (tgt := 64) C dX8_metersToFind_57 (by decide) (fun c57 => ?_) (fun c57 => ?_)
              ·
                refine r_aload_n C dX8_metersToFind_64 3 rfl ?_
                refine r_iload_n C dX8_metersToFind_65 0 rfl ?_
                refine r_bipush (v := 6) C dX8_metersToFind_66 rfl ?_
                refine r_callVI (As := [.int (nI k2), .int 6]) (rest := [.int 6, .int (nI k2), .ref (mA G 107)]) C dX8_metersToFind_68 s_X8_48 (c_X8_ofR l G hG (mrow M 108 f2) g k2 6 (by omega) (by decide)) (by decide) rfl rfl rfl rfl (Nat.le_of_ble_eq_true rfl) (Nat.le_of_ble_eq_true rfl) (Nat.le_of_ble_eq_true rfl) (pk_I ?_)
                refine r_valI (y := f2 (9 + 8 * k2 + 6)) (by rw [mrow_at]) ?_
                refine r_callVV (As := [.int (nI k2), .int 6, .int (f2 (9 + 8 * k2 + 6))]) (rest := []) C dX8_metersToFind_71 s_X8_87 (c_X8_puts l G hG (mrow M 108 f2) g k2 6 (by omega) (by decide) (f2 (9 + 8 * k2 + 6))) (by decide) rfl rfl rfl rfl (Nat.le_of_ble_eq_true rfl) (Nat.le_of_ble_eq_true rfl) (Nat.le_of_ble_eq_true rfl) (pk_V ?_)
                refine r_mem (M' := mrow M 108 (upd f2 (9 + 8 * k2 + 6) (f2 (9 + 8 * k2 + 6)))) (mset_row _ _ _ _ _) ?_
                refine r_iinc (v := nI (k2 + 1)) (L' := [(3, .int (nI (k2 + 1))), (2, .int (nI nn)), (1, .int st), (0, .ref (mA G 107))]) C dX8_metersToFind_74 0 rfl (nI_inc _) (by decide) rfl ?_
                refine r_goto (tgt := 41) C dX8_metersToFind_77 (by decide) ?_
                refine r_sub (L' := [(3, .int (nI (k2 + 1))), (2, .int (nI nn)), (1, .int st), (0, .ref (mA G 107))]) [0, 1, 2, 3] rfl ?_
                exact ih41 (k2 + 1) _ (by omega) (rs_row hn16 hb hf2 (Or.inr ⟨by cases hbk : b k2 with | false => rfl | true => rw [hbk] at c57; exact absurd rfl c57, rfl⟩)) (by omega)
              ·
                refine r_iconst (v := 0) C dX8_metersToFind_60 rfl ?_
                refine r_goto (tgt := 71) C dX8_metersToFind_61 (by decide) ?_
                refine r_callVV (As := [.int (nI k2), .int 6, .int 0]) (rest := []) C dX8_metersToFind_71 s_X8_87 (c_X8_puts l G hG (mrow M 108 f2) g k2 6 (by omega) (by decide) 0) (by decide) rfl rfl rfl rfl (Nat.le_of_ble_eq_true rfl) (Nat.le_of_ble_eq_true rfl) (Nat.le_of_ble_eq_true rfl) (pk_V ?_)
                refine r_mem (M' := mrow M 108 (upd f2 (9 + 8 * k2 + 6) 0)) (mset_row _ _ _ _ _) ?_
                refine r_iinc (v := nI (k2 + 1)) (L' := [(3, .int (nI (k2 + 1))), (2, .int (nI nn)), (1, .int st), (0, .ref (mA G 107))]) C dX8_metersToFind_74 0 rfl (nI_inc _) (by decide) rfl ?_
                refine r_goto (tgt := 41) C dX8_metersToFind_77 (by decide) ?_
                refine r_sub (L' := [(3, .int (nI (k2 + 1))), (2, .int (nI nn)), (1, .int st), (0, .ref (mA G 107))]) [0, 1, 2, 3] rfl ?_
                exact ih41 (k2 + 1) _ (by omega) (rs_row hn16 hb hf2 (Or.inl ⟨by cases hbk : b k2 with | true => rfl | false => rw [hbk] at c57; exact absurd c57 (by decide), rfl⟩)) (by omega)
        refine r_sub (L' := [(3, .int (nI 0)), (2, .int (nI nn)), (1, .int st), (0, .ref (mA G 107))]) [0, 1, 2, 3] rfl ?_
        exact lp41 _ 0 f (by omega) (rs_start hf) (Nat.lt_succ_self _)
      ·
        obtain ⟨i, hi0, hi1, hi2, hkf⟩ : ∃ i, 0 < i ∧ i < vN V ∧ mtF V b i = 0 ∧ fnF V (mtF V b) = nI i := (fnF_sp V (mtF V b)).resolve_left (fun z => c11 (hk.trans z))
        have hki : kk = nI i := hk.trans hkf
        obtain ⟨hbi, hi3⟩ := mt_free hi2
        have hc16 := cnt_lt hb
        refine r_aload_n C dX8_metersToFind_14 3 rfl ?_
        refine r_iload_n C dX8_metersToFind_15 0 rfl ?_
        refine r_valI (y := nI i) (hki) ?_
        refine r_bipush (v := 6) C dX8_metersToFind_16 rfl ?_
        refine r_iconst (v := 1) C dX8_metersToFind_18 rfl ?_
        refine r_callVV (As := [.int (nI i), .int 6, .int 1]) (rest := []) C dX8_metersToFind_19 s_X8_87 (c_X8_puts l G hG (mrow M 108 f) g i 6 (by omega) (by decide) 1) (by decide) rfl rfl rfl rfl (Nat.le_of_ble_eq_true rfl) (Nat.le_of_ble_eq_true rfl) (Nat.le_of_ble_eq_true rfl) (pk_V ?_)
        refine r_mem (M' := mrow M 108 (upd f (9 + 8 * i + 6) 1)) (mset_row _ _ _ _ _) ?_
        refine r_iload_n C dX8_metersToFind_22 2 rfl ?_
        refine r_iconst (v := 1) C dX8_metersToFind_23 rfl ?_
        refine r_iload_n C dX8_metersToFind_24 0 rfl ?_
        refine r_valI (y := nI i) (hki) ?_
        refine r_ishl C dX8_metersToFind_25 ?_
        refine r_ior C dX8_metersToFind_26 ?_
        refine r_valI (y := nI (mkB (updB b i) 16)) (by rw [hset]; exact mkB_or (by omega)) ?_
        refine r_istore_n (L' := [(1, .int (nI (mkB (updB b i) 16))), (3, .int kk), (2, .int (nI nn)), (0, .ref (mA G 107))]) C dX8_metersToFind_27 (by decide) rfl ?_
        refine r_iinc (v := nI (nn + 1)) (L' := [(2, .int (nI (nn + 1))), (1, .int (nI (mkB (updB b i) 16))), (3, .int kk), (0, .ref (mA G 107))]) C dX8_metersToFind_28 2 rfl (nI_inc _) (by decide) rfl ?_
        refine r_aload_n C dX8_metersToFind_31 3 rfl ?_
        refine r_callVI (As := []) (rest := []) C dX8_metersToFind_32 s_X8_175 (c_X8_firstNext l G hG (mrow M 108 (upd f (9 + 8 * i + 6) 1)) g (vMt V (mtF V (updB b i))) (wf_mtF hW (hb.upd hi0 hi1 hi3)) (by rw [mrow_at]; exact mt_row hn16 hi1 hf)) (by decide) rfl rfl rfl rfl (Nat.le_of_ble_eq_true rfl) (Nat.le_of_ble_eq_true rfl) (Nat.le_of_ble_eq_true rfl) (pk_I ?_)
        refine r_valI (y := fnF V (mtF V (updB b i))) (fn_mt V (updB b i)) ?_
        refine r_istore_n (L' := [(3, .int (fnF V (mtF V (updB b i)))), (2, .int (nI (nn + 1))), (1, .int (nI (mkB (updB b i) 16))), (0, .ref (mA G 107))]) C dX8_metersToFind_35 (by decide) rfl ?_
        refine r_goto (tgt := 9) C dX8_metersToFind_36 (by decide) ?_
        refine r_sub (L' := [(3, .int (fnF V (mtF V (updB b i)))), (2, .int (nI (nn + 1))), (1, .int (nI (mkB (updB b i) 16))), (0, .ref (mA G 107))]) [0, 1, 2, 3] rfl ?_
        exact ih9 _ (updB b i) (nn + 1) _ _ (mt_row hn16 hi1 hf) (hb.upd hi0 hi1 hi3) rfl rfl (by rw [cntA_upd hbi, hc, if_pos (by omega)]) (by rw [← hm, show 16 - nn = (16 - (nn + 1)) + 1 by omega, mf_go hkf (by omega), mt_upd]; omega) (by omega)
  refine r_mem (M' := mrow M 108 (M 108)) (mrow_self M 108).symm ?_
  refine r_sub (L' := [(3, .int (fnF V (vD V 6))), (2, .int (nI 0)), (1, .int 0), (0, .ref (mA G 107))]) [0, 1, 2, 3] rfl ?_
  exact lp9 _ (M 108) (fun _ => false) 0 _ _ (rV_ext (V := V) rfl rfl (fun _ => rfl) (fun w j _ => by rw [mt_none]; show vD V w j = if w = 6 then vD V 6 j else vD V w j; by_cases e : w = 6; (rw [if_pos e, e]); (rw [if_neg e])) (fun _ _ => rfl) hV) (fun j hj => absurd hj Bool.false_ne_true) (by rw [mkB_no 16 (fun _ _ => rfl)]; rfl) (by rw [mt_none]) (by decide) (by rw [mt_none]; rfl) (Nat.lt_succ_self _)
