theorem s_X7_335 : mCopy RX7 335 := ⟨gd_t 318 (by decide +kernel) rfl, gd_t 320 (by decide +kernel) rfl, gd_t 319 (by decide +kernel) rfl, gd_t 10 (by decide +kernel) rfl⟩

set_option maxRecDepth 20000 in
set_option maxHeartbeats 1000000 in
theorem c_X7_copyRow16 (l : Launch) (G : mG) (hG : mInj G) (M : Mem) (g : Glo) (q0 q1 : Nat) (h0 : lay q0 = (0, [16])) (h1 : lay q1 = (0, [16])) : mcV l G yX7_copyRow cX7_copyRow 2 1 [.ref (mA G q0), .ref (mA G q1)] M g (fun M' g' => (∃ f, M' = mrow M q1 f ∧ ∀ j, j < 16 → f j = M q0 j) ∧ g' = g) := by
  refine mcV_of (L0 := [(0, .ref (mA G q0)), (1, .ref (mA G q1))]) hG (by decide) (Nat.le_of_ble_eq_true rfl) rfl ?_
  intro p e s m args below meth c Q C hend
  refine r_aload_n C dX7_copyRow_0 0 rfl ?_
  refine r_iconst (v := 0) C dX7_copyRow_1 rfl ?_
  refine r_aload_n C dX7_copyRow_2 1 rfl ?_
  refine r_iconst (v := 0) C dX7_copyRow_3 rfl ?_
  refine r_aload_n C dX7_copyRow_4 0 rfl ?_
  refine r_alen (v := 16) C dX7_copyRow_5 (h0) (by decide) rfl ?_
  refine r_aload_n C dX7_copyRow_6 1 rfl ?_
  refine r_alen (v := 16) C dX7_copyRow_7 (h1) (by decide) rfl ?_
  refine r_min (v := 16) C dX7_copyRow_8 s_X7_330 (Nat.le_of_ble_eq_true rfl) (Nat.le_of_ble_eq_true rfl) (Nat.le_of_ble_eq_true rfl) (by decide) ?_
  refine r_copy C dX7_copyRow_11 s_X7_335 (h0) (h1) (by decide) rfl (by decide) (Nat.le_of_ble_eq_true rfl) (fun f hf => ?_)
  exact hend _ _ _ _ dX7_copyRow_14 (⟨⟨f, rfl, hf⟩, rfl⟩)

set_option maxRecDepth 20000 in
set_option maxHeartbeats 1000000 in
theorem c_X7_copyRow4 (l : Launch) (G : mG) (hG : mInj G) (M : Mem) (g : Glo) (q0 q1 : Nat) (h0 : lay q0 = (0, [4])) (h1 : lay q1 = (0, [4])) : mcV l G yX7_copyRow cX7_copyRow 2 1 [.ref (mA G q0), .ref (mA G q1)] M g (fun M' g' => (∃ f, M' = mrow M q1 f ∧ ∀ j, j < 4 → f j = M q0 j) ∧ g' = g) := by
  refine mcV_of (L0 := [(0, .ref (mA G q0)), (1, .ref (mA G q1))]) hG (by decide) (Nat.le_of_ble_eq_true rfl) rfl ?_
  intro p e s m args below meth c Q C hend
  refine r_aload_n C dX7_copyRow_0 0 rfl ?_
  refine r_iconst (v := 0) C dX7_copyRow_1 rfl ?_
  refine r_aload_n C dX7_copyRow_2 1 rfl ?_
  refine r_iconst (v := 0) C dX7_copyRow_3 rfl ?_
  refine r_aload_n C dX7_copyRow_4 0 rfl ?_
  refine r_alen (v := 4) C dX7_copyRow_5 (h0) (by decide) rfl ?_
  refine r_aload_n C dX7_copyRow_6 1 rfl ?_
  refine r_alen (v := 4) C dX7_copyRow_7 (h1) (by decide) rfl ?_
  refine r_min (v := 4) C dX7_copyRow_8 s_X7_330 (Nat.le_of_ble_eq_true rfl) (Nat.le_of_ble_eq_true rfl) (Nat.le_of_ble_eq_true rfl) (by decide) ?_
  refine r_copy C dX7_copyRow_11 s_X7_335 (h0) (h1) (by decide) rfl (by decide) (Nat.le_of_ble_eq_true rfl) (fun f hf => ?_)
  exact hend _ _ _ _ dX7_copyRow_14 (⟨⟨f, rfl, hf⟩, rfl⟩)

def cSt (M : Mem) (S : Nat) (V : View) : Prop := cNet M (S + 1) V ∧ cBoi M (S + 10) V ∧ M S 2 = vS V 0 ∧ M S 3 = vS V 1 ∧ M S 4 = vS V 2 ∧ M S 5 = vS V 3 ∧ M S 6 = vS V 4 ∧ M S 7 = vS V 8 ∧ M S 8 = vS V 7
theorem cSt.off {M M' : Mem} {S a b : Nat} {V : View} (h : cSt M S V) (ho : offR M M' a b) (hB : S + 13 < a ∨ b < S) : cSt M' S V := by
  obtain ⟨h1, h2, h3, h4, h5, h6, h7, h8, h9⟩ := h
  have e := ho S (by omega)
  exact ⟨h1.off ho (by omega), h2.off ho (by omega), by rw [e]; exact h3, by rw [e]; exact h4, by rw [e]; exact h5, by rw [e]; exact h6, by rw [e]; exact h7, by rw [e]; exact h8, by rw [e]; exact h9⟩

theorem fin_X3_copyFrom {M : Mem} {B B2 : Nat} {V : View} {f1 f2 f3 f4 f5 f6 f7 f8 : Nat → Int32} (hV : cNet M B2 V) (hn : vN V ≤ 16) (hd : B + 8 < B2 ∨ B2 + 8 < B) (k1 : ∀ j, j < 16 → f1 j = M (B2 + 1) j) (k2 : ∀ j, j < 16 → f2 j = M (B2 + 2) j) (k3 : ∀ j, j < 16 → f3 j = M (B2 + 3) j) (k4 : ∀ j, j < 16 → f4 j = M (B2 + 4) j) (k5 : ∀ j, j < 16 → f5 j = M (B2 + 5) j) (k6 : ∀ j, j < 16 → f6 j = M (B2 + 6) j) (k7 : ∀ j, j < 16 → f7 j = M (B2 + 7) j) (k8 : ∀ j, j < 16 → f8 j = M (B2 + 8) j) :
    cNet (mset (mrow (mrow (mrow (mrow (mrow (mrow (mrow (mrow (M) (B + 1) f1) (B + 2) f2) (B + 3) f3) (B + 4) f4) (B + 5) f5) (B + 6) f6) (B + 7) f7) (B + 8) f8) B 8 ((mrow (mrow (mrow (mrow (mrow (mrow (mrow (mrow (M) (B + 1) f1) (B + 2) f2) (B + 3) f3) (B + 4) f4) (B + 5) f5) (B + 6) f6) (B + 7) f7) (B + 8) f8) B2 8)) B V ∧ offR M (mset (mrow (mrow (mrow (mrow (mrow (mrow (mrow (mrow (M) (B + 1) f1) (B + 2) f2) (B + 3) f3) (B + 4) f4) (B + 5) f5) (B + 6) f6) (B + 7) f7) (B + 8) f8) B 8 ((mrow (mrow (mrow (mrow (mrow (mrow (mrow (mrow (M) (B + 1) f1) (B + 2) f2) (B + 3) f3) (B + 4) f4) (B + 5) f5) (B + 6) f6) (B + 7) f7) (B + 8) f8) B2 8)) B (B + 8) := by
  refine ⟨⟨?_, fun w hw j hj => ?_⟩, fun q hq => ?_⟩
  · rw [mset_at, upd_at, mrow_ne (by omega), mrow_ne (by omega), mrow_ne (by omega), mrow_ne (by omega), mrow_ne (by omega), mrow_ne (by omega), mrow_ne (by omega), mrow_ne (by omega)]; exact hV.1
  · rw [← hV.2 w hw j hj, mset_ne (by omega)]
    have hc : w = 0 ∨ w = 1 ∨ w = 2 ∨ w = 3 ∨ w = 4 ∨ w = 5 ∨ w = 6 ∨ w = 7 := by omega
    rcases hc with rfl | rfl | rfl | rfl | rfl | rfl | rfl | rfl
    · rw [mrow_ne (by omega), mrow_ne (by omega), mrow_ne (by omega), mrow_ne (by omega), mrow_ne (by omega), mrow_ne (by omega), mrow_ne (by omega), mrow_at, k1 j (by omega)]
    · rw [mrow_ne (by omega), mrow_ne (by omega), mrow_ne (by omega), mrow_ne (by omega), mrow_ne (by omega), mrow_ne (by omega), mrow_at, k2 j (by omega)]
    · rw [mrow_ne (by omega), mrow_ne (by omega), mrow_ne (by omega), mrow_ne (by omega), mrow_ne (by omega), mrow_at, k3 j (by omega)]
    · rw [mrow_ne (by omega), mrow_ne (by omega), mrow_ne (by omega), mrow_ne (by omega), mrow_at, k4 j (by omega)]
    · rw [mrow_ne (by omega), mrow_ne (by omega), mrow_ne (by omega), mrow_at, k5 j (by omega)]
    · rw [mrow_ne (by omega), mrow_ne (by omega), mrow_at, k6 j (by omega)]
    · rw [mrow_ne (by omega), mrow_at, k7 j (by omega)]
    · rw [mrow_at, k8 j (by omega)]
  · rw [mset_ne (by omega), mrow_ne (by omega), mrow_ne (by omega), mrow_ne (by omega), mrow_ne (by omega), mrow_ne (by omega), mrow_ne (by omega), mrow_ne (by omega), mrow_ne (by omega)]

set_option maxRecDepth 20000 in
set_option maxHeartbeats 1000000 in
theorem c_X3_copyFrom (l : Launch) (G : mG) (hG : mInj G) (M : Mem) (g : Glo) (B B2 : Nat) (hB : isNet B) (hB2 : isNet B2) (V : View) (hV : cNet M B2 V) (hn : vN V ≤ 16) (hd : B + 8 < B2 ∨ B2 + 8 < B) : mcV l G yX3_copyFrom cX3_copyFrom 2 2 [.ref (mA G B), .ref (mA G B2)] M g (fun M' g' => (cNet M' B V ∧ offR M M' B (B + 8)) ∧ g' = g) := by
  refine mcV_of (L0 := [(0, .ref (mA G B)), (1, .ref (mA G B2))]) hG (by decide) (Nat.le_of_ble_eq_true rfl) rfl ?_
  intro p e s m args below meth c Q C hend
  refine r_aload_n C dX3_copyFrom_0 1 rfl ?_
  refine r_getr (q2 := (B2 + 1)) C dX3_copyFrom_1 0 f_X3_9 (hB2.1) rfl ?_
  refine r_aload_n C dX3_copyFrom_4 0 rfl ?_
  refine r_getr (q2 := (B + 1)) C dX3_copyFrom_5 0 f_X3_9 (hB.1) rfl ?_
  refine r_callNV (As := [.ref (mA G (B2 + 1)), .ref (mA G (B + 1))]) (rest := []) C dX3_copyFrom_8 s_X3_40 (c_X7_copyRow16 l G hG M g (B2 + 1) (B + 1) hB2.2.1 hB.2.1) (by decide) rfl rfl (Nat.le_of_ble_eq_true rfl) (Nat.le_of_ble_eq_true rfl) (Nat.le_of_ble_eq_true rfl) (fun M8 g8 hp8 => ?_)
  obtain ⟨⟨f1, rfl, h1⟩, eg8⟩ := hp8
  rw [eg8]
  have k1 : ∀ j, j < 16 → f1 j = M (B2 + 1) j := fun j hj => by rw [h1 j hj]
  refine r_aload_n C dX3_copyFrom_11 1 rfl ?_
  refine r_getr (q2 := (B2 + 2)) C dX3_copyFrom_12 1 f_X3_15 (hB2.1) rfl ?_
  refine r_aload_n C dX3_copyFrom_15 0 rfl ?_
  refine r_getr (q2 := (B + 2)) C dX3_copyFrom_16 1 f_X3_15 (hB.1) rfl ?_
  refine r_callNV (As := [.ref (mA G (B2 + 2)), .ref (mA G (B + 2))]) (rest := []) C dX3_copyFrom_19 s_X3_40 (c_X7_copyRow16 l G hG (mrow (M) (B + 1) f1) g (B2 + 2) (B + 2) hB2.2.2.1 hB.2.2.1) (by decide) rfl rfl (Nat.le_of_ble_eq_true rfl) (Nat.le_of_ble_eq_true rfl) (Nat.le_of_ble_eq_true rfl) (fun M19 g19 hp19 => ?_)
  obtain ⟨⟨f2, rfl, h2⟩, eg19⟩ := hp19
  rw [eg19]
  have k2 : ∀ j, j < 16 → f2 j = M (B2 + 2) j := fun j hj => by rw [h2 j hj, mrow_ne (by omega)]
  refine r_aload_n C dX3_copyFrom_22 1 rfl ?_
  refine r_getr (q2 := (B2 + 3)) C dX3_copyFrom_23 2 f_X3_18 (hB2.1) rfl ?_
  refine r_aload_n C dX3_copyFrom_26 0 rfl ?_
  refine r_getr (q2 := (B + 3)) C dX3_copyFrom_27 2 f_X3_18 (hB.1) rfl ?_
  refine r_callNV (As := [.ref (mA G (B2 + 3)), .ref (mA G (B + 3))]) (rest := []) C dX3_copyFrom_30 s_X3_40 (c_X7_copyRow16 l G hG (mrow (mrow (M) (B + 1) f1) (B + 2) f2) g (B2 + 3) (B + 3) hB2.2.2.2.1 hB.2.2.2.1) (by decide) rfl rfl (Nat.le_of_ble_eq_true rfl) (Nat.le_of_ble_eq_true rfl) (Nat.le_of_ble_eq_true rfl) (fun M30 g30 hp30 => ?_)
  obtain ⟨⟨f3, rfl, h3⟩, eg30⟩ := hp30
  rw [eg30]
  have k3 : ∀ j, j < 16 → f3 j = M (B2 + 3) j := fun j hj => by rw [h3 j hj, mrow_ne (by omega), mrow_ne (by omega)]
  refine r_aload_n C dX3_copyFrom_33 1 rfl ?_
  refine r_getr (q2 := (B2 + 4)) C dX3_copyFrom_34 3 f_X3_21 (hB2.1) rfl ?_
  refine r_aload_n C dX3_copyFrom_37 0 rfl ?_
  refine r_getr (q2 := (B + 4)) C dX3_copyFrom_38 3 f_X3_21 (hB.1) rfl ?_
  refine r_callNV (As := [.ref (mA G (B2 + 4)), .ref (mA G (B + 4))]) (rest := []) C dX3_copyFrom_41 s_X3_40 (c_X7_copyRow16 l G hG (mrow (mrow (mrow (M) (B + 1) f1) (B + 2) f2) (B + 3) f3) g (B2 + 4) (B + 4) hB2.2.2.2.2.1 hB.2.2.2.2.1) (by decide) rfl rfl (Nat.le_of_ble_eq_true rfl) (Nat.le_of_ble_eq_true rfl) (Nat.le_of_ble_eq_true rfl) (fun M41 g41 hp41 => ?_)
  obtain ⟨⟨f4, rfl, h4⟩, eg41⟩ := hp41
  rw [eg41]
  have k4 : ∀ j, j < 16 → f4 j = M (B2 + 4) j := fun j hj => by rw [h4 j hj, mrow_ne (by omega), mrow_ne (by omega), mrow_ne (by omega)]
  refine r_aload_n C dX3_copyFrom_44 1 rfl ?_
  refine r_getr (q2 := (B2 + 5)) C dX3_copyFrom_45 4 f_X3_24 (hB2.1) rfl ?_
  refine r_aload_n C dX3_copyFrom_48 0 rfl ?_
  refine r_getr (q2 := (B + 5)) C dX3_copyFrom_49 4 f_X3_24 (hB.1) rfl ?_
  refine r_callNV (As := [.ref (mA G (B2 + 5)), .ref (mA G (B + 5))]) (rest := []) C dX3_copyFrom_52 s_X3_40 (c_X7_copyRow16 l G hG (mrow (mrow (mrow (mrow (M) (B + 1) f1) (B + 2) f2) (B + 3) f3) (B + 4) f4) g (B2 + 5) (B + 5) hB2.2.2.2.2.2.1 hB.2.2.2.2.2.1) (by decide) rfl rfl (Nat.le_of_ble_eq_true rfl) (Nat.le_of_ble_eq_true rfl) (Nat.le_of_ble_eq_true rfl) (fun M52 g52 hp52 => ?_)
  obtain ⟨⟨f5, rfl, h5⟩, eg52⟩ := hp52
  rw [eg52]
  have k5 : ∀ j, j < 16 → f5 j = M (B2 + 5) j := fun j hj => by rw [h5 j hj, mrow_ne (by omega), mrow_ne (by omega), mrow_ne (by omega), mrow_ne (by omega)]
  refine r_aload_n C dX3_copyFrom_55 1 rfl ?_
  refine r_getr (q2 := (B2 + 6)) C dX3_copyFrom_56 5 f_X3_27 (hB2.1) rfl ?_
  refine r_aload_n C dX3_copyFrom_59 0 rfl ?_
  refine r_getr (q2 := (B + 6)) C dX3_copyFrom_60 5 f_X3_27 (hB.1) rfl ?_
  refine r_callNV (As := [.ref (mA G (B2 + 6)), .ref (mA G (B + 6))]) (rest := []) C dX3_copyFrom_63 s_X3_40 (c_X7_copyRow16 l G hG (mrow (mrow (mrow (mrow (mrow (M) (B + 1) f1) (B + 2) f2) (B + 3) f3) (B + 4) f4) (B + 5) f5) g (B2 + 6) (B + 6) hB2.2.2.2.2.2.2.1 hB.2.2.2.2.2.2.1) (by decide) rfl rfl (Nat.le_of_ble_eq_true rfl) (Nat.le_of_ble_eq_true rfl) (Nat.le_of_ble_eq_true rfl) (fun M63 g63 hp63 => ?_)
  obtain ⟨⟨f6, rfl, h6⟩, eg63⟩ := hp63
  rw [eg63]
  have k6 : ∀ j, j < 16 → f6 j = M (B2 + 6) j := fun j hj => by rw [h6 j hj, mrow_ne (by omega), mrow_ne (by omega), mrow_ne (by omega), mrow_ne (by omega), mrow_ne (by omega)]
  refine r_aload_n C dX3_copyFrom_66 1 rfl ?_
  refine r_getr (q2 := (B2 + 7)) C dX3_copyFrom_67 6 f_X3_30 (hB2.1) rfl ?_
  refine r_aload_n C dX3_copyFrom_70 0 rfl ?_
  refine r_getr (q2 := (B + 7)) C dX3_copyFrom_71 6 f_X3_30 (hB.1) rfl ?_
  refine r_callNV (As := [.ref (mA G (B2 + 7)), .ref (mA G (B + 7))]) (rest := []) C dX3_copyFrom_74 s_X3_40 (c_X7_copyRow16 l G hG (mrow (mrow (mrow (mrow (mrow (mrow (M) (B + 1) f1) (B + 2) f2) (B + 3) f3) (B + 4) f4) (B + 5) f5) (B + 6) f6) g (B2 + 7) (B + 7) hB2.2.2.2.2.2.2.2.1 hB.2.2.2.2.2.2.2.1) (by decide) rfl rfl (Nat.le_of_ble_eq_true rfl) (Nat.le_of_ble_eq_true rfl) (Nat.le_of_ble_eq_true rfl) (fun M74 g74 hp74 => ?_)
  obtain ⟨⟨f7, rfl, h7⟩, eg74⟩ := hp74
  rw [eg74]
  have k7 : ∀ j, j < 16 → f7 j = M (B2 + 7) j := fun j hj => by rw [h7 j hj, mrow_ne (by omega), mrow_ne (by omega), mrow_ne (by omega), mrow_ne (by omega), mrow_ne (by omega), mrow_ne (by omega)]
  refine r_aload_n C dX3_copyFrom_77 1 rfl ?_
  refine r_getr (q2 := (B2 + 8)) C dX3_copyFrom_78 7 f_X3_33 (hB2.1) rfl ?_
  refine r_aload_n C dX3_copyFrom_81 0 rfl ?_
  refine r_getr (q2 := (B + 8)) C dX3_copyFrom_82 7 f_X3_33 (hB.1) rfl ?_
  refine r_callNV (As := [.ref (mA G (B2 + 8)), .ref (mA G (B + 8))]) (rest := []) C dX3_copyFrom_85 s_X3_40 (c_X7_copyRow16 l G hG (mrow (mrow (mrow (mrow (mrow (mrow (mrow (M) (B + 1) f1) (B + 2) f2) (B + 3) f3) (B + 4) f4) (B + 5) f5) (B + 6) f6) (B + 7) f7) g (B2 + 8) (B + 8) hB2.2.2.2.2.2.2.2.2 hB.2.2.2.2.2.2.2.2) (by decide) rfl rfl (Nat.le_of_ble_eq_true rfl) (Nat.le_of_ble_eq_true rfl) (Nat.le_of_ble_eq_true rfl) (fun M85 g85 hp85 => ?_)
  obtain ⟨⟨f8, rfl, h8⟩, eg85⟩ := hp85
  rw [eg85]
  have k8 : ∀ j, j < 16 → f8 j = M (B2 + 8) j := fun j hj => by rw [h8 j hj, mrow_ne (by omega), mrow_ne (by omega), mrow_ne (by omega), mrow_ne (by omega), mrow_ne (by omega), mrow_ne (by omega), mrow_ne (by omega)]
  refine r_aload_n C dX3_copyFrom_88 0 rfl ?_
  refine r_aload_n C dX3_copyFrom_89 1 rfl ?_
  refine r_geti C dX3_copyFrom_90 8 f_X3_36 (hB2.1) rfl ?_
  refine r_puti C dX3_copyFrom_93 8 fi_X3_36 (hB.1) rfl ?_
  exact hend _ _ _ _ dX3_copyFrom_96 (⟨fin_X3_copyFrom hV hn hd k1 k2 k3 k4 k5 k6 k7 k8, rfl⟩)

theorem fin_X0_copyFrom {M : Mem} {B B2 : Nat} {V : View} {f1 f2 f3 : Nat → Int32} (hV : cBoi M B2 V) (hn : vB V ≤ 4) (hd : B + 3 < B2 ∨ B2 + 3 < B) (k1 : ∀ j, j < 4 → f1 j = M (B2 + 1) j) (k2 : ∀ j, j < 4 → f2 j = M (B2 + 2) j) (k3 : ∀ j, j < 4 → f3 j = M (B2 + 3) j) :
    cBoi (mset (mrow (mrow (mrow (M) (B + 1) f1) (B + 2) f2) (B + 3) f3) B 3 ((mrow (mrow (mrow (M) (B + 1) f1) (B + 2) f2) (B + 3) f3) B2 3)) B V ∧ offR M (mset (mrow (mrow (mrow (M) (B + 1) f1) (B + 2) f2) (B + 3) f3) B 3 ((mrow (mrow (mrow (M) (B + 1) f1) (B + 2) f2) (B + 3) f3) B2 3)) B (B + 3) := by
  refine ⟨⟨?_, fun w hw j hj => ?_⟩, fun q hq => ?_⟩
  · rw [mset_at, upd_at, mrow_ne (by omega), mrow_ne (by omega), mrow_ne (by omega)]; exact hV.1
  · rw [← hV.2 w hw j hj, mset_ne (by omega)]
    have hc : w = 0 ∨ w = 1 ∨ w = 2 := by omega
    rcases hc with rfl | rfl | rfl
    · rw [mrow_ne (by omega), mrow_ne (by omega), mrow_at, k1 j (by omega)]
    · rw [mrow_ne (by omega), mrow_at, k2 j (by omega)]
    · rw [mrow_at, k3 j (by omega)]
  · rw [mset_ne (by omega), mrow_ne (by omega), mrow_ne (by omega), mrow_ne (by omega)]

set_option maxRecDepth 20000 in
set_option maxHeartbeats 1000000 in
theorem c_X0_copyFrom (l : Launch) (G : mG) (hG : mInj G) (M : Mem) (g : Glo) (B B2 : Nat) (hB : isBoi B) (hB2 : isBoi B2) (V : View) (hV : cBoi M B2 V) (hn : vB V ≤ 4) (hd : B + 3 < B2 ∨ B2 + 3 < B) : mcV l G yX0_copyFrom cX0_copyFrom 2 2 [.ref (mA G B), .ref (mA G B2)] M g (fun M' g' => (cBoi M' B V ∧ offR M M' B (B + 3)) ∧ g' = g) := by
  refine mcV_of (L0 := [(0, .ref (mA G B)), (1, .ref (mA G B2))]) hG (by decide) (Nat.le_of_ble_eq_true rfl) rfl ?_
  intro p e s m args below meth c Q C hend
  refine r_aload_n C dX0_copyFrom_0 1 rfl ?_
  refine r_getr (q2 := (B2 + 1)) C dX0_copyFrom_1 0 f_X0_9 (hB2.1) rfl ?_
  refine r_aload_n C dX0_copyFrom_4 0 rfl ?_
  refine r_getr (q2 := (B + 1)) C dX0_copyFrom_5 0 f_X0_9 (hB.1) rfl ?_
  refine r_callNV (As := [.ref (mA G (B2 + 1)), .ref (mA G (B + 1))]) (rest := []) C dX0_copyFrom_8 s_X0_25 (c_X7_copyRow4 l G hG M g (B2 + 1) (B + 1) hB2.2.1 hB.2.1) (by decide) rfl rfl (Nat.le_of_ble_eq_true rfl) (Nat.le_of_ble_eq_true rfl) (Nat.le_of_ble_eq_true rfl) (fun M8 g8 hp8 => ?_)
  obtain ⟨⟨f1, rfl, h1⟩, eg8⟩ := hp8
  rw [eg8]
  have k1 : ∀ j, j < 4 → f1 j = M (B2 + 1) j := fun j hj => by rw [h1 j hj]
  refine r_aload_n C dX0_copyFrom_11 1 rfl ?_
  refine r_getr (q2 := (B2 + 2)) C dX0_copyFrom_12 1 f_X0_15 (hB2.1) rfl ?_
  refine r_aload_n C dX0_copyFrom_15 0 rfl ?_
  refine r_getr (q2 := (B + 2)) C dX0_copyFrom_16 1 f_X0_15 (hB.1) rfl ?_
  refine r_callNV (As := [.ref (mA G (B2 + 2)), .ref (mA G (B + 2))]) (rest := []) C dX0_copyFrom_19 s_X0_25 (c_X7_copyRow4 l G hG (mrow (M) (B + 1) f1) g (B2 + 2) (B + 2) hB2.2.2.1 hB.2.2.1) (by decide) rfl rfl (Nat.le_of_ble_eq_true rfl) (Nat.le_of_ble_eq_true rfl) (Nat.le_of_ble_eq_true rfl) (fun M19 g19 hp19 => ?_)
  obtain ⟨⟨f2, rfl, h2⟩, eg19⟩ := hp19
  rw [eg19]
  have k2 : ∀ j, j < 4 → f2 j = M (B2 + 2) j := fun j hj => by rw [h2 j hj, mrow_ne (by omega)]
  refine r_aload_n C dX0_copyFrom_22 1 rfl ?_
  refine r_getr (q2 := (B2 + 3)) C dX0_copyFrom_23 2 f_X0_18 (hB2.1) rfl ?_
  refine r_aload_n C dX0_copyFrom_26 0 rfl ?_
  refine r_getr (q2 := (B + 3)) C dX0_copyFrom_27 2 f_X0_18 (hB.1) rfl ?_
  refine r_callNV (As := [.ref (mA G (B2 + 3)), .ref (mA G (B + 3))]) (rest := []) C dX0_copyFrom_30 s_X0_25 (c_X7_copyRow4 l G hG (mrow (mrow (M) (B + 1) f1) (B + 2) f2) g (B2 + 3) (B + 3) hB2.2.2.2 hB.2.2.2) (by decide) rfl rfl (Nat.le_of_ble_eq_true rfl) (Nat.le_of_ble_eq_true rfl) (Nat.le_of_ble_eq_true rfl) (fun M30 g30 hp30 => ?_)
  obtain ⟨⟨f3, rfl, h3⟩, eg30⟩ := hp30
  rw [eg30]
  have k3 : ∀ j, j < 4 → f3 j = M (B2 + 3) j := fun j hj => by rw [h3 j hj, mrow_ne (by omega), mrow_ne (by omega)]
  refine r_aload_n C dX0_copyFrom_33 0 rfl ?_
  refine r_aload_n C dX0_copyFrom_34 1 rfl ?_
  refine r_geti C dX0_copyFrom_35 3 f_X0_21 (hB2.1) rfl ?_
  refine r_puti C dX0_copyFrom_38 3 fi_X0_21 (hB.1) rfl ?_
  exact hend _ _ _ _ dX0_copyFrom_41 (⟨fin_X0_copyFrom hV hn hd k1 k2 k3, rfl⟩)

set_option maxRecDepth 20000 in
set_option maxHeartbeats 1000000 in
theorem c_X6_copyFrom (l : Launch) (G : mG) (hG : mInj G) (M : Mem) (g : Glo) (S S2 : Nat) (hS : isSta S) (hS2 : isSta S2) (V : View) (hV : cSt M S2 V) (hn : vN V ≤ 16) (hb : vB V ≤ 4) (hd : S + 13 < S2 ∨ S2 + 13 < S) : mcV l G yX6_copyFrom cX6_copyFrom 2 3 [.ref (mA G S), .ref (mA G S2)] M g (fun M' g' => (cSt M' S V ∧ offR M M' S (S + 13)) ∧ g' = g) := by
  refine mcV_of (L0 := [(0, .ref (mA G S)), (1, .ref (mA G S2))]) hG (by decide) (Nat.le_of_ble_eq_true rfl) rfl ?_
  intro p e s m args below meth c Q C hend
  obtain ⟨hvn, hvb, hsc2, hsc3, hsc4, hsc5, hsc6, hsc7, hsc8⟩ := hV
  refine r_aload_n C dX6_copyFrom_0 0 rfl ?_
  refine r_getr (q2 := (S + 1)) C dX6_copyFrom_1 0 f_X6_10 (hS.1) rfl ?_
  refine r_aload_n C dX6_copyFrom_4 1 rfl ?_
  refine r_getr (q2 := (S2 + 1)) C dX6_copyFrom_5 0 f_X6_10 (hS2.1) rfl ?_
  refine r_callVV (As := [.ref (mA G (S2 + 1))]) (rest := []) C dX6_copyFrom_8 s_X6_45 (c_X3_copyFrom l G hG M g (S + 1) (S2 + 1) hS.2.1 hS2.2.1 V hvn hn (by omega)) (by decide) ((hS).2.1.1) rfl rfl rfl (Nat.le_of_ble_eq_true rfl) (Nat.le_of_ble_eq_true rfl) (Nat.le_of_ble_eq_true rfl) (fun M1 g1 hp8 => ?_)
  obtain ⟨⟨n1, o1⟩, eg8⟩ := hp8
  rw [eg8]
  refine r_aload_n C dX6_copyFrom_11 0 rfl ?_
  refine r_getr (q2 := (S + 10)) C dX6_copyFrom_12 1 f_X6_19 (hS.1) rfl ?_
  refine r_aload_n C dX6_copyFrom_15 1 rfl ?_
  refine r_getr (q2 := (S2 + 10)) C dX6_copyFrom_16 1 f_X6_19 (hS2.1) rfl ?_
  refine r_callVV (As := [.ref (mA G (S2 + 10))]) (rest := []) C dX6_copyFrom_19 s_X6_49 (c_X0_copyFrom l G hG M1 g (S + 10) (S2 + 10) hS.2.2 hS2.2.2 V (hvb.off o1 (by omega)) hb (by omega)) (by decide) ((hS).2.2.1) rfl rfl rfl (Nat.le_of_ble_eq_true rfl) (Nat.le_of_ble_eq_true rfl) (Nat.le_of_ble_eq_true rfl) (fun M2 g2 hp19 => ?_)
  obtain ⟨⟨n2, o2⟩, eg19⟩ := hp19
  rw [eg19]
  have o2 : offR M M2 S (S + 13) := o1.tr o2 (by omega) (by omega) (by omega) (by omega)
  have n3 : cNet M2 (S + 1) V := n1.off ‹offR M1 M2 (S + 10) (S + 10 + 3)› (by omega)
  refine r_aload_n C dX6_copyFrom_22 0 rfl ?_
  refine r_aload_n C dX6_copyFrom_23 1 rfl ?_
  refine r_geti C dX6_copyFrom_24 2 f_X6_23 (hS2.1) rfl ?_
  refine r_valI (y := vS V 0) (by rw [o2 S2 (by omega)]; exact hsc2) ?_
  refine r_puti C dX6_copyFrom_27 2 fi_X6_23 (hS.1) rfl ?_
  refine r_aload_n C dX6_copyFrom_30 0 rfl ?_
  refine r_aload_n C dX6_copyFrom_31 1 rfl ?_
  refine r_geti C dX6_copyFrom_32 3 f_X6_27 (hS2.1) rfl ?_
  refine r_valI (y := vS V 1) (by rw [mset_ne (by omega), o2 S2 (by omega)]; exact hsc3) ?_
  refine r_puti C dX6_copyFrom_35 3 fi_X6_27 (hS.1) rfl ?_
  refine r_aload_n C dX6_copyFrom_38 0 rfl ?_
  refine r_aload_n C dX6_copyFrom_39 1 rfl ?_
  refine r_geti C dX6_copyFrom_40 4 f_X6_30 (hS2.1) rfl ?_
  refine r_valI (y := vS V 2) (by rw [mset_ne (by omega), mset_ne (by omega), o2 S2 (by omega)]; exact hsc4) ?_
  refine r_puti C dX6_copyFrom_43 4 fi_X6_30 (hS.1) rfl ?_
  refine r_aload_n C dX6_copyFrom_46 0 rfl ?_
  refine r_aload_n C dX6_copyFrom_47 1 rfl ?_
  refine r_geti C dX6_copyFrom_48 5 f_X6_33 (hS2.1) rfl ?_
  refine r_valI (y := vS V 3) (by rw [mset_ne (by omega), mset_ne (by omega), mset_ne (by omega), o2 S2 (by omega)]; exact hsc5) ?_
  refine r_puti C dX6_copyFrom_51 5 fi_X6_33 (hS.1) rfl ?_
  refine r_aload_n C dX6_copyFrom_54 0 rfl ?_
  refine r_aload_n C dX6_copyFrom_55 1 rfl ?_
  refine r_geti C dX6_copyFrom_56 6 f_X6_36 (hS2.1) rfl ?_
  refine r_valI (y := vS V 4) (by rw [mset_ne (by omega), mset_ne (by omega), mset_ne (by omega), mset_ne (by omega), o2 S2 (by omega)]; exact hsc6) ?_
  refine r_puti C dX6_copyFrom_59 6 fi_X6_36 (hS.1) rfl ?_
  refine r_aload_n C dX6_copyFrom_62 0 rfl ?_
  refine r_aload_n C dX6_copyFrom_63 1 rfl ?_
  refine r_geti C dX6_copyFrom_64 7 f_X6_39 (hS2.1) rfl ?_
  refine r_valI (y := vS V 8) (by rw [mset_ne (by omega), mset_ne (by omega), mset_ne (by omega), mset_ne (by omega), mset_ne (by omega), o2 S2 (by omega)]; exact hsc7) ?_
  refine r_puti C dX6_copyFrom_67 7 fi_X6_39 (hS.1) rfl ?_
  refine r_aload_n C dX6_copyFrom_70 0 rfl ?_
  refine r_aload_n C dX6_copyFrom_71 1 rfl ?_
  refine r_geti C dX6_copyFrom_72 8 f_X6_42 (hS2.1) rfl ?_
  refine r_valI (y := vS V 7) (by rw [mset_ne (by omega), mset_ne (by omega), mset_ne (by omega), mset_ne (by omega), mset_ne (by omega), mset_ne (by omega), o2 S2 (by omega)]; exact hsc8) ?_
  refine r_puti C dX6_copyFrom_75 8 fi_X6_42 (hS.1) rfl ?_
  exact hend _ _ _ _ dX6_copyFrom_78 (⟨⟨⟨n3.off (a := S) (b := S) (fun q hq => by rw [mset_ne (by omega), mset_ne (by omega), mset_ne (by omega), mset_ne (by omega), mset_ne (by omega), mset_ne (by omega), mset_ne (by omega)]) (by omega), n2.off (a := S) (b := S) (fun q hq => by rw [mset_ne (by omega), mset_ne (by omega), mset_ne (by omega), mset_ne (by omega), mset_ne (by omega), mset_ne (by omega), mset_ne (by omega)]) (by omega), by simp [mset, upd], by simp [mset, upd], by simp [mset, upd], by simp [mset, upd], by simp [mset, upd], by simp [mset, upd], by simp [mset, upd]⟩, fun q hq => by rw [mset_ne (by omega), mset_ne (by omega), mset_ne (by omega), mset_ne (by omega), mset_ne (by omega), mset_ne (by omega), mset_ne (by omega)]; exact o2 q hq⟩, rfl⟩)
