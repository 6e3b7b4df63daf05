theorem hist_ps {r : Nat} (h : r < 4) : [17, 31, 45, 59][(nI r).toNatClampNeg]? = some (17 + 14 * r) := by
  rw [nI_clamp (by omega)]
  have : r = 0 ∨ r = 1 ∨ r = 2 ∨ r = 3 := by omega
  rcases this with rfl | rfl | rfl | rfl <;> rfl
theorem nI_mod4 {a b : Nat} (h : a + b < 2 ^ 31) : (nI a + nI b) - (nI a + nI b) / 4 * 4 = nI ((a + b) % 4) := by
  rw [nI_add]
  exact pk_rem h (by decide) (by decide)
/-- the saved states, the oldest first -/
def hiOK (M : Mem) (Hs : List View) : Prop := ∃ o, o < 4 ∧ Hs.length ≤ 4 ∧ M 15 1 = nI o ∧ M 15 2 = nI Hs.length ∧ ∀ (i : Nat) (V : View), Hs[i]? = some V → cSt M (17 + 14 * ((o + i) % 4)) V
theorem hiOK.off {M M' : Mem} {Hs : List View} {a b : Nat} (h : hiOK M Hs) (ho : offR M M' a b) (hB : 72 < a ∨ b < 15) : hiOK M' Hs := by
  obtain ⟨o, h1, h2, h3, h4, h5⟩ := h
  have e := ho 15 (by omega)
  exact ⟨o, h1, h2, by rw [e]; exact h3, by rw [e]; exact h4, fun i V hi => (h5 i V hi).off ho (by omega)⟩
/-- what is saved behind a new one -/
def hPush (Hs : List View) (V : View) : List View := if Hs.length < 4 then Hs ++ [V] else Hs.tail ++ [V]
theorem hPush_len (Hs : List View) (V : View) (h : Hs.length ≤ 4) : (hPush Hs V).length ≤ 4 := by
  unfold hPush
  split
  · simp; omega
  · simp; omega
theorem hi_push1 {M M1 : Mem} {Hs : List View} {V : View} {o : Nat} (ho : o < 4) (hl : Hs.length < 4) (h1 : M 15 1 = nI o) (h5 : ∀ (i : Nat) (V : View), Hs[i]? = some V → cSt M (17 + 14 * ((o + i) % 4)) V) (hV : cSt M1 (17 + 14 * ((o + Hs.length) % 4)) V) (hoff : offR M M1 (17 + 14 * ((o + Hs.length) % 4)) (17 + 14 * ((o + Hs.length) % 4) + 13)) :
    hiOK (mset M1 15 2 (nI (Hs.length + 1))) (hPush Hs V) := by
  have ho2 : offR M1 (mset M1 15 2 (nI (Hs.length + 1))) 15 15 := fun q hq => mset_ne (by omega)
  refine ⟨o, ho, hPush_len Hs V (by omega), ?_, ?_, fun i W hi => ?_⟩
  · rw [mset_at, upd_ne (by decide), hoff 15 (by omega)]; exact h1
  · rw [mset_at, upd_at]; simp [hPush, hl]
  · rw [hPush, if_pos hl] at hi
    by_cases e : i < Hs.length
    · rw [List.getElem?_append_left e] at hi
      exact ((h5 i W hi).off hoff (by omega)).off ho2 (by omega)
    · have e2 : i = Hs.length := by
        have := (List.getElem?_eq_some_iff.mp hi).1
        simp at this; omega
      subst e2
      rw [List.getElem?_append_right (Nat.le_refl _), Nat.sub_self] at hi
      cases hi
      exact hV.off ho2 (by omega)
theorem hi_push2 {M M1 : Mem} {Hs : List View} {V : View} {o : Nat} (ho : o < 4) (hl : Hs.length = 4) (h2 : M 15 2 = nI Hs.length) (h5 : ∀ (i : Nat) (V : View), Hs[i]? = some V → cSt M (17 + 14 * ((o + i) % 4)) V) (hV : cSt M1 (17 + 14 * ((o + Hs.length) % 4)) V) (hoff : offR M M1 (17 + 14 * ((o + Hs.length) % 4)) (17 + 14 * ((o + Hs.length) % 4) + 13)) :
    hiOK (mset M1 15 1 (nI ((o + 1) % 4))) (hPush Hs V) := by
  have ho2 : offR M1 (mset M1 15 1 (nI ((o + 1) % 4))) 15 15 := fun q hq => mset_ne (by omega)
  refine ⟨(o + 1) % 4, by omega, hPush_len Hs V (by omega), ?_, ?_, fun i W hi => ?_⟩
  · rw [mset_at, upd_at]
  · rw [mset_at, upd_ne (by decide), hoff 15 (by omega), h2]; simp [hPush, hl]
  · rw [hPush, if_neg (by omega)] at hi
    have hlt : Hs.tail.length = 3 := by simp [hl]
    by_cases e : i < Hs.tail.length
    · rw [List.getElem?_append_left e, List.getElem?_tail] at hi
      have := ((h5 (i + 1) W hi).off hoff (by omega)).off ho2 (by omega)
      have e3 : ((o + 1) % 4 + i) % 4 = (o + (i + 1)) % 4 := by omega
      rw [e3]; exact this
    · have e2 : i = 3 := by
        have := (List.getElem?_eq_some_iff.mp hi).1
        simp at this; omega
      subst e2
      rw [List.getElem?_append_right (by omega), hlt] at hi
      cases hi
      have e3 : ((o + 1) % 4 + 3) % 4 = (o + Hs.length) % 4 := by omega
      rw [e3]; exact hV.off ho2 (by omega)
theorem hi_pop {M M1 : Mem} {Hs : List View} {V : View} {o : Nat} (ho : o < 4) (hl : Hs.length < 4) (h1 : M 15 1 = nI o) (h5 : ∀ (i : Nat) (W : View), (Hs ++ [V])[i]? = some W → cSt M (17 + 14 * ((o + i) % 4)) W) (hoff : offR M M1 1 14) : hiOK (mset M1 15 2 (nI Hs.length)) Hs := by
  have ho2 : offR M1 (mset M1 15 2 (nI Hs.length)) 15 15 := fun q hq => mset_ne (by omega)
  refine ⟨o, ho, by omega, ?_, ?_, fun i W hi => ?_⟩
  · rw [mset_at, upd_ne (by decide), hoff 15 (by omega)]; exact h1
  · rw [mset_at, upd_at]
  · have e := (List.getElem?_eq_some_iff.mp hi).1
    exact ((h5 i W (by rw [List.getElem?_append_left e]; exact hi)).off hoff (by omega)).off ho2 (by omega)

set_option maxRecDepth 20000 in
set_option maxHeartbeats 1000000 in
theorem c_X1_slot (l : Launch) (G : mG) (hG : mInj G) (M : Mem) (g : Glo) (o a : Nat) (ho : o < 4) (ha : a ≤ 4) (h1 : M 15 1 = nI o) : mcR l G yX1_slot cX1_slot 3 (.object "HeatBranches$State") 1 [.ref (mA G 15), .int (nI a)] M g (17 + 14 * ((o + a) % 4)) := by
  refine mcR_of (L0 := [(0, .ref (mA G 15)), (1, .int (nI a))]) hG (by decide) (Nat.le_of_ble_eq_true rfl) rfl ?_
  intro p e s m args below meth c Q C hend
  refine r_aload_n C dX1_slot_0 0 rfl ?_
  refine r_geti C dX1_slot_1 1 f_X1_17 rfl rfl ?_
  refine r_valI (y := nI o) (h1) ?_
  refine r_iload_n C dX1_slot_4 1 rfl ?_
  refine r_iadd C dX1_slot_5 ?_
  refine r_iconst (v := 4) C dX1_slot_6 rfl ?_
  refine r_irem C dX1_slot_7 (by decide) ?_
  refine r_valI (y := nI ((o + a) % 4)) (nI_mod4 (by omega)) ?_
  refine r_istore_n (L' := [(2, .int (nI ((o + a) % 4))), (0, .ref (mA G 15)), (1, .int (nI a))]) C dX1_slot_8 (by decide) rfl ?_
  refine r_iload_n C dX1_slot_9 0 rfl ?_
  refine r_if_lt (tgt := 22) C dX1_slot_10 (by decide) (fun h => absurd h (nI_pos (by omega))) (fun _ => ?_)
  refine r_aload_n C dX1_slot_13 1 rfl ?_
  refine r_getr (q2 := 16) C dX1_slot_14 0 f_X1_11 rfl rfl ?_
  refine r_iload_n C dX1_slot_17 0 rfl ?_
  refine r_aald (q2 := 17 + 14 * ((o + a) % 4)) C dX1_slot_18 rfl (vp_in_nI (by show _ < 4; omega) (by decide)) (hist_ps (by omega)) ?_
  refine r_goto (tgt := 23) C dX1_slot_19 (by decide) ?_
  exact hend _ _ dX1_slot_23

set_option maxRecDepth 20000 in
set_option maxHeartbeats 1000000 in
theorem c_X1_keep (l : Launch) (G : mG) (hG : mInj G) (M : Mem) (g : Glo) (Hs : List View) (hH : hiOK M Hs) (V : View) (hV : cSt M 1 V) (hn : vN V ≤ 16) (hb : vB V ≤ 4) : mcV l G yX1_keep cX1_keep 3 4 [.ref (mA G 15), .ref (mA G 1)] M g (fun M' g' => (hiOK M' (hPush Hs V) ∧ offR M M' 15 72) ∧ g' = g) := by
  refine mcV_of (L0 := [(0, .ref (mA G 15)), (1, .ref (mA G 1))]) hG (by decide) (Nat.le_of_ble_eq_true rfl) rfl ?_
  intro p e s m args below meth c Q C hend
  obtain ⟨o, ho, hlen, h1, h2, h5⟩ := hH
  refine r_aload_n C dX1_keep_0 0 rfl ?_
  refine r_aload_n C dX1_keep_1 0 rfl ?_
  refine r_geti C dX1_keep_2 2 f_X1_21 rfl rfl ?_
  refine r_valI (y := nI Hs.length) (h2) ?_
  refine r_callVR (As := [.int (nI Hs.length)]) (rest := []) C dX1_keep_5 s_X1_25 (c_X1_slot l G hG M g o Hs.length ho hlen h1) (by decide) rfl rfl rfl rfl (Nat.le_of_ble_eq_true rfl) (Nat.le_of_ble_eq_true rfl) (Nat.le_of_ble_eq_true rfl) ?_
  refine r_astore_n (L' := [(2, .ref (mA G (17 + 14 * ((o + Hs.length) % 4)))), (0, .ref (mA G 15)), (1, .ref (mA G 1))]) C dX1_keep_8 (by decide) rfl ?_
  refine r_aload_n C dX1_keep_9 0 rfl ?_
  refine r_ifnonnull (tgt := 14) C dX1_keep_10 (by decide) ?_
  refine r_aload_n C dX1_keep_14 0 rfl ?_
  refine r_aload_n C dX1_keep_15 2 rfl ?_
  refine r_callVV (As := [.ref (mA G 1)]) (rest := []) C dX1_keep_16 s_X1_29 (c_X6_copyFrom l G hG M g (17 + 14 * ((o + Hs.length) % 4)) 1 (isSta_of (by omega)) isSta_1 V hV hn hb (by omega)) (by decide) ((isSta_of (i := (o + Hs.length) % 4) (by omega)).1) rfl rfl rfl (Nat.le_of_ble_eq_true rfl) (Nat.le_of_ble_eq_true rfl) (Nat.le_of_ble_eq_true rfl) (fun M1 g1 hp16 => ?_)
  obtain ⟨⟨hc, off⟩, eg16⟩ := hp16
  rw [eg16]
  refine r_aload_n C dX1_keep_19 1 rfl ?_
  refine r_geti C dX1_keep_20 2 f_X1_21 rfl rfl ?_
  refine r_valI (y := nI Hs.length) (by rw [off 15 (by omega)]; exact h2) ?_
  refine r_iconst (v := 4) C dX1_keep_23 rfl ?_
  refine r_icmp_ge (tgt := 40) C dX1_keep_24 (by decide) (fun c24 => ?_) (fun c24 => ?_)
  ·
    have hl4 : Hs.length = 4 := by have := le_of_le (a := 4) (by omega) (by omega) c24; omega
    refine r_aload_n C dX1_keep_40 1 rfl ?_
    refine r_aload_n C dX1_keep_41 1 rfl ?_
    refine r_geti C dX1_keep_42 1 f_X1_17 rfl rfl ?_
    refine r_valI (y := nI o) (by rw [off 15 (by omega)]; exact h1) ?_
    refine r_iconst (v := 1) C dX1_keep_45 rfl ?_
    refine r_iadd C dX1_keep_46 ?_
    refine r_iconst (v := 4) C dX1_keep_47 rfl ?_
    refine r_irem C dX1_keep_48 (by decide) ?_
    refine r_valI (y := nI ((o + 1) % 4)) (nI_mod4 (a := o) (b := 1) (by omega)) ?_
    refine r_puti C dX1_keep_49 1 fi_X1_17 rfl rfl ?_
    exact hend _ _ _ _ dX1_keep_52 (⟨⟨hi_push2 ho hl4 h2 h5 hc off, fun q hq => by rw [mset_ne (by omega)]; exact off q (by omega)⟩, rfl⟩)
  ·
    have hl4 : Hs.length < 4 := lt_of_nle (by omega) c24
    refine r_aload_n C dX1_keep_27 1 rfl ?_
    refine r_dup C dX1_keep_28 rfl ?_
    refine r_geti C dX1_keep_29 2 f_X1_21 rfl rfl ?_
    refine r_valI (y := nI Hs.length) (by rw [off 15 (by omega)]; exact h2) ?_
    refine r_iconst (v := 1) C dX1_keep_32 rfl ?_
    refine r_iadd C dX1_keep_33 ?_
    refine r_valI (y := nI (Hs.length + 1)) (nI_1 _) ?_
    refine r_puti C dX1_keep_34 2 fi_X1_21 rfl rfl ?_
    refine r_goto (tgt := 52) C dX1_keep_37 (by decide) ?_
    exact hend _ _ _ _ dX1_keep_52 (⟨⟨hi_push1 ho hl4 h1 h5 hc off, fun q hq => by rw [mset_ne (by omega)]; exact off q (by omega)⟩, rfl⟩)


def vAdd (V : View) (a l s d t : Int32) : View := ((vN V + 1, vB V), (fun j => if j = vN V then a.toNatClampNeg else vP V j), vS V, (fun w j => if j = vN V then (if w = 0 then a else if w = 1 then l else if w = 2 then s else if w = 3 then d else if w = 4 then t else 0) else vD V w j), vO V)
def vBoi (V : View) (a l s : Int32) : View := ((vN V, vB V + 1), vP V, vS V, vD V, (fun w j => if j = vB V then (if w = 0 then a else if w = 1 then l else s) else vO V w j))
theorem att_fin {M : Mem} {B : Nat} {V : View} {a l s d t : Int32} (hV : cNet M B V) : cNet (mset (mset (mset (mset (mset (mset (mset (mset (mset M (B + 1) (vN V) a) (B + 2) (vN V) l) (B + 3) (vN V) s) (B + 4) (vN V) d) (B + 5) (vN V) t) (B + 6) (vN V) 0) (B + 7) (vN V) 0) (B + 8) (vN V) 0) B 8 (nI (vN V + 1))) B (vAdd V a l s d t) := by
  refine ⟨by rw [mset_at, upd_at]; rfl, fun w hw j hj => ?_⟩
  have hj2 : j < vN V + 1 := hj
  rw [mset_ne (by omega)]
  have key : ∀ (x y : Int32), (j = vN V → x = vD (vAdd V a l s d t) w j) → M (B + 1 + w) j = y → (j ≠ vN V → y = vD V w j) → upd (M (B + 1 + w)) (vN V) x j = vD (vAdd V a l s d t) w j := by
    intro x y h1 h2 h3
    by_cases e : j = vN V
    · subst e; rw [upd_at]; exact h1 rfl
    · rw [upd_ne e, h2, h3 e]
      show vD V w j = if j = vN V then _ else _
      rw [if_neg e]
  have hc : w = 0 ∨ w = 1 ∨ w = 2 ∨ w = 3 ∨ w = 4 ∨ w = 5 ∨ w = 6 ∨ w = 7 := by omega
  have hd : ∀ w', w' = w → j ≠ vN V → M (B + 1 + w) j = vD V w j := fun _ _ h => hV.2 w hw j (by omega)
  rcases hc with rfl | rfl | rfl | rfl | rfl | rfl | rfl | rfl
  · rw [mset_ne (by omega), mset_ne (by omega), mset_ne (by omega), mset_ne (by omega), mset_ne (by omega), mset_ne (by omega), mset_ne (by omega), mset_at]
    exact key _ _ (fun e => by simp [vAdd, vD, e]) rfl (hd 0 rfl)
  · rw [mset_ne (by omega), mset_ne (by omega), mset_ne (by omega), mset_ne (by omega), mset_ne (by omega), mset_ne (by omega), mset_at, mset_ne (by omega)]
    exact key _ _ (fun e => by simp [vAdd, vD, e]) rfl (hd 1 rfl)
  · rw [mset_ne (by omega), mset_ne (by omega), mset_ne (by omega), mset_ne (by omega), mset_ne (by omega), mset_at, mset_ne (by omega), mset_ne (by omega)]
    exact key _ _ (fun e => by simp [vAdd, vD, e]) rfl (hd 2 rfl)
  · rw [mset_ne (by omega), mset_ne (by omega), mset_ne (by omega), mset_ne (by omega), mset_at, mset_ne (by omega), mset_ne (by omega), mset_ne (by omega)]
    exact key _ _ (fun e => by simp [vAdd, vD, e]) rfl (hd 3 rfl)
  · rw [mset_ne (by omega), mset_ne (by omega), mset_ne (by omega), mset_at, mset_ne (by omega), mset_ne (by omega), mset_ne (by omega), mset_ne (by omega)]
    exact key _ _ (fun e => by simp [vAdd, vD, e]) rfl (hd 4 rfl)
  · rw [mset_ne (by omega), mset_ne (by omega), mset_at, mset_ne (by omega), mset_ne (by omega), mset_ne (by omega), mset_ne (by omega), mset_ne (by omega)]
    exact key _ _ (fun e => by simp [vAdd, vD, e]) rfl (hd 5 rfl)
  · rw [mset_ne (by omega), mset_at, mset_ne (by omega), mset_ne (by omega), mset_ne (by omega), mset_ne (by omega), mset_ne (by omega), mset_ne (by omega)]
    exact key _ _ (fun e => by simp [vAdd, vD, e]) rfl (hd 6 rfl)
  · rw [mset_at, mset_ne (by omega), mset_ne (by omega), mset_ne (by omega), mset_ne (by omega), mset_ne (by omega), mset_ne (by omega), mset_ne (by omega)]
    exact key _ _ (fun e => by simp [vAdd, vD, e]) rfl (hd 7 rfl)
theorem ins_fin {M : Mem} {V : View} {a l s : Int32} (hV : cBoi M 11 V) : cBoi (mset (mset (mset (mset M 12 (vB V) a) 13 (vB V) l) 14 (vB V) s) 11 3 (nI (vB V + 1))) 11 (vBoi V a l s) := by
  refine ⟨by rw [mset_at, upd_at]; rfl, fun w hw j hj => ?_⟩
  have hj2 : j < vB V + 1 := hj
  rw [mset_ne (by omega)]
  have key : ∀ (x : Int32), (j = vB V → x = vO (vBoi V a l s) w j) → upd (M (11 + 1 + w)) (vB V) x j = vO (vBoi V a l s) w j := by
    intro x h1
    by_cases e : j = vB V
    · subst e; rw [upd_at]; exact h1 rfl
    · rw [upd_ne e, hV.2 w hw j (by omega)]
      show vO V w j = if j = vB V then _ else _
      rw [if_neg e]
  have hc : w = 0 ∨ w = 1 ∨ w = 2 := by omega
  rcases hc with rfl | rfl | rfl
  · rw [mset_ne (by omega), mset_ne (by omega), mset_at]
    exact key _ (fun e => by simp [vBoi, vO, e])
  · rw [mset_ne (by omega), mset_at, mset_ne (by omega)]
    exact key _ (fun e => by simp [vBoi, vO, e])
  · rw [mset_at, mset_ne (by omega), mset_ne (by omega)]
    exact key _ (fun e => by simp [vBoi, vO, e])

set_option maxRecDepth 20000 in
set_option maxHeartbeats 1000000 in
theorem c_X3_attach (l : Launch) (G : mG) (hG : mInj G) (M : Mem) (g : Glo) (B : Nat) (hB : isNet B) (V : View) (hV : cNet M B V) (hn : vN V < 16) (a l9 s9 d t : Int32) : mcI l G yX3_attach cX3_attach 7 .int 1 [.ref (mA G B), .int a, .int l9, .int s9, .int d, .int t] M g (fun r M' g' => (r = nI (vN V) ∧ cNet M' B (vAdd V a l9 s9 d t) ∧ offR M M' B (B + 8)) ∧ g' = g) := by
  refine mcI_of (L0 := [(0, .ref (mA G B)), (1, .int a), (2, .int l9), (3, .int s9), (4, .int d), (5, .int t)]) hG (by decide) (Nat.le_of_ble_eq_true rfl) rfl ?_
  intro p e s m args below meth c Q C hend
  refine r_aload_n C dX3_attach_0 0 rfl ?_
  refine r_geti C dX3_attach_1 8 f_X3_36 (hB.1) rfl ?_
  refine r_valI (y := nI (vN V)) (hV.1) ?_
  refine r_istore (L' := [(6, .int (nI (vN V))), (0, .ref (mA G B)), (1, .int a), (2, .int l9), (3, .int s9), (4, .int d), (5, .int t)]) C dX3_attach_4 (by decide) rfl ?_
  refine r_iload C dX3_attach_6 0 rfl ?_
  refine r_bipush (v := 16) C dX3_attach_8 rfl ?_
  refine r_icmp_lt (tgt := 15) C dX3_attach_10 (by decide) (fun _ => ?_) (fun h => absurd (nI_lt hn (by decide)) h)
  refine r_aload_n C dX3_attach_15 1 rfl ?_
  refine r_getr (q2 := (B + 1)) C dX3_attach_16 0 f_X3_9 (hB.1) rfl ?_
  refine r_iload C dX3_attach_19 0 rfl ?_
  refine r_iload_n C dX3_attach_21 2 rfl ?_
  refine r_iastN (j := vN V) C dX3_attach_22 ((hB).2.1) (rfl) (by omega) (by decide) ?_
  refine r_aload_n C dX3_attach_23 1 rfl ?_
  refine r_getr (q2 := (B + 2)) C dX3_attach_24 1 f_X3_15 (hB.1) rfl ?_
  refine r_iload C dX3_attach_27 0 rfl ?_
  refine r_iload_n C dX3_attach_29 3 rfl ?_
  refine r_iastN (j := vN V) C dX3_attach_30 ((hB).2.2.1) (rfl) (by omega) (by decide) ?_
  refine r_aload_n C dX3_attach_31 1 rfl ?_
  refine r_getr (q2 := (B + 3)) C dX3_attach_32 2 f_X3_18 (hB.1) rfl ?_
  refine r_iload C dX3_attach_35 0 rfl ?_
  refine r_iload_n C dX3_attach_37 4 rfl ?_
  refine r_iastN (j := vN V) C dX3_attach_38 ((hB).2.2.2.1) (rfl) (by omega) (by decide) ?_
  refine r_aload_n C dX3_attach_39 1 rfl ?_
  refine r_getr (q2 := (B + 4)) C dX3_attach_40 3 f_X3_21 (hB.1) rfl ?_
  refine r_iload C dX3_attach_43 0 rfl ?_
  refine r_iload C dX3_attach_45 5 rfl ?_
  refine r_iastN (j := vN V) C dX3_attach_47 ((hB).2.2.2.2.1) (rfl) (by omega) (by decide) ?_
  refine r_aload_n C dX3_attach_48 1 rfl ?_
  refine r_getr (q2 := (B + 5)) C dX3_attach_49 4 f_X3_24 (hB.1) rfl ?_
  refine r_iload C dX3_attach_52 0 rfl ?_
  refine r_iload C dX3_attach_54 6 rfl ?_
  refine r_iastN (j := vN V) C dX3_attach_56 ((hB).2.2.2.2.2.1) (rfl) (by omega) (by decide) ?_
  refine r_aload_n C dX3_attach_57 1 rfl ?_
  refine r_getr (q2 := (B + 6)) C dX3_attach_58 5 f_X3_27 (hB.1) rfl ?_
  refine r_iload C dX3_attach_61 0 rfl ?_
  refine r_iconst (v := 0) C dX3_attach_63 rfl ?_
  refine r_iastN (j := vN V) C dX3_attach_64 ((hB).2.2.2.2.2.2.1) (rfl) (by omega) (by decide) ?_
  refine r_aload_n C dX3_attach_65 1 rfl ?_
  refine r_getr (q2 := (B + 7)) C dX3_attach_66 6 f_X3_30 (hB.1) rfl ?_
  refine r_iload C dX3_attach_69 0 rfl ?_
  refine r_iconst (v := 0) C dX3_attach_71 rfl ?_
  refine r_iastN (j := vN V) C dX3_attach_72 ((hB).2.2.2.2.2.2.2.1) (rfl) (by omega) (by decide) ?_
  refine r_aload_n C dX3_attach_73 1 rfl ?_
  refine r_getr (q2 := (B + 8)) C dX3_attach_74 7 f_X3_33 (hB.1) rfl ?_
  refine r_iload C dX3_attach_77 0 rfl ?_
  refine r_iconst (v := 0) C dX3_attach_79 rfl ?_
  refine r_iastN (j := vN V) C dX3_attach_80 ((hB).2.2.2.2.2.2.2.2) (rfl) (by omega) (by decide) ?_
  refine r_aload_n C dX3_attach_81 1 rfl ?_
  refine r_iload C dX3_attach_82 0 rfl ?_
  refine r_iconst (v := 1) C dX3_attach_84 rfl ?_
  refine r_iadd C dX3_attach_85 ?_
  refine r_valI (y := nI (vN V + 1)) (nI_1 _) ?_
  refine r_puti C dX3_attach_86 8 fi_X3_36 (hB.1) rfl ?_
  refine r_iload C dX3_attach_89 0 rfl ?_
  exact hend _ _ _ _ _ dX3_attach_91 (rfl) (⟨⟨rfl, att_fin hV, fun q hq => by simp only [mset_ne (show q ≠ B by omega), mset_ne (show q ≠ B + 1 by omega), mset_ne (show q ≠ B + 2 by omega), mset_ne (show q ≠ B + 3 by omega), mset_ne (show q ≠ B + 4 by omega), mset_ne (show q ≠ B + 5 by omega), mset_ne (show q ≠ B + 6 by omega), mset_ne (show q ≠ B + 7 by omega), mset_ne (show q ≠ B + 8 by omega)]⟩, rfl⟩)

set_option maxRecDepth 20000 in
set_option maxHeartbeats 1000000 in
theorem c_X0_install (l : Launch) (G : mG) (hG : mInj G) (M : Mem) (g : Glo) (V : View) (hV : cBoi M 11 V) (hn : vB V < 4) (a l9 s9 : Int32) : mcI l G yX0_install cX0_install 5 .int 1 [.ref (mA G 11), .int a, .int l9, .int s9] M g (fun r M' g' => (r = nI (vB V) ∧ cBoi M' 11 (vBoi V a l9 s9) ∧ offR M M' 11 14) ∧ g' = g) := by
  refine mcI_of (L0 := [(0, .ref (mA G 11)), (1, .int a), (2, .int l9), (3, .int s9)]) hG (by decide) (Nat.le_of_ble_eq_true rfl) rfl ?_
  intro p e s m args below meth c Q C hend
  refine r_aload_n C dX0_install_0 0 rfl ?_
  refine r_geti C dX0_install_1 3 f_X0_21 rfl rfl ?_
  refine r_valI (y := nI (vB V)) (hV.1) ?_
  refine r_istore (L' := [(4, .int (nI (vB V))), (0, .ref (mA G 11)), (1, .int a), (2, .int l9), (3, .int s9)]) C dX0_install_4 (by decide) rfl ?_
  refine r_iload C dX0_install_6 0 rfl ?_
  refine r_iconst (v := 4) C dX0_install_8 rfl ?_
  refine r_icmp_lt (tgt := 14) C dX0_install_9 (by decide) (fun _ => ?_) (fun h => absurd (nI_lt hn (by decide)) h)
  refine r_aload_n C dX0_install_14 1 rfl ?_
  refine r_getr (q2 := 12) C dX0_install_15 0 f_X0_9 rfl rfl ?_
  refine r_iload C dX0_install_18 0 rfl ?_
  refine r_iload_n C dX0_install_20 2 rfl ?_
  refine r_iastN (j := vB V) C dX0_install_21 rfl (rfl) (by omega) (by decide) ?_
  refine r_aload_n C dX0_install_22 1 rfl ?_
  refine r_getr (q2 := 13) C dX0_install_23 1 f_X0_15 rfl rfl ?_
  refine r_iload C dX0_install_26 0 rfl ?_
  refine r_iload_n C dX0_install_28 3 rfl ?_
  refine r_iastN (j := vB V) C dX0_install_29 rfl (rfl) (by omega) (by decide) ?_
  refine r_aload_n C dX0_install_30 1 rfl ?_
  refine r_getr (q2 := 14) C dX0_install_31 2 f_X0_18 rfl rfl ?_
  refine r_iload C dX0_install_34 0 rfl ?_
  refine r_iload_n C dX0_install_36 4 rfl ?_
  refine r_iastN (j := vB V) C dX0_install_37 rfl (rfl) (by omega) (by decide) ?_
  refine r_aload_n C dX0_install_38 1 rfl ?_
  refine r_iload C dX0_install_39 0 rfl ?_
  refine r_iconst (v := 1) C dX0_install_41 rfl ?_
  refine r_iadd C dX0_install_42 ?_
  refine r_valI (y := nI (vB V + 1)) (nI_1 _) ?_
  refine r_puti C dX0_install_43 3 fi_X0_21 rfl rfl ?_
  refine r_iload C dX0_install_46 0 rfl ?_
  exact hend _ _ _ _ _ dX0_install_48 (rfl) (⟨⟨rfl, ins_fin hV, fun q hq => by rw [mset_ne (by omega), mset_ne (by omega), mset_ne (by omega), mset_ne (by omega)]⟩, rfl⟩)
