/-! the start: the class before its first call -/
def kM0 : List (Nat → Int32) := [(fun j => ([0, 0, 0, 0, 0, 0, 0, 0, 0] : List Int32).getD j 0),
  (fun j => ([0, 0, 800, 80, 50, 400, 10, 0, 0] : List Int32).getD j 0),
  (fun j => ([0, 0, 0, 0, 0, 0, 0, 0, 1] : List Int32).getD j 0),
  (upd (fun _ => 0) 0 (-1)),
  (fun _ => 0),
  (fun _ => 0),
  (fun _ => 0),
  (fun _ => 0),
  (fun _ => 0),
  (fun _ => 0),
  (fun _ => 0),
  (fun j => ([0, 0, 0, 0] : List Int32).getD j 0),
  (fun _ => 0),
  (fun _ => 0),
  (fun _ => 0),
  (fun j => ([0, 0, 0] : List Int32).getD j 0),
  (fun _ => 0),
  (fun j => ([0, 0, 800, 80, 50, 400, 10, 0, 0] : List Int32).getD j 0),
  (fun j => ([0, 0, 0, 0, 0, 0, 0, 0, 1] : List Int32).getD j 0),
  (upd (fun _ => 0) 0 (-1)),
  (fun _ => 0),
  (fun _ => 0),
  (fun _ => 0),
  (fun _ => 0),
  (fun _ => 0),
  (fun _ => 0),
  (fun _ => 0),
  (fun j => ([0, 0, 0, 0] : List Int32).getD j 0),
  (fun _ => 0),
  (fun _ => 0),
  (fun _ => 0),
  (fun j => ([0, 0, 800, 80, 50, 400, 10, 0, 0] : List Int32).getD j 0),
  (fun j => ([0, 0, 0, 0, 0, 0, 0, 0, 1] : List Int32).getD j 0),
  (upd (fun _ => 0) 0 (-1)),
  (fun _ => 0),
  (fun _ => 0),
  (fun _ => 0),
  (fun _ => 0),
  (fun _ => 0),
  (fun _ => 0),
  (fun _ => 0),
  (fun j => ([0, 0, 0, 0] : List Int32).getD j 0),
  (fun _ => 0),
  (fun _ => 0),
  (fun _ => 0),
  (fun j => ([0, 0, 800, 80, 50, 400, 10, 0, 0] : List Int32).getD j 0),
  (fun j => ([0, 0, 0, 0, 0, 0, 0, 0, 1] : List Int32).getD j 0),
  (upd (fun _ => 0) 0 (-1)),
  (fun _ => 0),
  (fun _ => 0),
  (fun _ => 0),
  (fun _ => 0),
  (fun _ => 0),
  (fun _ => 0),
  (fun _ => 0),
  (fun j => ([0, 0, 0, 0] : List Int32).getD j 0),
  (fun _ => 0),
  (fun _ => 0),
  (fun _ => 0),
  (fun j => ([0, 0, 800, 80, 50, 400, 10, 0, 0] : List Int32).getD j 0),
  (fun j => ([0, 0, 0, 0, 0, 0, 0, 0, 1] : List Int32).getD j 0),
  (upd (fun _ => 0) 0 (-1)),
  (fun _ => 0),
  (fun _ => 0),
  (fun _ => 0),
  (fun _ => 0),
  (fun _ => 0),
  (fun _ => 0),
  (fun _ => 0),
  (fun j => ([0, 0, 0, 0] : List Int32).getD j 0),
  (fun _ => 0),
  (fun _ => 0),
  (fun _ => 0),
  (fun j => ([0, 0, 0, (-1)] : List Int32).getD j 0),
  (fun _ => 0),
  (fun j => ([0, 0, 0, 0, 0, 0, 0] : List Int32).getD j 0),
  (fun _ => 0),
  (fun _ => 0),
  (fun _ => 0),
  (fun _ => 0),
  (fun j => ([0, 0, 0, 0, 0, 1] : List Int32).getD j 0),
  (fun _ => 0),
  (fun _ => 0),
  (fun _ => 0),
  (fun _ => 0),
  (fun _ => 0),
  (fun j => ([0, 0, 0, 0, 0, 0, 0] : List Int32).getD j 0),
  (fun _ => 0),
  (fun _ => 0),
  (fun _ => 0),
  (fun _ => 0),
  (fun j => ([0, 0, 0, 0, 0, 1] : List Int32).getD j 0),
  (fun _ => 0),
  (fun _ => 0),
  (fun _ => 0),
  (fun _ => 0),
  (fun _ => 0),
  (fun j => ([0, 0, 0, 0, 0, 0, 0, 0, 1] : List Int32).getD j 0),
  (upd (fun _ => 0) 0 (-1)),
  (fun _ => 0),
  (fun _ => 0),
  (fun _ => 0),
  (fun _ => 0),
  (fun _ => 0),
  (fun _ => 0),
  (fun _ => 0),
  (fun _ => 0)]
def M0 : Mem := fun k => kM0.getD k (fun _ => 0)
def g0 : Glo := fun _ _ => 0
def V0 : View := ((1, 0), (fun _ => 0), (fun i => ([800, 80, 50, 400, 10, 0, 0, 0, 0] : List Int32).getD i 0), (fun w _ => if w = 0 then -1 else 0), (fun _ _ => 0))
def wX7 (G : mG) (a : Nat → Nat) (o : Nat) : va_W := (a o, .inr (7, [.ref (a (o + 1)), .ref (a (o + 15)), .ref (a (o + 73)), .ref (a (o + 75)), .ref (a (o + 80)), .ref (a (o + 86)), .ref (a (o + 91)), .ref (a (o + 97)), .ref (a (o + 106))])) :: ((((((((([] ++ wX6 G a (o + 1)) ++ wX1 G a (o + 15)) ++ wX4 G a (o + 73)) ++ wX2 G a (o + 75)) ++ wX5 G a (o + 80)) ++ wX2 G a (o + 86)) ++ wX5 G a (o + 91)) ++ wX3 G a (o + 97)) ++ [(a (o + 106), kI G 16 (fun _ => 0))])
set_option maxRecDepth 40000 in
set_option maxHeartbeats 4000000 in
theorem kw_X7 (G : mG) (a : Nat → Nat) : wX7 G a 0 = Km_ws (G.1, G.2.1, a) M0 g0 := rfl
theorem V0_T : wfT V0 := ⟨by decide, by decide, by decide, by decide +kernel, fun j h1 h2 => absurd (show j < 1 from h2) (by omega)⟩
theorem V0_Z : wfZ V0 := fun j h1 h2 => absurd (show j < 1 from h2) (by omega)
theorem V0_V : wfV V0 := ⟨V0_T, by unfold isV0; decide +kernel, fun j h1 h2 => absurd (show j < 1 from h2) (by omega), by unfold wfS inR; decide +kernel, fun b hb => absurd (show b < 0 from hb) (by omega)⟩
theorem M0_S : cSt M0 1 V0 := by
  unfold cSt cNet cBoi
  decide +kernel
theorem cINV_0 {M : Mem} (h : cOK M V0) (ho : offR M0 M 75 85) (T : Nat → Int32) : cINV M V0 [] 0 T := by
  refine ⟨h, V0_V, ⟨0, by decide, by decide, ?_, ?_, fun i W hi => by simp at hi⟩, fun W hW => absurd hW List.not_mem_nil, ⟨?_, by decide, fun j hj => absurd hj (by omega)⟩, fun w hw => ?_⟩
  · rw [ho 15 (by decide)]
    decide +kernel
  · rw [ho 15 (by decide)]
    decide +kernel
  · rw [ho 73 (by decide)]
    decide +kernel
  · rw [ho (98 + w) (by omega)]
    revert w
    decide +kernel
theorem k_inj {A : Nat → Prop} {G : mG} {M : Mem} {g : Glo} (hD : va_D A (Km_ws G M g)) : KmInj G := fun i j hi hj e => hD.1 i j _ _ (Km_ws_at hi) (Km_ws_at hj) e
theorem k_D2 {A : Nat → Prop} {G : mG} {M M' : Mem} {g g' : Glo} (hD : va_D A (Km_ws G M g)) : va_D A (Km_ws G M' g') := by
  refine ⟨fun i j p q hp hq e => ?_, fun k q hq => ?_⟩
  · obtain ⟨a, b⟩ := Km_ws_inv hp
    obtain ⟨c, d⟩ := Km_ws_inv hq
    exact k_inj hD i j a c (b ▸ d ▸ e)
  · obtain ⟨a, b⟩ := Km_ws_inv hq
    rw [b]
    exact hD.2 k _ (Km_ws_at a)
theorem k_settle {p : Program} {l : Launch} {e : Env} {R : Room} {s : State} {m : MethodId} {args : Array Value} {below : List Frame} {meth : Method} {c : Code} {G : mG} {nL kk nn : Nat} {Q : State → Prop} {A : Nat → Prop} {L : List (Nat × Value)} {pc : Nat} {st : List Value} {cc : ByteArray} {own : String} {idx : Nat} {a : Nat → Nat} {M : Mem} {g : Glo} {V : View} (C : kCx p s m args c cc nL own G A) (hd : decode cc pc = .ok (.invokevirtual idx, 3)) (hs : mSv own idx RX7 yX7_settle cX7_settle 1 none 0) (hT : wfT V) (hSt : cSt M 1 V) (hz : wfZ V) (hr1 : 1 + 5 + 1 ≤ R.frames) (hr2 : 8 + (1 + 11) + (40 + 40 * 5) ≤ R.locals) (hr : (st.map fun v => v.category).sum ≤ 8) (h1 : kk ≤ R.cells) (h2 : nn ≤ R.slots)
    (k : ∀ (M' : Mem) (g' : Glo), (cOK M' V ∧ offR M M' 75 85) ∧ g' = g → Kt p l e R s m args below meth c G nL kk nn Q A (Km_ws (G.1, G.2.1, a) M' g') L (pc + 3) st) : Kt p l e R s m args below meth c G nL kk nn Q A (Km_ws (G.1, G.2.1, a) M g) L pc (.ref (a 0) :: st) := by
  intro H locs ls hP hD hS hl
  have hG := k_inj hD
  have hsub : ∀ z, KmAq (G.1, G.2.1, a) H.size z → A z := by
    intro z hz
    rcases hz with ⟨k, hk, rfl⟩ | hz
    · exact hD.2 k _ (Km_ws_at hk)
    · exact C.2.2.2.2.2.2 z (Nat.le_trans hS.1 hz)
  obtain ⟨⟨a1, a2, a3, a4, a5, a6, a7⟩, b1, b2, b3⟩ := hs
  have ht := C.2.2.2.2.1
  refine va_callv (va_runV (As := []) (rest := st) (k_fix C) (Kc_X7_settle l (G.1, G.2.1, a) hG M g V hT hSt hz H.size) ⟨callB_of 0 ht (gd_in a3) rfl rfl rfl (ht _ a2) (ht _ a1) ⟨a4, a5, a6⟩ ⟨hr1, hr2⟩, ht _ b1, ht _ b2⟩ ⟨KmPc_blind, va_recv C.2.2.2.2.2.1.1.1 hP (ci := 7) rfl (Km_obj rfl), fun U hU hW => ⟨rfl, by rw [hU], by rw [hU]; exact hP, ?_⟩⟩ rfl rfl hl.1 rfl (lv_room hr) hd ⟨h1, h2⟩) hS (fun z _ h => hsub z h) hsub (fun u t H1 locs1 ht hvm hw hB hz1 hk1 hS1 => ?_)
  · rw [hU]
    exact ((xS.call hW hS C.2.2.2.2.2.1).narrow hsub).1
  · unfold KmB at hB
    rw [ht] at hB
    exact k u.1 u.2 hw H1 locs1 ls hB (k_D2 hD) hS1 hl
theorem wX0_ext {G : mG} {a b : Nat → Nat} {o o' : Nat} (h : ∀ i, i < 4 → a (o + i) = b (o' + i)) : wX0 G a o = wX0 G b o' := by
  have h0 : a o = b o' := h 0 (by decide)
  have h1 : a (o + 1) = b (o' + 1) := h 1 (by decide)
  have h2 : a (o + 2) = b (o' + 2) := h 2 (by decide)
  have h3 : a (o + 3) = b (o' + 3) := h 3 (by decide)
  simp only [wX0, h0, h1, h2, h3]
theorem wX3_ext {G : mG} {a b : Nat → Nat} {o o' : Nat} (h : ∀ i, i < 9 → a (o + i) = b (o' + i)) : wX3 G a o = wX3 G b o' := by
  have h0 : a o = b o' := h 0 (by decide)
  have h1 : a (o + 1) = b (o' + 1) := h 1 (by decide)
  have h2 : a (o + 2) = b (o' + 2) := h 2 (by decide)
  have h3 : a (o + 3) = b (o' + 3) := h 3 (by decide)
  have h4 : a (o + 4) = b (o' + 4) := h 4 (by decide)
  have h5 : a (o + 5) = b (o' + 5) := h 5 (by decide)
  have h6 : a (o + 6) = b (o' + 6) := h 6 (by decide)
  have h7 : a (o + 7) = b (o' + 7) := h 7 (by decide)
  have h8 : a (o + 8) = b (o' + 8) := h 8 (by decide)
  simp only [wX3, h0, h1, h2, h3, h4, h5, h6, h7, h8]
theorem wX2_ext {G : mG} {a b : Nat → Nat} {o o' : Nat} (h : ∀ i, i < 5 → a (o + i) = b (o' + i)) : wX2 G a o = wX2 G b o' := by
  have h0 : a o = b o' := h 0 (by decide)
  have h1 : a (o + 1) = b (o' + 1) := h 1 (by decide)
  have h2 : a (o + 2) = b (o' + 2) := h 2 (by decide)
  have h3 : a (o + 3) = b (o' + 3) := h 3 (by decide)
  have h4 : a (o + 4) = b (o' + 4) := h 4 (by decide)
  simp only [wX2, h0, h1, h2, h3, h4]
theorem wX4_ext {G : mG} {a b : Nat → Nat} {o o' : Nat} (h : ∀ i, i < 2 → a (o + i) = b (o' + i)) : wX4 G a o = wX4 G b o' := by
  have h0 : a o = b o' := h 0 (by decide)
  have h1 : a (o + 1) = b (o' + 1) := h 1 (by decide)
  simp only [wX4, h0, h1]
theorem wX5_ext {G : mG} {a b : Nat → Nat} {o o' : Nat} (h : ∀ i, i < 6 → a (o + i) = b (o' + i)) : wX5 G a o = wX5 G b o' := by
  have h0 : a o = b o' := h 0 (by decide)
  have h1 : a (o + 1) = b (o' + 1) := h 1 (by decide)
  have h2 : a (o + 2) = b (o' + 2) := h 2 (by decide)
  have h3 : a (o + 3) = b (o' + 3) := h 3 (by decide)
  have h4 : a (o + 4) = b (o' + 4) := h 4 (by decide)
  have h5 : a (o + 5) = b (o' + 5) := h 5 (by decide)
  simp only [wX5, h0, h1, h2, h3, h4, h5]
theorem wX6_ext {G : mG} {a b : Nat → Nat} {o o' : Nat} (h : ∀ i, i < 14 → a (o + i) = b (o' + i)) : wX6 G a o = wX6 G b o' := by
  have h0 : a o = b o' := h 0 (by decide)
  have h1 : a (o + 1) = b (o' + 1) := h 1 (by decide)
  have h10 : a (o + 10) = b (o' + 10) := h 10 (by decide)
  have s1 : wX3 G a (o + 1) = wX3 G b (o' + 1) := wX3_ext (fun i hi => by rw [Nat.add_assoc, Nat.add_assoc]; exact h (1 + i) (by omega))
  have s10 : wX0 G a (o + 10) = wX0 G b (o' + 10) := wX0_ext (fun i hi => by rw [Nat.add_assoc, Nat.add_assoc]; exact h (10 + i) (by omega))
  simp only [wX6, h0, h1, h10, s1, s10]
theorem wX1_ext {G : mG} {a b : Nat → Nat} {o o' : Nat} (h : ∀ i, i < 58 → a (o + i) = b (o' + i)) : wX1 G a o = wX1 G b o' := by
  have h0 : a o = b o' := h 0 (by decide)
  have h1 : a (o + 1) = b (o' + 1) := h 1 (by decide)
  have h2 : a (o + 2) = b (o' + 2) := h 2 (by decide)
  have h16 : a (o + 16) = b (o' + 16) := h 16 (by decide)
  have h30 : a (o + 30) = b (o' + 30) := h 30 (by decide)
  have h44 : a (o + 44) = b (o' + 44) := h 44 (by decide)
  have s2 : wX6 G a (o + 2) = wX6 G b (o' + 2) := wX6_ext (fun i hi => by rw [Nat.add_assoc, Nat.add_assoc]; exact h (2 + i) (by omega))
  have s16 : wX6 G a (o + 16) = wX6 G b (o' + 16) := wX6_ext (fun i hi => by rw [Nat.add_assoc, Nat.add_assoc]; exact h (16 + i) (by omega))
  have s30 : wX6 G a (o + 30) = wX6 G b (o' + 30) := wX6_ext (fun i hi => by rw [Nat.add_assoc, Nat.add_assoc]; exact h (30 + i) (by omega))
  have s44 : wX6 G a (o + 44) = wX6 G b (o' + 44) := wX6_ext (fun i hi => by rw [Nat.add_assoc, Nat.add_assoc]; exact h (44 + i) (by omega))
  have hm : (fun i : Nat => (([o + 2, o + 16, o + 30, o + 44] : List Nat)[i]?).map a) = (fun i : Nat => (([o' + 2, o' + 16, o' + 30, o' + 44] : List Nat)[i]?).map b) := by
    funext i
    rcases i with _ | _ | _ | _ | i <;> simp [h2, h16, h30, h44]
  simp only [wX1, h0, h1, h2, h16, h30, h44, s2, s16, s30, s44, hm]
def kAd (h0 : Nat) (u1 u2 u3 u4 u5 u6 u7 u8 : Nat → Nat) (a9 : Nat) : Nat → Nat := fun i => if i < 1 then h0 else if i < 15 then u1 (i - 1) else if i < 73 then u2 (i - 15) else if i < 75 then u3 (i - 73) else if i < 80 then u4 (i - 75) else if i < 86 then u5 (i - 80) else if i < 91 then u6 (i - 86) else if i < 97 then u7 (i - 91) else if i < 106 then u8 (i - 97) else a9
theorem kAd_1 (h0 : Nat) (u1 u2 u3 u4 u5 u6 u7 u8 : Nat → Nat) (a9 : Nat) (i : Nat) (hi : i < 14) : u1 (0 + i) = (kAd h0 u1 u2 u3 u4 u5 u6 u7 u8 a9) (0 + 1 + i) := by
  unfold kAd
  rw [if_neg (by omega), if_pos (by omega), show 0 + 1 + i - 1 = 0 + i by omega]
theorem kAd_15 (h0 : Nat) (u1 u2 u3 u4 u5 u6 u7 u8 : Nat → Nat) (a9 : Nat) (i : Nat) (hi : i < 58) : u2 (0 + i) = (kAd h0 u1 u2 u3 u4 u5 u6 u7 u8 a9) (0 + 15 + i) := by
  unfold kAd
  rw [if_neg (by omega), if_neg (by omega), if_pos (by omega), show 0 + 15 + i - 15 = 0 + i by omega]
theorem kAd_73 (h0 : Nat) (u1 u2 u3 u4 u5 u6 u7 u8 : Nat → Nat) (a9 : Nat) (i : Nat) (hi : i < 2) : u3 (0 + i) = (kAd h0 u1 u2 u3 u4 u5 u6 u7 u8 a9) (0 + 73 + i) := by
  unfold kAd
  rw [if_neg (by omega), if_neg (by omega), if_neg (by omega), if_pos (by omega), show 0 + 73 + i - 73 = 0 + i by omega]
theorem kAd_75 (h0 : Nat) (u1 u2 u3 u4 u5 u6 u7 u8 : Nat → Nat) (a9 : Nat) (i : Nat) (hi : i < 5) : u4 (0 + i) = (kAd h0 u1 u2 u3 u4 u5 u6 u7 u8 a9) (0 + 75 + i) := by
  unfold kAd
  rw [if_neg (by omega), if_neg (by omega), if_neg (by omega), if_neg (by omega), if_pos (by omega), show 0 + 75 + i - 75 = 0 + i by omega]
theorem kAd_80 (h0 : Nat) (u1 u2 u3 u4 u5 u6 u7 u8 : Nat → Nat) (a9 : Nat) (i : Nat) (hi : i < 6) : u5 (0 + i) = (kAd h0 u1 u2 u3 u4 u5 u6 u7 u8 a9) (0 + 80 + i) := by
  unfold kAd
  rw [if_neg (by omega), if_neg (by omega), if_neg (by omega), if_neg (by omega), if_neg (by omega), if_pos (by omega), show 0 + 80 + i - 80 = 0 + i by omega]
theorem kAd_86 (h0 : Nat) (u1 u2 u3 u4 u5 u6 u7 u8 : Nat → Nat) (a9 : Nat) (i : Nat) (hi : i < 5) : u6 (0 + i) = (kAd h0 u1 u2 u3 u4 u5 u6 u7 u8 a9) (0 + 86 + i) := by
  unfold kAd
  rw [if_neg (by omega), if_neg (by omega), if_neg (by omega), if_neg (by omega), if_neg (by omega), if_neg (by omega), if_pos (by omega), show 0 + 86 + i - 86 = 0 + i by omega]
theorem kAd_91 (h0 : Nat) (u1 u2 u3 u4 u5 u6 u7 u8 : Nat → Nat) (a9 : Nat) (i : Nat) (hi : i < 6) : u7 (0 + i) = (kAd h0 u1 u2 u3 u4 u5 u6 u7 u8 a9) (0 + 91 + i) := by
  unfold kAd
  rw [if_neg (by omega), if_neg (by omega), if_neg (by omega), if_neg (by omega), if_neg (by omega), if_neg (by omega), if_neg (by omega), if_pos (by omega), show 0 + 91 + i - 91 = 0 + i by omega]
theorem kAd_97 (h0 : Nat) (u1 u2 u3 u4 u5 u6 u7 u8 : Nat → Nat) (a9 : Nat) (i : Nat) (hi : i < 9) : u8 (0 + i) = (kAd h0 u1 u2 u3 u4 u5 u6 u7 u8 a9) (0 + 97 + i) := by
  unfold kAd
  rw [if_neg (by omega), if_neg (by omega), if_neg (by omega), if_neg (by omega), if_neg (by omega), if_neg (by omega), if_neg (by omega), if_neg (by omega), if_pos (by omega), show 0 + 97 + i - 97 = 0 + i by omega]
theorem kw_join (G : mG) (h0 : Nat) (u1 u2 u3 u4 u5 u6 u7 u8 : Nat → Nat) (a9 : Nat) : ((h0, .inr (7, [.ref (u1 0), .ref (u2 0), .ref (u3 0), .ref (u4 0), .ref (u5 0), .ref (u6 0), .ref (u7 0), .ref (u8 0), .ref a9])) :: ((((((((([] ++ wX6 G u1 0) ++ wX1 G u2 0) ++ wX4 G u3 0) ++ wX2 G u4 0) ++ wX5 G u5 0) ++ wX2 G u6 0) ++ wX5 G u7 0) ++ wX3 G u8 0) ++ [(a9, kI G 16 (fun _ => 0))])) = wX7 G (kAd h0 u1 u2 u3 u4 u5 u6 u7 u8 a9) 0 := by
  have s1 : wX6 G u1 0 = wX6 G (kAd h0 u1 u2 u3 u4 u5 u6 u7 u8 a9) (0 + 1) := wX6_ext (kAd_1 h0 u1 u2 u3 u4 u5 u6 u7 u8 a9)
  have e1 : (kAd h0 u1 u2 u3 u4 u5 u6 u7 u8 a9) (0 + 1) = u1 0 := rfl
  have s15 : wX1 G u2 0 = wX1 G (kAd h0 u1 u2 u3 u4 u5 u6 u7 u8 a9) (0 + 15) := wX1_ext (kAd_15 h0 u1 u2 u3 u4 u5 u6 u7 u8 a9)
  have e15 : (kAd h0 u1 u2 u3 u4 u5 u6 u7 u8 a9) (0 + 15) = u2 0 := rfl
  have s73 : wX4 G u3 0 = wX4 G (kAd h0 u1 u2 u3 u4 u5 u6 u7 u8 a9) (0 + 73) := wX4_ext (kAd_73 h0 u1 u2 u3 u4 u5 u6 u7 u8 a9)
  have e73 : (kAd h0 u1 u2 u3 u4 u5 u6 u7 u8 a9) (0 + 73) = u3 0 := rfl
  have s75 : wX2 G u4 0 = wX2 G (kAd h0 u1 u2 u3 u4 u5 u6 u7 u8 a9) (0 + 75) := wX2_ext (kAd_75 h0 u1 u2 u3 u4 u5 u6 u7 u8 a9)
  have e75 : (kAd h0 u1 u2 u3 u4 u5 u6 u7 u8 a9) (0 + 75) = u4 0 := rfl
  have s80 : wX5 G u5 0 = wX5 G (kAd h0 u1 u2 u3 u4 u5 u6 u7 u8 a9) (0 + 80) := wX5_ext (kAd_80 h0 u1 u2 u3 u4 u5 u6 u7 u8 a9)
  have e80 : (kAd h0 u1 u2 u3 u4 u5 u6 u7 u8 a9) (0 + 80) = u5 0 := rfl
  have s86 : wX2 G u6 0 = wX2 G (kAd h0 u1 u2 u3 u4 u5 u6 u7 u8 a9) (0 + 86) := wX2_ext (kAd_86 h0 u1 u2 u3 u4 u5 u6 u7 u8 a9)
  have e86 : (kAd h0 u1 u2 u3 u4 u5 u6 u7 u8 a9) (0 + 86) = u6 0 := rfl
  have s91 : wX5 G u7 0 = wX5 G (kAd h0 u1 u2 u3 u4 u5 u6 u7 u8 a9) (0 + 91) := wX5_ext (kAd_91 h0 u1 u2 u3 u4 u5 u6 u7 u8 a9)
  have e91 : (kAd h0 u1 u2 u3 u4 u5 u6 u7 u8 a9) (0 + 91) = u7 0 := rfl
  have s97 : wX3 G u8 0 = wX3 G (kAd h0 u1 u2 u3 u4 u5 u6 u7 u8 a9) (0 + 97) := wX3_ext (kAd_97 h0 u1 u2 u3 u4 u5 u6 u7 u8 a9)
  have e97 : (kAd h0 u1 u2 u3 u4 u5 u6 u7 u8 a9) (0 + 97) = u8 0 := rfl
  have e0 : (kAd h0 u1 u2 u3 u4 u5 u6 u7 u8 a9) 0 = h0 := rfl
  have e106 : (kAd h0 u1 u2 u3 u4 u5 u6 u7 u8 a9) (0 + 106) = a9 := rfl
  unfold wX7
  rw [s1, s15, s73, s75, s80, s86, s91, s97, e0, e1, e15, e73, e75, e80, e86, e91, e97, e106]
set_option maxRecDepth 40000 in
set_option maxHeartbeats 4000000 in
theorem c_X7_init (l : Launch) (G : mG) : mcK l G yX7_init cX7_init 1 6 106 1444 7 [.null, .null, .null, .null, .null, .null, .null, .null, .null] (fun h0 (u : (Nat → Nat) × Mem × Glo) => u.1 0 = h0 ∧ cOK u.2.1 V0 ∧ offR M0 u.2.1 75 85 ∧ u.2.2 = g0) (fun u => Km_ws (G.1, G.2.1, u.1) u.2.1 u.2.2) := by
  refine mcK_of (by decide) rfl (by decide) ?_
  intro h0 p e s m args below meth c Q A hA hlt C hin hend
  refine k_as (ws' := (h0, .inr (7, [.null, .null, .null, .null, .null, .null, .null, .null, .null])) :: []) rfl ?_
  refine k_aload_n C dX7_init_0 0 rfl ?_
  refine k_objInit C dX7_init_1 (gd_t 23 (by decide +kernel) rfl) (by decide) (by decide) ?_
  refine k_aload_n C dX7_init_4 0 rfl ?_
  refine k_new (N := 9) C dX7_init_5 nw_X7_7 rfl (Nat.le_of_ble_eq_true rfl) (Nat.le_of_ble_eq_true rfl) (fun q1 => ?_)
  refine k_dup C dX7_init_8 rfl ?_
  refine k_callN (S := Nat → Nat) (mc := 13) (ms := 153) (d := 1) C dX7_init_9 scn_X7_9 (c_X6_init l G) (Nat.le_of_ble_eq_true rfl) (Nat.le_of_ble_eq_true rfl) (Nat.le_of_ble_eq_true rfl) (Nat.le_of_ble_eq_true rfl) (Nat.le_of_ble_eq_true rfl) (fun u1 hu1 => ?_)
  subst hu1
  refine k_putF (i := 0) (fs' := [.ref (u1 0), .null, .null, .null, .null, .null, .null, .null, .null]) C hin dX7_init_12 ff_X7_10 rfl rfl (Nat.lt_of_lt_of_le (Nat.lt_succ_self _) (Nat.le_of_ble_eq_true rfl)) rfl ?_
  refine k_aload_n C dX7_init_15 0 rfl ?_
  refine k_new (N := 3) C dX7_init_16 nw_X7_16 rfl (Nat.le_of_ble_eq_true rfl) (Nat.le_of_ble_eq_true rfl) (fun q2 => ?_)
  refine k_dup C dX7_init_19 rfl ?_
  refine k_call (S := Nat → Nat) (mc := 57) (ms := 652) (d := 2) C dX7_init_20 sc_X7_18 (c_X1_init l G) (Nat.le_of_ble_eq_true rfl) (Nat.le_of_ble_eq_true rfl) (Nat.le_of_ble_eq_true rfl) (Nat.le_of_ble_eq_true rfl) (Nat.le_of_ble_eq_true rfl) (fun u2 hu2 => ?_)
  subst hu2
  refine k_putF (i := 1) (fs' := [.ref (u1 0), .ref (u2 0), .null, .null, .null, .null, .null, .null, .null]) C hin dX7_init_23 ff_X7_19 rfl rfl (Nat.lt_of_lt_of_le (Nat.lt_succ_self _) (Nat.le_of_ble_eq_true rfl)) rfl ?_
  refine k_aload_n C dX7_init_26 0 rfl ?_
  refine k_new (N := 4) C dX7_init_27 nw_X7_23 rfl (Nat.le_of_ble_eq_true rfl) (Nat.le_of_ble_eq_true rfl) (fun q3 => ?_)
  refine k_dup C dX7_init_30 rfl ?_
  refine k_callN (S := Nat → Nat) (mc := 1) (ms := 180) (d := 0) C dX7_init_31 scn_X7_25 (c_X4_init l G) (Nat.le_of_ble_eq_true rfl) (Nat.le_of_ble_eq_true rfl) (Nat.le_of_ble_eq_true rfl) (Nat.le_of_ble_eq_true rfl) (Nat.le_of_ble_eq_true rfl) (fun u3 hu3 => ?_)
  subst hu3
  refine k_putF (i := 2) (fs' := [.ref (u1 0), .ref (u2 0), .ref (u3 0), .null, .null, .null, .null, .null, .null]) C hin dX7_init_34 ff_X7_26 rfl rfl (Nat.lt_of_lt_of_le (Nat.lt_succ_self _) (Nat.le_of_ble_eq_true rfl)) rfl ?_
  refine k_aload_n C dX7_init_37 0 rfl ?_
  refine k_new (N := 7) C dX7_init_38 nw_X7_30 rfl (Nat.le_of_ble_eq_true rfl) (Nat.le_of_ble_eq_true rfl) (fun q4 => ?_)
  refine k_dup C dX7_init_41 rfl ?_
  refine k_callN (S := Nat → Nat) (mc := 4) (ms := 52) (d := 0) C dX7_init_42 scn_X7_32 (c_X2_init l G) (Nat.le_of_ble_eq_true rfl) (Nat.le_of_ble_eq_true rfl) (Nat.le_of_ble_eq_true rfl) (Nat.le_of_ble_eq_true rfl) (Nat.le_of_ble_eq_true rfl) (fun u4 hu4 => ?_)
  subst hu4
  refine k_putF (i := 3) (fs' := [.ref (u1 0), .ref (u2 0), .ref (u3 0), .ref (u4 0), .null, .null, .null, .null, .null]) C hin dX7_init_45 ff_X7_33 rfl rfl (Nat.lt_of_lt_of_le (Nat.lt_succ_self _) (Nat.le_of_ble_eq_true rfl)) rfl ?_
  refine k_aload_n C dX7_init_48 0 rfl ?_
  refine k_new (N := 6) C dX7_init_49 nw_X7_37 rfl (Nat.le_of_ble_eq_true rfl) (Nat.le_of_ble_eq_true rfl) (fun q5 => ?_)
  refine k_dup C dX7_init_52 rfl ?_
  refine k_callN (S := Nat → Nat) (mc := 5) (ms := 80) (d := 0) C dX7_init_53 scn_X7_39 (c_X5_init l G) (Nat.le_of_ble_eq_true rfl) (Nat.le_of_ble_eq_true rfl) (Nat.le_of_ble_eq_true rfl) (Nat.le_of_ble_eq_true rfl) (Nat.le_of_ble_eq_true rfl) (fun u5 hu5 => ?_)
  subst hu5
  refine k_putF (i := 4) (fs' := [.ref (u1 0), .ref (u2 0), .ref (u3 0), .ref (u4 0), .ref (u5 0), .null, .null, .null, .null]) C hin dX7_init_56 ff_X7_40 rfl rfl (Nat.lt_of_lt_of_le (Nat.lt_succ_self _) (Nat.le_of_ble_eq_true rfl)) rfl ?_
  refine k_aload_n C dX7_init_59 0 rfl ?_
  refine k_new (N := 7) C dX7_init_60 nw_X7_30 rfl (Nat.le_of_ble_eq_true rfl) (Nat.le_of_ble_eq_true rfl) (fun q6 => ?_)
  refine k_dup C dX7_init_63 rfl ?_
  refine k_callN (S := Nat → Nat) (mc := 4) (ms := 52) (d := 0) C dX7_init_64 scn_X7_32 (c_X2_init l G) (Nat.le_of_ble_eq_true rfl) (Nat.le_of_ble_eq_true rfl) (Nat.le_of_ble_eq_true rfl) (Nat.le_of_ble_eq_true rfl) (Nat.le_of_ble_eq_true rfl) (fun u6 hu6 => ?_)
  subst hu6
  refine k_putF (i := 5) (fs' := [.ref (u1 0), .ref (u2 0), .ref (u3 0), .ref (u4 0), .ref (u5 0), .ref (u6 0), .null, .null, .null]) C hin dX7_init_67 ff_X7_44 rfl rfl (Nat.lt_of_lt_of_le (Nat.lt_succ_self _) (Nat.le_of_ble_eq_true rfl)) rfl ?_
  refine k_aload_n C dX7_init_70 0 rfl ?_
  refine k_new (N := 6) C dX7_init_71 nw_X7_37 rfl (Nat.le_of_ble_eq_true rfl) (Nat.le_of_ble_eq_true rfl) (fun q7 => ?_)
  refine k_dup C dX7_init_74 rfl ?_
  refine k_callN (S := Nat → Nat) (mc := 5) (ms := 80) (d := 0) C dX7_init_75 scn_X7_39 (c_X5_init l G) (Nat.le_of_ble_eq_true rfl) (Nat.le_of_ble_eq_true rfl) (Nat.le_of_ble_eq_true rfl) (Nat.le_of_ble_eq_true rfl) (Nat.le_of_ble_eq_true rfl) (fun u7 hu7 => ?_)
  subst hu7
  refine k_putF (i := 6) (fs' := [.ref (u1 0), .ref (u2 0), .ref (u3 0), .ref (u4 0), .ref (u5 0), .ref (u6 0), .ref (u7 0), .null, .null]) C hin dX7_init_78 ff_X7_47 rfl rfl (Nat.lt_of_lt_of_le (Nat.lt_succ_self _) (Nat.le_of_ble_eq_true rfl)) rfl ?_
  refine k_aload_n C dX7_init_81 0 rfl ?_
  refine k_new (N := 9) C dX7_init_82 nw_X7_50 rfl (Nat.le_of_ble_eq_true rfl) (Nat.le_of_ble_eq_true rfl) (fun q8 => ?_)
  refine k_dup C dX7_init_85 rfl ?_
  refine k_call (S := Nat → Nat) (mc := 8) (ms := 128) (d := 0) C dX7_init_86 sc_X7_52 (c_X3_init l G) (Nat.le_of_ble_eq_true rfl) (Nat.le_of_ble_eq_true rfl) (Nat.le_of_ble_eq_true rfl) (Nat.le_of_ble_eq_true rfl) (Nat.le_of_ble_eq_true rfl) (fun u8 hu8 => ?_)
  subst hu8
  refine k_putF (i := 7) (fs' := [.ref (u1 0), .ref (u2 0), .ref (u3 0), .ref (u4 0), .ref (u5 0), .ref (u6 0), .ref (u7 0), .ref (u8 0), .null]) C hin dX7_init_89 ff_X7_53 rfl rfl (Nat.lt_of_lt_of_le (Nat.lt_succ_self _) (Nat.le_of_ble_eq_true rfl)) rfl ?_
  refine k_aload_n C dX7_init_92 0 rfl ?_
  refine k_bipush (v := 16) C dX7_init_93 (by decide) ?_
  refine k_newi (N := 16) C dX7_init_95 (by decide) (by decide) (by decide) (Nat.le_of_ble_eq_true rfl) (Nat.le_of_ble_eq_true rfl) (fun a9 => ?_)
  refine k_putF (i := 8) (fs' := [.ref (u1 0), .ref (u2 0), .ref (u3 0), .ref (u4 0), .ref (u5 0), .ref (u6 0), .ref (u7 0), .ref (u8 0), .ref a9]) C hin dX7_init_97 ff_X7_57 rfl rfl (Nat.lt_of_lt_of_le (Nat.lt_succ_self _) (Nat.le_of_ble_eq_true rfl)) rfl ?_
  refine k_aload_n C dX7_init_100 0 rfl ?_
  refine k_as (kw_join G h0 u1 u2 u3 u4 u5 u6 u7 u8 a9) ?_
  refine k_as (kw_X7 G (kAd h0 u1 u2 u3 u4 u5 u6 u7 u8 a9)) ?_
  refine k_settle (a := (kAd h0 u1 u2 u3 u4 u5 u6 u7 u8 a9)) C dX7_init_101 s_X7_61 V0_T M0_S V0_Z (Nat.le_of_ble_eq_true rfl) (Nat.le_of_ble_eq_true rfl) (by decide) (Nat.le_of_ble_eq_true rfl) (Nat.le_of_ble_eq_true rfl) (fun M1 g1 h => ?_)
  exact hend ((kAd h0 u1 u2 u3 u4 u5 u6 u7 u8 a9), M1, g1) _ _ dX7_init_104 ⟨rfl, h.1.1, h.1.2, h.2⟩
