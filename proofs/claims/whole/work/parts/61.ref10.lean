theorem hd2 {M M2 : Mem} {V : View} {Hs : List View} {len : Nat} {T : Nat → Int32} (hI : rINV M V Hs len T) (e3 : M2 107 3 = M 107 3) (e5 : M2 107 5 = M 107 5) (e9 : M2 109 = M 109) (e11 : M2 111 = M 111) : rHis M2 Hs ∧ rTxt M2 len T := by
  obtain ⟨h1, ⟨h2, h3, h4⟩, h5, h6, h7⟩ := hI
  exact ⟨⟨by rw [e3]; exact h2, h3, fun i W hi => by rw [e9]; exact h4 i W hi⟩, by rw [e5]; exact h5, h6, fun j hj => by rw [e11]; exact h7 j hj⟩
theorem rV_ext {f : Nat → Int32} {V V' : View} (hN : vN V = vN V') (hB : vB V = vB V') (hS : ∀ i, vS V i = vS V' i) (hD : ∀ w j, j < vN V → vD V w j = vD V' w j) (hO : ∀ w b, vO V w b = vO V' w b) (h : rV f V) : rV f V' := by
  obtain ⟨⟨a1, a2⟩, ⟨b0, b1, b2, b3, b4, b7, b8⟩, c, d⟩ := h
  exact ⟨⟨by rw [← hN]; exact a1, by rw [← hB]; exact a2⟩, ⟨b0.trans (hS 0), b1.trans (hS 1), b2.trans (hS 2), b3.trans (hS 3), b4.trans (hS 4), b7.trans (hS 7), b8.trans (hS 8)⟩, fun w hw j hj => (c w hw j (by omega)).trans (hD w j (by omega)), fun w hw b hb => (d w hw b (by omega)).trans (hO w b)⟩
theorem ix3n (n : Nat) : (137 : Int32) + 3 * nI n = nI (137 + 3 * n) := by
  rw [show (137 : Int32) = nI 137 from rfl, show (3 : Int32) = nI 3 from rfl, nI_mulN, nI_add]
theorem b2i_or (b : Bool) : b2i b = 0 ∨ b2i b = 1 := by cases b; exact Or.inl rfl; exact Or.inr rfl
theorem upd_back {f : Nat → Int32} {i : Nat} {x y : Int32} (h : f i = y) : upd (upd f i x) i y = f := by
  funext j
  by_cases e : j = i
  · subst e; rw [upd_at, h]
  · rw [upd_ne e, upd_ne e]
theorem wf_pasK {V : View} {h : Int32} {k : Nat} (hW : wfV V) : wfV (vPasK V h k) := by
  obtain ⟨h1, h2, h3, h4, h5⟩ := hW
  have e : ∀ w j, w ≠ 7 ∨ j = 0 → vD (vPasK V h k) w j = vD V w j := fun w j hw => by
    show (if w = 7 ∧ j ≠ 0 ∧ j < k then _ else vD V w j) = _
    rw [if_neg (fun z => by rcases hw with q | q; exact q z.1; exact z.2.1 q)]
  refine ⟨pas_wfT h1, fun w hw => by rw [e w 0 (Or.inr rfl)]; exact h2 w hw, fun j a b => ?_, h4, h5⟩
  have := h3 j a b
  unfold wfC at this ⊢
  rw [e 1 j (by omega), e 2 j (by omega), e 3 j (by omega), e 4 j (by omega), e 5 j (by omega), e 6 j (by omega)]
  exact this
theorem rOK.pas {M : Mem} {V : View} {h : Int32} {k : Nat} (hR : rOK M V) : rOK M (vPasK V h k) := by
  have hs := sameW_pasK V h k
  intro j hj
  have := hR j hj
  rw [hs.flow, hs.warm (vSup V), hs.ret (vSup V), hs.back (vSup V)] at this
  exact this
theorem pas_cost {V : View} {h : Int32} {k : Nat} : costF (vPasK V h k) (needF (vPasK V h k) (vSup (vPasK V h k))) = costF V (needF V (vSup V)) := by
  have hs := sameW_pasK V h k
  have e : needF (vPasK V h k) (vSup (vPasK V h k)) = needF V (vSup V) := (hs.need (vSup V)).symm
  rw [e]
  exact (sameB.cs hs.2.1 hs.2.2.2.1 (needF V (vSup V)) (vB V)).symm
theorem pas_row {f : Nat → Int32} {V : View} {h : Int32} {k : Nat} (hn : vN V ≤ 16) (h0 : 0 < k) (hk : k < vN V) (hf : rV f (vPasK V h k)) : rV (upd f (9 + 8 * k + 7) (vD V 7 k + h * billF V k)) (vPasK V h (k + 1)) := by
  refine rV_ext (V := vSet (vPasK V h k) 7 k (vD V 7 k + h * billF V k)) rfl rfl (fun _ => rfl) (fun w j _ => ?_) (fun _ _ => rfl) (rV_set (V := vPasK V h k) (w := 7) (j := k) hn hf (by decide) hk)
  show (if w = 7 ∧ j = k then vD V 7 k + h * billF V k else if w = 7 ∧ j ≠ 0 ∧ j < k then vD V 7 j + h * billF V j else vD V w j) = if w = 7 ∧ j ≠ 0 ∧ j < k + 1 then vD V 7 j + h * billF V j else vD V w j
  by_cases e : w = 7 ∧ j = k
  · rw [if_pos e, if_pos ⟨e.1, by omega, by omega⟩, e.2]
  · rw [if_neg e]
    by_cases e2 : w = 7 ∧ j ≠ 0 ∧ j < k
    · rw [if_pos e2, if_pos ⟨e2.1, e2.2.1, by omega⟩]
    · rw [if_neg e2, if_neg (fun z => by omega)]
theorem pas_end {f : Nat → Int32} {V : View} {h c : Int32} {k : Nat} (hk : k = vN V) (hc : c = costF V (needF V (vSup V))) (hf : rV f (vPasK V h k)) : rV (upd (upd f 7 (vS V 7 + h * c)) 8 (vS V 8 + h)) (vPass V h) := by
  subst hc
  refine rV_ext (V := vSc (vSc (vPasK V h k) 7 (vS V 7 + h * costF V (needF V (vSup V)))) 8 (vS V 8 + h)) rfl rfl (fun i => ?_) (fun w j hj => ?_) (fun _ _ => rfl) (rV_sc 8 (by decide) (rV_sc (x := vS V 7 + h * costF V (needF V (vSup V))) 7 (by decide) hf))
  · show (if i = 8 then vS V 8 + h else if i = 7 then vS V 7 + h * costF V (needF V (vSup V)) else vS V i) = if i = 7 then vS V 7 + h * costF V (needF V (vSup V)) else if i = 8 then vS V 8 + h else vS V i
    by_cases e : i = 8
    · subst e; rw [if_pos rfl, if_neg (by decide), if_pos rfl]
    · rw [if_neg e, if_neg e]
  · have hj2 : j < vN V := hj
    show (if w = 7 ∧ j ≠ 0 ∧ j < k then vD V 7 j + h * billF V j else vD V w j) = if w = 7 ∧ j ≠ 0 then vD V 7 j + h * billF V j else vD V w j
    by_cases e : w = 7 ∧ j ≠ 0
    · rw [if_pos e, if_pos ⟨e.1, e.2, by omega⟩]
    · rw [if_neg e, if_neg (fun z => e ⟨z.1, z.2.1⟩)]
theorem app_fin {M : Mem} {V : View} {Hs : List View} {len : Nat} {T : Nat → Int32} {x r : Int32} {e : Nat} (hI : rINV M V Hs len T) (hl : len < 180) (he : e = 0) (hr : r = nI (len + 1)) : mtP M (mset (mset (mset M 111 len x) 107 5 (nI (len + 1))) 107 6 0) V Hs len T V Hs (len + 1) (upd T len x) e r (nI (len + 1)) := by
  subst he
  obtain ⟨h1, ⟨h2, h3, h4⟩, h5, h6, h7⟩ := hI
  refine ⟨by rw [mset_at, upd_at]; rfl, fun q hq => by rw [mset_ne (by omega), mset_ne (by omega), mset_ne (by omega)], fun _ => ⟨hr, by rw [mset_ne (by omega), mset_ne (by omega), mset_ne (by omega)]; exact h1, ⟨?_, h3, fun i W hi => by rw [mset_ne (by omega), mset_ne (by omega), mset_ne (by omega)]; exact h4 i W hi⟩, ?_, by omega, fun j hj => ?_⟩, fun z => absurd rfl z⟩
  · rw [mset_at, upd_ne (by decide), mset_at, upd_ne (by decide), mset_ne (by omega)]; exact h2
  · rw [mset_at, upd_ne (by decide), mset_at, upd_at]
  · rw [mset_ne (by omega), mset_ne (by omega), mset_at]
    by_cases z : j = len
    · subst z; rw [upd_at, upd_at]
    · rw [upd_ne z, upd_ne z]; exact h7 j (by omega)
theorem clr_fin {M : Mem} {V : View} {Hs : List View} {len : Nat} {T : Nat → Int32} (hI : rINV M V Hs len T) : mtP M (mset (mset M 107 5 0) 107 6 0) V Hs len T V Hs 0 T 0 (nI len) (nI len) := by
  obtain ⟨h1, ⟨h2, h3, h4⟩, h5, h6, h7⟩ := hI
  refine ⟨by rw [mset_at, upd_at]; rfl, fun q hq => by rw [mset_ne (by omega), mset_ne (by omega)], fun _ => ⟨rfl, by rw [mset_ne (by omega), mset_ne (by omega)]; exact h1, ⟨?_, h3, fun i W hi => by rw [mset_ne (by omega), mset_ne (by omega)]; exact h4 i W hi⟩, ?_, by omega, fun j hj => by omega⟩, fun z => absurd rfl z⟩
  · rw [mset_at, upd_ne (by decide), mset_at, upd_ne (by decide)]; exact h2
  · rw [mset_at, upd_ne (by decide), mset_at, upd_at]; rfl
theorem und_fin {M : Mem} {V V0 : View} {Hs Hs0 : List View} {len : Nat} {T : Nat → Int32} {f : Nat → Int32} {r : Int32} (hI : rINV M V Hs len T) (hc : Hs = Hs0 ++ [V0]) (hn : vN V0 ≤ 16) (hb : vB V0 ≤ 4) (hf : ∀ j, j < 149 → f j = M 109 (149 * Hs0.length + j)) (hr : r = nI Hs0.length) : mtP M (mset (mset (mrow M 108 f) 107 3 (nI Hs0.length)) 107 6 0) V Hs len T V0 Hs0 len T (eUndo Hs) r (nI Hs0.length) := by
  obtain ⟨h1, ⟨h2, h3, h4⟩, h5, h6, h7⟩ := hI
  have he : eUndo Hs = 0 := if_neg (by rw [hc]; simp)
  rw [he]
  have hl : Hs.length = Hs0.length + 1 := by rw [hc]; simp
  refine ⟨by rw [mset_at, upd_at]; rfl, fun q hq => by rw [mset_ne (by omega), mset_ne (by omega), mrow_ne (by omega)], fun _ => ⟨hr, ?_, ⟨?_, by omega, fun i W hi => ?_⟩, ?_, h6, fun j hj => by rw [mset_ne (by omega), mset_ne (by omega), mrow_ne (by omega)]; exact h7 j hj⟩, fun z => absurd rfl z⟩
  · rw [mset_ne (by omega), mset_ne (by omega), mrow_at]
    exact rV_cong hn hb (fun k hk => (hf k hk).symm) (h4 Hs0.length V0 (by rw [hc]; simp))
  · rw [mset_at, upd_ne (by decide), mset_at, upd_at]
  · rw [mset_ne (by omega), mset_ne (by omega), mrow_ne (by omega)]
    have hlt := (List.getElem?_eq_some_iff.mp hi).1
    exact h4 i W (by rw [hc, List.getElem?_append_left hlt]; exact hi)
  · rw [mset_at, upd_ne (by decide), mset_at, upd_ne (by decide), mrow_ne (by omega)]; exact h5
theorem sav_fr {M M1 M2 : Mem} {i : Nat} {x y : Int32} (h1 : frW M M1) (hx : M1 108 i = y) (h2 : frW (mset M1 108 i x) M2) : frW M (mset M2 108 i y) := by
  refine ⟨fun q a b => ?_, fun k a => ?_⟩
  · by_cases e : q = 108
    · subst e
      rw [mset_at, h2.1 108 (by decide) (by decide), mset_at, upd_back hx]
      exact h1.1 108 a b
    · rw [mset_ne e, h2.1 q a b, mset_ne e]
      exact h1.1 q a b
  · rw [mset_ne (by decide), h2.2 k a, mset_ne (by decide)]
    exact h1.2 k a
set_option maxRecDepth 20000 in
set_option maxHeartbeats 1000000 in
theorem c_X8_node (l : Launch) (G : mG) (hG : mInj G) (M : Mem) (g : Glo) (V : View) (Hs : List View) (len : Nat) (T : Nat → Int32) (hW : wfV V) (hI : rINV M V Hs len T) (n w : Int32) : mcI l G yX8_node cX8_node 3 .int 5 [.ref (mA G 107), .int n, .int w] M g (fun r M' g' => mtP M M' V Hs len T V Hs len T (eNode V n w) r (nodeF V n.toNatClampNeg w.toNatClampNeg) ∧ g' = g) := by
  refine mcI_of (L0 := [(0, .ref (mA G 107)), (1, .int n), (2, .int w)]) hG (by decide) (Nat.le_of_ble_eq_true rfl) rfl ?_
  intro p e s m args below meth c Q C hend
  have hT := hW.1
  obtain ⟨hn1, hn16, hb4, ⟨hd0, hd3, hd5, hd6⟩, hpar⟩ := id hT
  have hV := hI.1
  refine r_aload_n C dX8_node_0 0 rfl ?_
  refine r_iload_n C dX8_node_1 1 rfl ?_
  refine r_callVI (As := [.int n]) (rest := []) C dX8_node_2 s_X8_91 (c_X8_isNode l G hG M g V hW hV n) (by decide) rfl rfl rfl rfl (Nat.le_of_ble_eq_true rfl) (Nat.le_of_ble_eq_true rfl) (Nat.le_of_ble_eq_true rfl) (fun r2 M2 g2 hp2 => ?_)
  obtain ⟨hy2, eM2, eg2⟩ := hp2
  rw [eg2]
  rw [eM2]
  refine r_if_ne (tgt := 14) C dX8_node_5 (by decide) (fun c5 => ?_) (fun c5 => ?_)
  ·
    obtain ⟨j, hj, hnj⟩ := isNd_nI (by omega) (hy2.t c5)
    have e9 : n.toNatClampNeg = j := by rw [hnj]; exact nI_clamp (by omega)
    refine r_iload_n C dX8_node_14 2 rfl ?_
    refine r_iconst (v := 0) C dX8_node_15 rfl ?_
    refine r_bipush (v := 11) C dX8_node_16 rfl ?_
    refine r_callSI (As := [.int w, .int 0, .int 11]) (rest := []) C dX8_node_18 s_X8_83 (c_X8_in l G hG M g w 0 11) (by decide) rfl rfl (Nat.le_of_ble_eq_true rfl) (Nat.le_of_ble_eq_true rfl) (Nat.le_of_ble_eq_true rfl) (fun r18 M18 g18 hp18 => ?_)
    obtain ⟨hy18, eM18, eg18⟩ := hp18
    rw [eg18]
    rw [eM18]
    refine r_if_ne (tgt := 30) C dX8_node_21 (by decide) (fun c21 => ?_) (fun c21 => ?_)
    ·
      obtain ⟨k, hk, hwk⟩ := nI_of2 (x := w) (M := 11) (n := 11) (by decide) (i32_nlt.mpr (hy18.t c21).1) (hy18.t c21).2
      have e8 : w.toNatClampNeg = k := by rw [hwk]; exact nI_clamp (by omega)
      refine r_aload_n C dX8_node_30 0 rfl ?_
      refine r_callVV (As := []) (rest := []) C dX8_node_31 s_X8_126 (c_X8_works l G hG M g V hW hV) (by decide) rfl rfl rfl rfl (Nat.le_of_ble_eq_true rfl) (Nat.le_of_ble_eq_true rfl) (Nat.le_of_ble_eq_true rfl) (fun M31 g31 hp31 => ?_)
      obtain ⟨⟨o31, hR31⟩, eg31⟩ := hp31
      rw [eg31]
      have hV31 := (frW.of o31).rv hV
      refine r_aload_n C dX8_node_34 0 rfl ?_
      refine r_aload_n C dX8_node_35 0 rfl ?_
      refine r_iload_n C dX8_node_36 1 rfl ?_
      refine r_valI (y := nI j) (hnj) ?_
      refine r_iload_n C dX8_node_37 2 rfl ?_
      refine r_valI (y := nI k) (hwk) ?_
      refine r_callVI (As := [.int (nI j), .int (nI k)]) (rest := [.ref (mA G 107)]) C dX8_node_38 s_X8_129 (c_X8_nodeOf l G hG M31 g V hW hV31 hR31 j hj k (by omega)) (by decide) rfl rfl rfl rfl (Nat.le_of_ble_eq_true rfl) (Nat.le_of_ble_eq_true rfl) (Nat.le_of_ble_eq_true rfl) (pk_I ?_)
      refine r_callVI (As := [.int (nodeF V j k)]) (rest := []) C dX8_node_41 s_X8_44 (c_X8_tells l G hG M31 g (nodeF V j k)) (by decide) rfl rfl rfl rfl (Nat.le_of_ble_eq_true rfl) (Nat.le_of_ble_eq_true rfl) (Nat.le_of_ble_eq_true rfl) (pk_I ?_)
      exact hend _ _ _ _ _ dX8_node_44 (rfl) (⟨mt_r hI (frW.of o31).t ((if_neg (not_of (hy2.t c5))).trans (if_neg (not_of (hy18.t c21)))) (by rw [e9, e8]), rfl⟩)
    ·
      refine r_aload_n C dX8_node_24 0 rfl ?_
      refine r_iconst (v := 2) C dX8_node_25 rfl ?_
      refine r_callVI (As := [.int 2]) (rest := []) C dX8_node_26 s_X8_95 (c_X8_fails l G hG M g 2) (by decide) rfl rfl rfl rfl (Nat.le_of_ble_eq_true rfl) (Nat.le_of_ble_eq_true rfl) (Nat.le_of_ble_eq_true rfl) (pk_I ?_)
      exact hend _ _ _ _ _ dX8_node_29 (rfl) (⟨mt_f 2 hI (frW.rf M).t ((if_neg (not_of (hy2.t c5))).trans (if_pos (hy18.f c21))) (by decide), rfl⟩)
  ·
    refine r_aload_n C dX8_node_8 0 rfl ?_
    refine r_iconst (v := 1) C dX8_node_9 rfl ?_
    refine r_callVI (As := [.int 1]) (rest := []) C dX8_node_10 s_X8_95 (c_X8_fails l G hG M g 1) (by decide) rfl rfl rfl rfl (Nat.le_of_ble_eq_true rfl) (Nat.le_of_ble_eq_true rfl) (Nat.le_of_ble_eq_true rfl) (pk_I ?_)
    exact hend _ _ _ _ _ dX8_node_13 (rfl) (⟨mt_f 1 hI (frW.rf M).t (if_pos (hy2.f c5)) (by decide), rfl⟩)

set_option maxRecDepth 20000 in
set_option maxHeartbeats 1000000 in
theorem c_X8_heat (l : Launch) (G : mG) (hG : mInj G) (M : Mem) (g : Glo) (V : View) (Hs : List View) (len : Nat) (T : Nat → Int32) (hW : wfV V) (hI : rINV M V Hs len T) (n w : Int32) : mcI l G yX8_heat cX8_heat 3 .int 5 [.ref (mA G 107), .int n, .int w] M g (fun r M' g' => mtP M M' V Hs len T V Hs len T (eHeat V n w) r (heatF V n.toNatClampNeg w.toNatClampNeg) ∧ g' = g) := by
  refine mcI_of (L0 := [(0, .ref (mA G 107)), (1, .int n), (2, .int w)]) hG (by decide) (Nat.le_of_ble_eq_true rfl) rfl ?_
  intro p e s m args below meth c Q C hend
  have hT := hW.1
  obtain ⟨hn1, hn16, hb4, ⟨hd0, hd3, hd5, hd6⟩, hpar⟩ := id hT
  have hV := hI.1
  refine r_aload_n C dX8_heat_0 0 rfl ?_
  refine r_iload_n C dX8_heat_1 1 rfl ?_
  refine r_callVI (As := [.int n]) (rest := []) C dX8_heat_2 s_X8_115 (c_X8_isPipe l G hG M g V hW hV n) (by decide) rfl rfl rfl rfl (Nat.le_of_ble_eq_true rfl) (Nat.le_of_ble_eq_true rfl) (Nat.le_of_ble_eq_true rfl) (fun r2 M2 g2 hp2 => ?_)
  obtain ⟨hy2, eM2, eg2⟩ := hp2
  rw [eg2]
  rw [eM2]
  refine r_if_ne (tgt := 14) C dX8_heat_5 (by decide) (fun c5 => ?_) (fun c5 => ?_)
  ·
    obtain ⟨j, hj0, hj, hnj⟩ := isPp_nI (by omega) (hy2.t c5)
    have e9 : n.toNatClampNeg = j := by rw [hnj]; exact nI_clamp (by omega)
    refine r_iload_n C dX8_heat_14 2 rfl ?_
    refine r_iconst (v := 0) C dX8_heat_15 rfl ?_
    refine r_iconst (v := 5) C dX8_heat_16 rfl ?_
    refine r_callSI (As := [.int w, .int 0, .int 5]) (rest := []) C dX8_heat_17 s_X8_83 (c_X8_in l G hG M g w 0 5) (by decide) rfl rfl (Nat.le_of_ble_eq_true rfl) (Nat.le_of_ble_eq_true rfl) (Nat.le_of_ble_eq_true rfl) (fun r17 M17 g17 hp17 => ?_)
    obtain ⟨hy17, eM17, eg17⟩ := hp17
    rw [eg17]
    rw [eM17]
    refine r_if_ne (tgt := 29) C dX8_heat_20 (by decide) (fun c20 => ?_) (fun c20 => ?_)
    ·
      obtain ⟨k, hk, hwk⟩ := nI_of2 (x := w) (M := 5) (n := 5) (by decide) (i32_nlt.mpr (hy17.t c20).1) (hy17.t c20).2
      have e8 : w.toNatClampNeg = k := by rw [hwk]; exact nI_clamp (by omega)
      refine r_aload_n C dX8_heat_29 0 rfl ?_
      refine r_callVV (As := []) (rest := []) C dX8_heat_30 s_X8_126 (c_X8_works l G hG M g V hW hV) (by decide) rfl rfl rfl rfl (Nat.le_of_ble_eq_true rfl) (Nat.le_of_ble_eq_true rfl) (Nat.le_of_ble_eq_true rfl) (fun M30 g30 hp30 => ?_)
      obtain ⟨⟨o30, hR30⟩, eg30⟩ := hp30
      rw [eg30]
      have hV30 := (frW.of o30).rv hV
      refine r_aload_n C dX8_heat_33 0 rfl ?_
      refine r_aload_n C dX8_heat_34 0 rfl ?_
      refine r_iload_n C dX8_heat_35 1 rfl ?_
      refine r_valI (y := nI j) (hnj) ?_
      refine r_iload_n C dX8_heat_36 2 rfl ?_
      refine r_valI (y := nI k) (hwk) ?_
      refine r_callVI (As := [.int (nI j), .int (nI k)]) (rest := [.ref (mA G 107)]) C dX8_heat_37 s_X8_64 (c_X8_heatOf l G hG M30 g V hW hV30 hR30 j hj0 hj k (by omega)) (by decide) rfl rfl rfl rfl (Nat.le_of_ble_eq_true rfl) (Nat.le_of_ble_eq_true rfl) (Nat.le_of_ble_eq_true rfl) (pk_I ?_)
      refine r_callVI (As := [.int (heatF V j k)]) (rest := []) C dX8_heat_40 s_X8_44 (c_X8_tells l G hG M30 g (heatF V j k)) (by decide) rfl rfl rfl rfl (Nat.le_of_ble_eq_true rfl) (Nat.le_of_ble_eq_true rfl) (Nat.le_of_ble_eq_true rfl) (pk_I ?_)
      exact hend _ _ _ _ _ dX8_heat_43 (rfl) (⟨mt_r hI (frW.of o30).t ((if_neg (not_of (hy2.t c5))).trans (if_neg (not_of (hy17.t c20)))) (by rw [e9, e8]), rfl⟩)
    ·
      refine r_aload_n C dX8_heat_23 0 rfl ?_
      refine r_iconst (v := 2) C dX8_heat_24 rfl ?_
      refine r_callVI (As := [.int 2]) (rest := []) C dX8_heat_25 s_X8_95 (c_X8_fails l G hG M g 2) (by decide) rfl rfl rfl rfl (Nat.le_of_ble_eq_true rfl) (Nat.le_of_ble_eq_true rfl) (Nat.le_of_ble_eq_true rfl) (pk_I ?_)
      exact hend _ _ _ _ _ dX8_heat_28 (rfl) (⟨mt_f 2 hI (frW.rf M).t ((if_neg (not_of (hy2.t c5))).trans (if_pos (hy17.f c20))) (by decide), rfl⟩)
  ·
    refine r_aload_n C dX8_heat_8 0 rfl ?_
    refine r_iconst (v := 1) C dX8_heat_9 rfl ?_
    refine r_callVI (As := [.int 1]) (rest := []) C dX8_heat_10 s_X8_95 (c_X8_fails l G hG M g 1) (by decide) rfl rfl rfl rfl (Nat.le_of_ble_eq_true rfl) (Nat.le_of_ble_eq_true rfl) (Nat.le_of_ble_eq_true rfl) (pk_I ?_)
    exact hend _ _ _ _ _ dX8_heat_13 (rfl) (⟨mt_f 1 hI (frW.rf M).t (if_pos (hy2.f c5)) (by decide), rfl⟩)

set_option maxRecDepth 20000 in
set_option maxHeartbeats 1000000 in
theorem c_X8_value (l : Launch) (G : mG) (hG : mInj G) (M : Mem) (g : Glo) (V : View) (Hs : List View) (len : Nat) (T : Nat → Int32) (hW : wfV V) (hI : rINV M V Hs len T) (w : Int32) : mcI l G yX8_value cX8_value 2 .int 6 [.ref (mA G 107), .int w] M g (fun r M' g' => mtP M M' V Hs len T V Hs len T (eIn w 0 14) r (valF V w.toNatClampNeg) ∧ g' = g) := by
  refine mcI_of (L0 := [(0, .ref (mA G 107)), (1, .int w)]) hG (by decide) (Nat.le_of_ble_eq_true rfl) rfl ?_
  intro p e s m args below meth c Q C hend
  have hT := hW.1
  obtain ⟨hn1, hn16, hb4, ⟨hd0, hd3, hd5, hd6⟩, hpar⟩ := id hT
  have hV := hI.1
  refine r_iload_n C dX8_value_0 1 rfl ?_
  refine r_iconst (v := 0) C dX8_value_1 rfl ?_
  refine r_bipush (v := 14) C dX8_value_2 rfl ?_
  refine r_callSI (As := [.int w, .int 0, .int 14]) (rest := []) C dX8_value_4 s_X8_83 (c_X8_in l G hG M g w 0 14) (by decide) rfl rfl (Nat.le_of_ble_eq_true rfl) (Nat.le_of_ble_eq_true rfl) (Nat.le_of_ble_eq_true rfl) (fun r4 M4 g4 hp4 => ?_)
  obtain ⟨hy4, eM4, eg4⟩ := hp4
  rw [eg4]
  rw [eM4]
  refine r_if_ne (tgt := 16) C dX8_value_7 (by decide) (fun c7 => ?_) (fun c7 => ?_)
  ·
    obtain ⟨k, hk, hwk⟩ := nI_of2 (x := w) (M := 14) (n := 14) (by decide) (i32_nlt.mpr (hy4.t c7).1) (hy4.t c7).2
    have e8 : w.toNatClampNeg = k := by rw [hwk]; exact nI_clamp (by omega)
    refine r_aload_n C dX8_value_16 0 rfl ?_
    refine r_callVV (As := []) (rest := []) C dX8_value_17 s_X8_126 (c_X8_works l G hG M g V hW hV) (by decide) rfl rfl rfl rfl (Nat.le_of_ble_eq_true rfl) (Nat.le_of_ble_eq_true rfl) (Nat.le_of_ble_eq_true rfl) (fun M17 g17 hp17 => ?_)
    obtain ⟨⟨o17, hR17⟩, eg17⟩ := hp17
    rw [eg17]
    have hV17 := (frW.of o17).rv hV
    refine r_aload_n C dX8_value_20 0 rfl ?_
    refine r_aload_n C dX8_value_21 0 rfl ?_
    refine r_iload_n C dX8_value_22 1 rfl ?_
    refine r_valI (y := nI k) (hwk) ?_
    refine r_callVI (As := [.int (nI k)]) (rest := [.ref (mA G 107)]) C dX8_value_23 s_X8_141 (c_X8_valueOf l G hG M17 g V hW hV17 hR17 k (by omega)) (by decide) rfl rfl rfl rfl (Nat.le_of_ble_eq_true rfl) (Nat.le_of_ble_eq_true rfl) (Nat.le_of_ble_eq_true rfl) (fun r23 M23 g23 hp23 => ?_)
    obtain ⟨⟨e23, hc23⟩, eg23⟩ := hp23
    rw [eg23]
    refine r_callVI (As := [.int r23]) (rest := []) C dX8_value_26 s_X8_44 (c_X8_tells l G hG M23 g r23) (by decide) rfl rfl rfl rfl (Nat.le_of_ble_eq_true rfl) (Nat.le_of_ble_eq_true rfl) (Nat.le_of_ble_eq_true rfl) (pk_I ?_)
    exact hend _ _ _ _ _ dX8_value_29 (rfl) (⟨mt_r hI ((frW.of o17).tr hc23.fr).t (if_neg (not_of (hy4.t c7))) (by rw [e8]; exact e23), rfl⟩)
  ·
    refine r_aload_n C dX8_value_10 0 rfl ?_
    refine r_iconst (v := 1) C dX8_value_11 rfl ?_
    refine r_callVI (As := [.int 1]) (rest := []) C dX8_value_12 s_X8_95 (c_X8_fails l G hG M g 1) (by decide) rfl rfl rfl rfl (Nat.le_of_ble_eq_true rfl) (Nat.le_of_ble_eq_true rfl) (Nat.le_of_ble_eq_true rfl) (pk_I ?_)
    exact hend _ _ _ _ _ dX8_value_15 (rfl) (⟨mt_f 1 hI (frW.rf M).t (if_pos (hy4.f c7)) (by decide), rfl⟩)

set_option maxRecDepth 20000 in
set_option maxHeartbeats 1000000 in
theorem c_X8_sum (l : Launch) (G : mG) (hG : mInj G) (M : Mem) (g : Glo) (V : View) (Hs : List View) (len : Nat) (T : Nat → Int32) (hW : wfV V) (hI : rINV M V Hs len T) (w : Int32) : mcI l G yX8_sum cX8_sum 2 .int 6 [.ref (mA G 107), .int w] M g (fun r M' g' => mtP M M' V Hs len T V Hs len T (eIn w 0 2) r (sumF V w.toNatClampNeg) ∧ g' = g) := by
  refine mcI_of (L0 := [(0, .ref (mA G 107)), (1, .int w)]) hG (by decide) (Nat.le_of_ble_eq_true rfl) rfl ?_
  intro p e s m args below meth c Q C hend
  have hT := hW.1
  obtain ⟨hn1, hn16, hb4, ⟨hd0, hd3, hd5, hd6⟩, hpar⟩ := id hT
  have hV := hI.1
  refine r_iload_n C dX8_sum_0 1 rfl ?_
  refine r_iconst (v := 0) C dX8_sum_1 rfl ?_
  refine r_iconst (v := 2) C dX8_sum_2 rfl ?_
  refine r_callSI (As := [.int w, .int 0, .int 2]) (rest := []) C dX8_sum_3 s_X8_83 (c_X8_in l G hG M g w 0 2) (by decide) rfl rfl (Nat.le_of_ble_eq_true rfl) (Nat.le_of_ble_eq_true rfl) (Nat.le_of_ble_eq_true rfl) (fun r3 M3 g3 hp3 => ?_)
  obtain ⟨hy3, eM3, eg3⟩ := hp3
  rw [eg3]
  rw [eM3]
  refine r_if_ne (tgt := 15) C dX8_sum_6 (by decide) (fun c6 => ?_) (fun c6 => ?_)
  ·
    obtain ⟨k, hk, hwk⟩ := nI_of2 (x := w) (M := 2) (n := 2) (by decide) (i32_nlt.mpr (hy3.t c6).1) (hy3.t c6).2
    have e8 : w.toNatClampNeg = k := by rw [hwk]; exact nI_clamp (by omega)
    refine r_aload_n C dX8_sum_15 0 rfl ?_
    refine r_callVV (As := []) (rest := []) C dX8_sum_16 s_X8_126 (c_X8_works l G hG M g V hW hV) (by decide) rfl rfl rfl rfl (Nat.le_of_ble_eq_true rfl) (Nat.le_of_ble_eq_true rfl) (Nat.le_of_ble_eq_true rfl) (fun M16 g16 hp16 => ?_)
    obtain ⟨⟨o16, hR16⟩, eg16⟩ := hp16
    rw [eg16]
    have hV16 := (frW.of o16).rv hV
    refine r_aload_n C dX8_sum_19 0 rfl ?_
    refine r_aload_n C dX8_sum_20 0 rfl ?_
    refine r_iload_n C dX8_sum_21 1 rfl ?_
    refine r_valI (y := nI k) (hwk) ?_
    refine r_callVI (As := [.int (nI k)]) (rest := [.ref (mA G 107)]) C dX8_sum_22 s_X8_144 (c_X8_sumOf l G hG M16 g V hW hV16 hR16 k (by omega)) (by decide) rfl rfl rfl rfl (Nat.le_of_ble_eq_true rfl) (Nat.le_of_ble_eq_true rfl) (Nat.le_of_ble_eq_true rfl) (pk_I ?_)
    refine r_callVI (As := [.int (sumF V k)]) (rest := []) C dX8_sum_25 s_X8_44 (c_X8_tells l G hG M16 g (sumF V k)) (by decide) rfl rfl rfl rfl (Nat.le_of_ble_eq_true rfl) (Nat.le_of_ble_eq_true rfl) (Nat.le_of_ble_eq_true rfl) (pk_I ?_)
    exact hend _ _ _ _ _ dX8_sum_28 (rfl) (⟨mt_r hI (frW.of o16).t (if_neg (not_of (hy3.t c6))) (by rw [e8]), rfl⟩)
  ·
    refine r_aload_n C dX8_sum_9 0 rfl ?_
    refine r_iconst (v := 1) C dX8_sum_10 rfl ?_
    refine r_callVI (As := [.int 1]) (rest := []) C dX8_sum_11 s_X8_95 (c_X8_fails l G hG M g 1) (by decide) rfl rfl rfl rfl (Nat.le_of_ble_eq_true rfl) (Nat.le_of_ble_eq_true rfl) (Nat.le_of_ble_eq_true rfl) (pk_I ?_)
    exact hend _ _ _ _ _ dX8_sum_14 (rfl) (⟨mt_f 1 hI (frW.rf M).t (if_pos (hy3.f c6)) (by decide), rfl⟩)

set_option maxRecDepth 20000 in
set_option maxHeartbeats 1000000 in
theorem c_X8_boiler (l : Launch) (G : mG) (hG : mInj G) (M : Mem) (g : Glo) (V : View) (Hs : List View) (len : Nat) (T : Nat → Int32) (hW : wfV V) (hI : rINV M V Hs len T) (n w : Int32) : mcI l G yX8_boiler cX8_boiler 3 .int 5 [.ref (mA G 107), .int n, .int w] M g (fun r M' g' => mtP M M' V Hs len T V Hs len T (eBoiler V n w) r (boiF V n.toNatClampNeg w.toNatClampNeg) ∧ g' = g) := by
  refine mcI_of (L0 := [(0, .ref (mA G 107)), (1, .int n), (2, .int w)]) hG (by decide) (Nat.le_of_ble_eq_true rfl) rfl ?_
  intro p e s m args below meth c Q C hend
  have hT := hW.1
  obtain ⟨hn1, hn16, hb4, ⟨hd0, hd3, hd5, hd6⟩, hpar⟩ := id hT
  have hV := hI.1
  refine r_aload_n C dX8_boiler_0 0 rfl ?_
  refine r_iload_n C dX8_boiler_1 1 rfl ?_
  refine r_callVI (As := [.int n]) (rest := []) C dX8_boiler_2 s_X8_148 (c_X8_isBoiler l G hG M g V hW hV n) (by decide) rfl rfl rfl rfl (Nat.le_of_ble_eq_true rfl) (Nat.le_of_ble_eq_true rfl) (Nat.le_of_ble_eq_true rfl) (fun r2 M2 g2 hp2 => ?_)
  obtain ⟨hy2, eM2, eg2⟩ := hp2
  rw [eg2]
  rw [eM2]
  refine r_if_ne (tgt := 14) C dX8_boiler_5 (by decide) (fun c5 => ?_) (fun c5 => ?_)
  ·
    obtain ⟨j, hj, hnj⟩ := isBo_nI (by omega) (hy2.t c5)
    have e9 : n.toNatClampNeg = j := by rw [hnj]; exact nI_clamp (by omega)
    refine r_iload_n C dX8_boiler_14 2 rfl ?_
    refine r_iconst (v := 0) C dX8_boiler_15 rfl ?_
    refine r_iconst (v := 4) C dX8_boiler_16 rfl ?_
    refine r_callSI (As := [.int w, .int 0, .int 4]) (rest := []) C dX8_boiler_17 s_X8_83 (c_X8_in l G hG M g w 0 4) (by decide) rfl rfl (Nat.le_of_ble_eq_true rfl) (Nat.le_of_ble_eq_true rfl) (Nat.le_of_ble_eq_true rfl) (fun r17 M17 g17 hp17 => ?_)
    obtain ⟨hy17, eM17, eg17⟩ := hp17
    rw [eg17]
    rw [eM17]
    refine r_if_ne (tgt := 29) C dX8_boiler_20 (by decide) (fun c20 => ?_) (fun c20 => ?_)
    ·
      obtain ⟨k, hk, hwk⟩ := nI_of2 (x := w) (M := 4) (n := 4) (by decide) (i32_nlt.mpr (hy17.t c20).1) (hy17.t c20).2
      have e8 : w.toNatClampNeg = k := by rw [hwk]; exact nI_clamp (by omega)
      refine r_aload_n C dX8_boiler_29 0 rfl ?_
      refine r_callVV (As := []) (rest := []) C dX8_boiler_30 s_X8_126 (c_X8_works l G hG M g V hW hV) (by decide) rfl rfl rfl rfl (Nat.le_of_ble_eq_true rfl) (Nat.le_of_ble_eq_true rfl) (Nat.le_of_ble_eq_true rfl) (fun M30 g30 hp30 => ?_)
      obtain ⟨⟨o30, hR30⟩, eg30⟩ := hp30
      rw [eg30]
      have hV30 := (frW.of o30).rv hV
      refine r_aload_n C dX8_boiler_33 0 rfl ?_
      refine r_callVI (As := []) (rest := []) C dX8_boiler_34 s_X8_132 (c_X8_costs l G hG M30 g V hW hV30 hR30) (by decide) rfl rfl rfl rfl (Nat.le_of_ble_eq_true rfl) (Nat.le_of_ble_eq_true rfl) (Nat.le_of_ble_eq_true rfl) (fun r34 M34 g34 hp34 => ?_)
      obtain ⟨⟨e34, hc34⟩, eg34⟩ := hp34
      rw [eg34]
      have hV34 := hc34.fr.rv hV30
      have hR34 := hc34.ok hR30
      refine r_pop C dX8_boiler_37 rfl ?_
      refine r_aload_n C dX8_boiler_38 0 rfl ?_
      refine r_aload_n C dX8_boiler_39 0 rfl ?_
      refine r_iload_n C dX8_boiler_40 1 rfl ?_
      refine r_valI (y := nI j) (hnj) ?_
      refine r_iload_n C dX8_boiler_41 2 rfl ?_
      refine r_valI (y := nI k) (hwk) ?_
      refine r_callVI (As := [.int (nI j), .int (nI k)]) (rest := [.ref (mA G 107)]) C dX8_boiler_42 s_X8_151 (c_X8_boilerOf l G hG M34 g V hW hV34 (fun b hb => hc34.ld hb) j hj k (by omega)) (by decide) rfl rfl rfl rfl (Nat.le_of_ble_eq_true rfl) (Nat.le_of_ble_eq_true rfl) (Nat.le_of_ble_eq_true rfl) (pk_I ?_)
      refine r_callVI (As := [.int (boiF V j k)]) (rest := []) C dX8_boiler_45 s_X8_44 (c_X8_tells l G hG M34 g (boiF V j k)) (by decide) rfl rfl rfl rfl (Nat.le_of_ble_eq_true rfl) (Nat.le_of_ble_eq_true rfl) (Nat.le_of_ble_eq_true rfl) (pk_I ?_)
      exact hend _ _ _ _ _ dX8_boiler_48 (rfl) (⟨mt_r hI ((frW.of o30).tr hc34.fr).t ((if_neg (not_of (hy2.t c5))).trans (if_neg (not_of (hy17.t c20)))) (by rw [e9, e8]), rfl⟩)
    ·
      refine r_aload_n C dX8_boiler_23 0 rfl ?_
      refine r_iconst (v := 2) C dX8_boiler_24 rfl ?_
      refine r_callVI (As := [.int 2]) (rest := []) C dX8_boiler_25 s_X8_95 (c_X8_fails l G hG M g 2) (by decide) rfl rfl rfl rfl (Nat.le_of_ble_eq_true rfl) (Nat.le_of_ble_eq_true rfl) (Nat.le_of_ble_eq_true rfl) (pk_I ?_)
      exact hend _ _ _ _ _ dX8_boiler_28 (rfl) (⟨mt_f 2 hI (frW.rf M).t ((if_neg (not_of (hy2.t c5))).trans (if_pos (hy17.f c20))) (by decide), rfl⟩)
  ·
    refine r_aload_n C dX8_boiler_8 0 rfl ?_
    refine r_iconst (v := 1) C dX8_boiler_9 rfl ?_
    refine r_callVI (As := [.int 1]) (rest := []) C dX8_boiler_10 s_X8_95 (c_X8_fails l G hG M g 1) (by decide) rfl rfl rfl rfl (Nat.le_of_ble_eq_true rfl) (Nat.le_of_ble_eq_true rfl) (Nat.le_of_ble_eq_true rfl) (pk_I ?_)
    exact hend _ _ _ _ _ dX8_boiler_13 (rfl) (⟨mt_f 1 hI (frW.rf M).t (if_pos (hy2.f c5)) (by decide), rfl⟩)

set_option maxRecDepth 20000 in
set_option maxHeartbeats 1000000 in
theorem c_X8_balance (l : Launch) (G : mG) (hG : mInj G) (M : Mem) (g : Glo) (V : View) (Hs : List View) (len : Nat) (T : Nat → Int32) (hW : wfV V) (hI : rINV M V Hs len T) (n : Int32) : mcI l G yX8_balance cX8_balance 2 .int 4 [.ref (mA G 107), .int n] M g (fun r M' g' => mtP M M' V Hs len T V Hs len T (eNd V n) r (balF (vD V 6) (lkF V (vD V 6)) n.toNatClampNeg) ∧ g' = g) := by
  refine mcI_of (L0 := [(0, .ref (mA G 107)), (1, .int n)]) hG (by decide) (Nat.le_of_ble_eq_true rfl) rfl ?_
  intro p e s m args below meth c Q C hend
  have hT := hW.1
  obtain ⟨hn1, hn16, hb4, ⟨hd0, hd3, hd5, hd6⟩, hpar⟩ := id hT
  have hV := hI.1
  refine r_aload_n C dX8_balance_0 0 rfl ?_
  refine r_iload_n C dX8_balance_1 1 rfl ?_
  refine r_callVI (As := [.int n]) (rest := []) C dX8_balance_2 s_X8_91 (c_X8_isNode l G hG M g V hW hV n) (by decide) rfl rfl rfl rfl (Nat.le_of_ble_eq_true rfl) (Nat.le_of_ble_eq_true rfl) (Nat.le_of_ble_eq_true rfl) (fun r2 M2 g2 hp2 => ?_)
  obtain ⟨hy2, eM2, eg2⟩ := hp2
  rw [eg2]
  rw [eM2]
  refine r_if_eq (tgt := 20) C dX8_balance_5 (by decide) (fun c5 => ?_) (fun c5 => ?_)
  ·
    refine r_aload_n C dX8_balance_20 0 rfl ?_
    refine r_iconst (v := 1) C dX8_balance_21 rfl ?_
    refine r_callVI (As := [.int 1]) (rest := []) C dX8_balance_22 s_X8_95 (c_X8_fails l G hG M g 1) (by decide) rfl rfl rfl rfl (Nat.le_of_ble_eq_true rfl) (Nat.le_of_ble_eq_true rfl) (Nat.le_of_ble_eq_true rfl) (pk_I ?_)
    exact hend _ _ _ _ _ dX8_balance_25 (rfl) (⟨mt_f 1 hI (frW.rf M).t (if_pos (hy2.f c5)) (by decide), rfl⟩)
  ·
    obtain ⟨j, hj, hnj⟩ := isNd_nI (by omega) (hy2.t c5)
    have e9 : n.toNatClampNeg = j := by rw [hnj]; exact nI_clamp (by omega)
    refine r_aload_n C dX8_balance_8 0 rfl ?_
    refine r_aload_n C dX8_balance_9 0 rfl ?_
    refine r_iload_n C dX8_balance_10 1 rfl ?_
    refine r_valI (y := nI j) (hnj) ?_
    refine r_callVI (As := [.int (nI j)]) (rest := [.ref (mA G 107)]) C dX8_balance_11 s_X8_160 (c_X8_balanceOf l G hG M g V hW hV j hj) (by decide) rfl rfl rfl rfl (Nat.le_of_ble_eq_true rfl) (Nat.le_of_ble_eq_true rfl) (Nat.le_of_ble_eq_true rfl) (pk_I ?_)
    refine r_callVI (As := [.int (balF (vD V 6) (lkF V (vD V 6)) j)]) (rest := []) C dX8_balance_14 s_X8_44 (c_X8_tells l G hG M g (balF (vD V 6) (lkF V (vD V 6)) j)) (by decide) rfl rfl rfl rfl (Nat.le_of_ble_eq_true rfl) (Nat.le_of_ble_eq_true rfl) (Nat.le_of_ble_eq_true rfl) (pk_I ?_)
    refine r_goto (tgt := 25) C dX8_balance_17 (by decide) ?_
    exact hend _ _ _ _ _ dX8_balance_25 (rfl) (⟨mt_r hI (frW.rf M).t (if_neg (not_of (hy2.t c5))) (by rw [e9]), rfl⟩)

set_option maxRecDepth 20000 in
set_option maxHeartbeats 1000000 in
theorem c_X8_region (l : Launch) (G : mG) (hG : mInj G) (M : Mem) (g : Glo) (V : View) (Hs : List View) (len : Nat) (T : Nat → Int32) (hW : wfV V) (hI : rINV M V Hs len T) (n : Int32) : mcI l G yX8_region cX8_region 2 .int 4 [.ref (mA G 107), .int n] M g (fun r M' g' => mtP M M' V Hs len T V Hs len T (eNd V n) r (balF (vD V 6) (szF V (vD V 6)) n.toNatClampNeg) ∧ g' = g) := by
  refine mcI_of (L0 := [(0, .ref (mA G 107)), (1, .int n)]) hG (by decide) (Nat.le_of_ble_eq_true rfl) rfl ?_
  intro p e s m args below meth c Q C hend
  have hT := hW.1
  obtain ⟨hn1, hn16, hb4, ⟨hd0, hd3, hd5, hd6⟩, hpar⟩ := id hT
  have hV := hI.1
  refine r_aload_n C dX8_region_0 0 rfl ?_
  refine r_iload_n C dX8_region_1 1 rfl ?_
  refine r_callVI (As := [.int n]) (rest := []) C dX8_region_2 s_X8_91 (c_X8_isNode l G hG M g V hW hV n) (by decide) rfl rfl rfl rfl (Nat.le_of_ble_eq_true rfl) (Nat.le_of_ble_eq_true rfl) (Nat.le_of_ble_eq_true rfl) (fun r2 M2 g2 hp2 => ?_)
  obtain ⟨hy2, eM2, eg2⟩ := hp2
  rw [eg2]
  rw [eM2]
  refine r_if_eq (tgt := 20) C dX8_region_5 (by decide) (fun c5 => ?_) (fun c5 => ?_)
  ·
    refine r_aload_n C dX8_region_20 0 rfl ?_
    refine r_iconst (v := 1) C dX8_region_21 rfl ?_
    refine r_callVI (As := [.int 1]) (rest := []) C dX8_region_22 s_X8_95 (c_X8_fails l G hG M g 1) (by decide) rfl rfl rfl rfl (Nat.le_of_ble_eq_true rfl) (Nat.le_of_ble_eq_true rfl) (Nat.le_of_ble_eq_true rfl) (pk_I ?_)
    exact hend _ _ _ _ _ dX8_region_25 (rfl) (⟨mt_f 1 hI (frW.rf M).t (if_pos (hy2.f c5)) (by decide), rfl⟩)
  ·
    obtain ⟨j, hj, hnj⟩ := isNd_nI (by omega) (hy2.t c5)
    have e9 : n.toNatClampNeg = j := by rw [hnj]; exact nI_clamp (by omega)
    refine r_aload_n C dX8_region_8 0 rfl ?_
    refine r_aload_n C dX8_region_9 0 rfl ?_
    refine r_iload_n C dX8_region_10 1 rfl ?_
    refine r_valI (y := nI j) (hnj) ?_
    refine r_callVI (As := [.int (nI j)]) (rest := [.ref (mA G 107)]) C dX8_region_11 s_X8_163 (c_X8_regionOf l G hG M g V hW hV j hj) (by decide) rfl rfl rfl rfl (Nat.le_of_ble_eq_true rfl) (Nat.le_of_ble_eq_true rfl) (Nat.le_of_ble_eq_true rfl) (pk_I ?_)
    refine r_callVI (As := [.int (balF (vD V 6) (szF V (vD V 6)) j)]) (rest := []) C dX8_region_14 s_X8_44 (c_X8_tells l G hG M g (balF (vD V 6) (szF V (vD V 6)) j)) (by decide) rfl rfl rfl rfl (Nat.le_of_ble_eq_true rfl) (Nat.le_of_ble_eq_true rfl) (Nat.le_of_ble_eq_true rfl) (pk_I ?_)
    refine r_goto (tgt := 25) C dX8_region_17 (by decide) ?_
    exact hend _ _ _ _ _ dX8_region_25 (rfl) (⟨mt_r hI (frW.rf M).t (if_neg (not_of (hy2.t c5))) (by rw [e9]), rfl⟩)

set_option maxRecDepth 20000 in
set_option maxHeartbeats 1000000 in
theorem c_X8_meterOf (l : Launch) (G : mG) (hG : mInj G) (M : Mem) (g : Glo) (V : View) (Hs : List View) (len : Nat) (T : Nat → Int32) (hW : wfV V) (hI : rINV M V Hs len T) (n : Int32) : mcI l G yX8_meterOf cX8_meterOf 2 .int 3 [.ref (mA G 107), .int n] M g (fun r M' g' => mtP M M' V Hs len T V Hs len T (ePp V n) r (nI (hdF V (vD V 6) n.toNatClampNeg)) ∧ g' = g) := by
  refine mcI_of (L0 := [(0, .ref (mA G 107)), (1, .int n)]) hG (by decide) (Nat.le_of_ble_eq_true rfl) rfl ?_
  intro p e s m args below meth c Q C hend
  have hT := hW.1
  obtain ⟨hn1, hn16, hb4, ⟨hd0, hd3, hd5, hd6⟩, hpar⟩ := id hT
  have hV := hI.1
  refine r_aload_n C dX8_meterOf_0 0 rfl ?_
  refine r_iload_n C dX8_meterOf_1 1 rfl ?_
  refine r_callVI (As := [.int n]) (rest := []) C dX8_meterOf_2 s_X8_115 (c_X8_isPipe l G hG M g V hW hV n) (by decide) rfl rfl rfl rfl (Nat.le_of_ble_eq_true rfl) (Nat.le_of_ble_eq_true rfl) (Nat.le_of_ble_eq_true rfl) (fun r2 M2 g2 hp2 => ?_)
  obtain ⟨hy2, eM2, eg2⟩ := hp2
  rw [eg2]
  rw [eM2]
  refine r_if_eq (tgt := 20) C dX8_meterOf_5 (by decide) (fun c5 => ?_) (fun c5 => ?_)
  ·
    refine r_aload_n C dX8_meterOf_20 0 rfl ?_
    refine r_iconst (v := 1) C dX8_meterOf_21 rfl ?_
    refine r_callVI (As := [.int 1]) (rest := []) C dX8_meterOf_22 s_X8_95 (c_X8_fails l G hG M g 1) (by decide) rfl rfl rfl rfl (Nat.le_of_ble_eq_true rfl) (Nat.le_of_ble_eq_true rfl) (Nat.le_of_ble_eq_true rfl) (pk_I ?_)
    exact hend _ _ _ _ _ dX8_meterOf_25 (rfl) (⟨mt_f 1 hI (frW.rf M).t (if_pos (hy2.f c5)) (by decide), rfl⟩)
  ·
    obtain ⟨j, hj0, hj, hnj⟩ := isPp_nI (by omega) (hy2.t c5)
    have e9 : n.toNatClampNeg = j := by rw [hnj]; exact nI_clamp (by omega)
    refine r_aload_n C dX8_meterOf_8 0 rfl ?_
    refine r_aload_n C dX8_meterOf_9 0 rfl ?_
    refine r_iload_n C dX8_meterOf_10 1 rfl ?_
    refine r_valI (y := nI j) (hnj) ?_
    refine r_callVI (As := [.int (nI j)]) (rest := [.ref (mA G 107)]) C dX8_meterOf_11 s_X8_157 (c_X8_meterAt l G hG M g V hW hV j hj) (by decide) rfl rfl rfl rfl (Nat.le_of_ble_eq_true rfl) (Nat.le_of_ble_eq_true rfl) (Nat.le_of_ble_eq_true rfl) (pk_I ?_)
    refine r_callVI (As := [.int (nI (hdF V (vD V 6) j))]) (rest := []) C dX8_meterOf_14 s_X8_44 (c_X8_tells l G hG M g (nI (hdF V (vD V 6) j))) (by decide) rfl rfl rfl rfl (Nat.le_of_ble_eq_true rfl) (Nat.le_of_ble_eq_true rfl) (Nat.le_of_ble_eq_true rfl) (pk_I ?_)
    refine r_goto (tgt := 25) C dX8_meterOf_17 (by decide) ?_
    exact hend _ _ _ _ _ dX8_meterOf_25 (rfl) (⟨mt_r hI (frW.rf M).t (if_neg (not_of (hy2.t c5))) (by rw [e9]), rfl⟩)

set_option maxRecDepth 20000 in
set_option maxHeartbeats 1000000 in
theorem c_X8_nextMeter (l : Launch) (G : mG) (hG : mInj G) (M : Mem) (g : Glo) (V : View) (Hs : List View) (len : Nat) (T : Nat → Int32) (hW : wfV V) (hI : rINV M V Hs len T) (n : Int32) : mcI l G yX8_nextMeter cX8_nextMeter 2 .int 5 [.ref (mA G 107), .int n] M g (fun r M' g' => mtP M M' V Hs len T V Hs len T (eNd V n) r (nextF V (vD V 6) n.toNatClampNeg) ∧ g' = g) := by
  refine mcI_of (L0 := [(0, .ref (mA G 107)), (1, .int n)]) hG (by decide) (Nat.le_of_ble_eq_true rfl) rfl ?_
  intro p e s m args below meth c Q C hend
  have hT := hW.1
  obtain ⟨hn1, hn16, hb4, ⟨hd0, hd3, hd5, hd6⟩, hpar⟩ := id hT
  have hV := hI.1
  refine r_aload_n C dX8_nextMeter_0 0 rfl ?_
  refine r_iload_n C dX8_nextMeter_1 1 rfl ?_
  refine r_callVI (As := [.int n]) (rest := []) C dX8_nextMeter_2 s_X8_91 (c_X8_isNode l G hG M g V hW hV n) (by decide) rfl rfl rfl rfl (Nat.le_of_ble_eq_true rfl) (Nat.le_of_ble_eq_true rfl) (Nat.le_of_ble_eq_true rfl) (fun r2 M2 g2 hp2 => ?_)
  obtain ⟨hy2, eM2, eg2⟩ := hp2
  rw [eg2]
  rw [eM2]
  refine r_if_eq (tgt := 20) C dX8_nextMeter_5 (by decide) (fun c5 => ?_) (fun c5 => ?_)
  ·
    refine r_aload_n C dX8_nextMeter_20 0 rfl ?_
    refine r_iconst (v := 1) C dX8_nextMeter_21 rfl ?_
    refine r_callVI (As := [.int 1]) (rest := []) C dX8_nextMeter_22 s_X8_95 (c_X8_fails l G hG M g 1) (by decide) rfl rfl rfl rfl (Nat.le_of_ble_eq_true rfl) (Nat.le_of_ble_eq_true rfl) (Nat.le_of_ble_eq_true rfl) (pk_I ?_)
    exact hend _ _ _ _ _ dX8_nextMeter_25 (rfl) (⟨mt_f 1 hI (frW.rf M).t (if_pos (hy2.f c5)) (by decide), rfl⟩)
  ·
    obtain ⟨j, hj, hnj⟩ := isNd_nI (by omega) (hy2.t c5)
    have e9 : n.toNatClampNeg = j := by rw [hnj]; exact nI_clamp (by omega)
    refine r_aload_n C dX8_nextMeter_8 0 rfl ?_
    refine r_aload_n C dX8_nextMeter_9 0 rfl ?_
    refine r_iload_n C dX8_nextMeter_10 1 rfl ?_
    refine r_valI (y := nI j) (hnj) ?_
    refine r_callVI (As := [.int (nI j)]) (rest := [.ref (mA G 107)]) C dX8_nextMeter_11 s_X8_169 (c_X8_nextOf l G hG M g V hW hV j hj) (by decide) rfl rfl rfl rfl (Nat.le_of_ble_eq_true rfl) (Nat.le_of_ble_eq_true rfl) (Nat.le_of_ble_eq_true rfl) (pk_I ?_)
    refine r_callVI (As := [.int (nextF V (vD V 6) j)]) (rest := []) C dX8_nextMeter_14 s_X8_44 (c_X8_tells l G hG M g (nextF V (vD V 6) j)) (by decide) rfl rfl rfl rfl (Nat.le_of_ble_eq_true rfl) (Nat.le_of_ble_eq_true rfl) (Nat.le_of_ble_eq_true rfl) (pk_I ?_)
    refine r_goto (tgt := 25) C dX8_nextMeter_17 (by decide) ?_
    exact hend _ _ _ _ _ dX8_nextMeter_25 (rfl) (⟨mt_r hI (frW.rf M).t (if_neg (not_of (hy2.t c5))) (by rw [e9]), rfl⟩)

set_option maxRecDepth 20000 in
set_option maxHeartbeats 1000000 in
theorem c_X8_suspects (l : Launch) (G : mG) (hG : mInj G) (M : Mem) (g : Glo) (V : View) (Hs : List View) (len : Nat) (T : Nat → Int32) (hW : wfV V) (hI : rINV M V Hs len T) : mcI l G yX8_suspects cX8_suspects 1 .int 5 [.ref (mA G 107)] M g (fun r M' g' => mtP M M' V Hs len T V Hs len T 0 r (susF V (vD V 6)) ∧ g' = g) := by
  refine mcI_of (L0 := [(0, .ref (mA G 107))]) hG (by decide) (Nat.le_of_ble_eq_true rfl) rfl ?_
  intro p e s m args below meth c Q C hend
  have hT := hW.1
  obtain ⟨hn1, hn16, hb4, ⟨hd0, hd3, hd5, hd6⟩, hpar⟩ := id hT
  have hV := hI.1
  refine r_aload_n C dX8_suspects_0 0 rfl ?_
  refine r_aload_n C dX8_suspects_1 0 rfl ?_
  refine r_callVI (As := []) (rest := [.ref (mA G 107)]) C dX8_suspects_2 s_X8_172 (c_X8_suspectMany l G hG M g V hW hV) (by decide) rfl rfl rfl rfl (Nat.le_of_ble_eq_true rfl) (Nat.le_of_ble_eq_true rfl) (Nat.le_of_ble_eq_true rfl) (pk_I ?_)
  refine r_callVI (As := [.int (susF V (vD V 6))]) (rest := []) C dX8_suspects_5 s_X8_44 (c_X8_tells l G hG M g (susF V (vD V 6))) (by decide) rfl rfl rfl rfl (Nat.le_of_ble_eq_true rfl) (Nat.le_of_ble_eq_true rfl) (Nat.le_of_ble_eq_true rfl) (pk_I ?_)
  exact hend _ _ _ _ _ dX8_suspects_8 (rfl) (⟨mt_r hI (frW.rf M).t rfl rfl, rfl⟩)

set_option maxRecDepth 20000 in
set_option maxHeartbeats 1000000 in
theorem c_X8_setDraw (l : Launch) (G : mG) (hG : mInj G) (M : Mem) (g : Glo) (V : View) (Hs : List View) (len : Nat) (T : Nat → Int32) (hW : wfV V) (hI : rINV M V Hs len T) (hHs : ∀ W, W ∈ Hs → wfV W) (n d t : Int32) : mcI l G yX8_setDraw cX8_setDraw 5 .int 3 [.ref (mA G 107), .int n, .int d, .int t] M g (fun r M' g' => mtP M M' V Hs len T (vSet (vSet V 3 n.toNatClampNeg d) 4 n.toNatClampNeg t) (hPush Hs V) len T (eDraw V n d t) r (vD V 3 n.toNatClampNeg) ∧ g' = g) := by
  refine mcI_of (L0 := [(0, .ref (mA G 107)), (1, .int n), (2, .int d), (3, .int t)]) hG (by decide) (Nat.le_of_ble_eq_true rfl) rfl ?_
  intro p e s m args below meth c Q C hend
  have hT := hW.1
  obtain ⟨hn1, hn16, hb4, ⟨hd0, hd3, hd5, hd6⟩, hpar⟩ := id hT
  have hV := hI.1
  refine r_aload_n C dX8_setDraw_0 0 rfl ?_
  refine r_iload_n C dX8_setDraw_1 1 rfl ?_
  refine r_callVI (As := [.int n]) (rest := []) C dX8_setDraw_2 s_X8_115 (c_X8_isPipe l G hG M g V hW hV n) (by decide) rfl rfl rfl rfl (Nat.le_of_ble_eq_true rfl) (Nat.le_of_ble_eq_true rfl) (Nat.le_of_ble_eq_true rfl) (fun r2 M2 g2 hp2 => ?_)
  obtain ⟨hy2, eM2, eg2⟩ := hp2
  rw [eg2]
  rw [eM2]
  refine r_if_ne (tgt := 14) C dX8_setDraw_5 (by decide) (fun c5 => ?_) (fun c5 => ?_)
  ·
    obtain ⟨j, hj0, hj, hnj⟩ := isPp_nI (by omega) (hy2.t c5)
    have e9 : n.toNatClampNeg = j := by rw [hnj]; exact nI_clamp (by omega)
    refine r_iload_n C dX8_setDraw_14 2 rfl ?_
    refine r_iload_n C dX8_setDraw_15 3 rfl ?_
    refine r_callSI (As := [.int d, .int t]) (rest := []) C dX8_setDraw_16 s_X8_102 (c_X8_isCustomer l G hG M g d t) (by decide) rfl rfl (Nat.le_of_ble_eq_true rfl) (Nat.le_of_ble_eq_true rfl) (Nat.le_of_ble_eq_true rfl) (fun r16 M16 g16 hp16 => ?_)
    obtain ⟨hy16, eM16, eg16⟩ := hp16
    rw [eg16]
    rw [eM16]
    refine r_if_ne (tgt := 28) C dX8_setDraw_19 (by decide) (fun c19 => ?_) (fun c19 => ?_)
    ·
      refine r_aload_n C dX8_setDraw_28 0 rfl ?_
      refine r_callVV (As := []) (rest := []) C dX8_setDraw_29 s_X8_105 (c_X8_hold l G hG M g ) (by decide) rfl rfl rfl rfl (Nat.le_of_ble_eq_true rfl) (Nat.le_of_ble_eq_true rfl) (Nat.le_of_ble_eq_true rfl) (fun M29 g29 hp29 => ?_)
      obtain ⟨⟨fh, rfl, hfh⟩, eg29⟩ := hp29
      rw [eg29]
      have hVh : rV ((mrow M 110 fh) 108) V := by rw [mrow_ne (by decide)]; exact hV
      have hAh : rV ((mrow M 110 fh) 110) V := by rw [mrow_at]; exact rV_cong hn16 hb4 (fun k hk => (hfh k hk).symm) hV
      refine r_aload_n C dX8_setDraw_32 0 rfl ?_
      refine r_iload_n C dX8_setDraw_33 1 rfl ?_
      refine r_valI (y := nI j) (hnj) ?_
      refine r_iconst (v := 3) C dX8_setDraw_34 rfl ?_
      refine r_callVI (As := [.int (nI j), .int 3]) (rest := []) C dX8_setDraw_35 s_X8_48 (c_X8_of l G hG (mrow M 110 fh) g V hW hVh j hj 3 (by decide)) (by decide) rfl rfl rfl rfl (Nat.le_of_ble_eq_true rfl) (Nat.le_of_ble_eq_true rfl) (Nat.le_of_ble_eq_true rfl) (pk_I ?_)
      refine r_istore (L' := [(4, .int (vD V 3 j)), (0, .ref (mA G 107)), (1, .int n), (2, .int d), (3, .int t)]) C dX8_setDraw_38 (by decide) rfl ?_
      refine r_aload_n C dX8_setDraw_40 1 rfl ?_
      refine r_iload_n C dX8_setDraw_41 2 rfl ?_
      refine r_valI (y := nI j) (hnj) ?_
      refine r_iconst (v := 3) C dX8_setDraw_42 rfl ?_
      refine r_iload_n C dX8_setDraw_43 3 rfl ?_
      refine r_callVV (As := [.int (nI j), .int 3, .int d]) (rest := []) C dX8_setDraw_44 s_X8_87 (c_X8_puts l G hG (mrow M 110 fh) g j 3 (by omega) (by decide) d) (by decide) rfl rfl rfl rfl (Nat.le_of_ble_eq_true rfl) (Nat.le_of_ble_eq_true rfl) (Nat.le_of_ble_eq_true rfl) (pk_V ?_)
      refine r_aload_n C dX8_setDraw_47 1 rfl ?_
      refine r_iload_n C dX8_setDraw_48 2 rfl ?_
      refine r_valI (y := nI j) (hnj) ?_
      refine r_iconst (v := 4) C dX8_setDraw_49 rfl ?_
      refine r_iload_n C dX8_setDraw_50 4 rfl ?_
      refine r_callVV (As := [.int (nI j), .int 4, .int t]) (rest := []) C dX8_setDraw_51 s_X8_87 (c_X8_puts l G hG (mset (mrow M 110 fh) 108 (9 + 8 * j + 3) d) g j 4 (by omega) (by decide) t) (by decide) rfl rfl rfl rfl (Nat.le_of_ble_eq_true rfl) (Nat.le_of_ble_eq_true rfl) (Nat.le_of_ble_eq_true rfl) (pk_V ?_)
      refine r_aload_n C dX8_setDraw_54 1 rfl ?_
      refine r_iload C dX8_setDraw_55 0 rfl ?_
      refine r_callVI (As := [.int (vD V 3 j)]) (rest := []) C dX8_setDraw_57 s_X8_112 (c_X8_ends l G hG (mset (mset (mrow M 110 fh) 108 (9 + 8 * j + 3) d) 108 (9 + 8 * j + 4) t) g V (vSet (vSet V 3 j d) 4 j t) Hs len T hHs (hd2 hI rfl rfl rfl rfl).1 (hd2 hI rfl rfl rfl rfl).2 hAh hn16 hb4 (by rw [mset_at, mset_at]; exact rV_set hn16 (rV_set hn16 hVh (by decide) hj) (by decide) hj) (vD V 3 j)) (by decide) rfl rfl rfl rfl (Nat.le_of_ble_eq_true rfl) (Nat.le_of_ble_eq_true rfl) (Nat.le_of_ble_eq_true rfl) (fun r57 M57 g57 hp57 => ?_)
      obtain ⟨⟨e57, hd57⟩, eg57⟩ := hp57
      rw [eg57]
      exact hend _ _ _ _ _ dX8_setDraw_60 (rfl) (by rw [e9]; exact ⟨mt_e hd57 (fun q hq => by rw [mset_ne (by omega), mset_ne (by omega), mrow_ne (by omega)]) ((if_neg (not_of (hy2.t c5))).trans (if_neg (not_of (hy16.t c19)))) e57, rfl⟩)
    ·
      refine r_aload_n C dX8_setDraw_22 0 rfl ?_
      refine r_iconst (v := 2) C dX8_setDraw_23 rfl ?_
      refine r_callVI (As := [.int 2]) (rest := []) C dX8_setDraw_24 s_X8_95 (c_X8_fails l G hG M g 2) (by decide) rfl rfl rfl rfl (Nat.le_of_ble_eq_true rfl) (Nat.le_of_ble_eq_true rfl) (Nat.le_of_ble_eq_true rfl) (pk_I ?_)
      exact hend _ _ _ _ _ dX8_setDraw_27 (rfl) (⟨mt_f 2 hI (frW.rf M).t ((if_neg (not_of (hy2.t c5))).trans (if_pos (hy16.f c19))) (by decide), rfl⟩)
  ·
    refine r_aload_n C dX8_setDraw_8 0 rfl ?_
    refine r_iconst (v := 1) C dX8_setDraw_9 rfl ?_
    refine r_callVI (As := [.int 1]) (rest := []) C dX8_setDraw_10 s_X8_95 (c_X8_fails l G hG M g 1) (by decide) rfl rfl rfl rfl (Nat.le_of_ble_eq_true rfl) (Nat.le_of_ble_eq_true rfl) (Nat.le_of_ble_eq_true rfl) (pk_I ?_)
    exact hend _ _ _ _ _ dX8_setDraw_13 (rfl) (⟨mt_f 1 hI (frW.rf M).t (if_pos (hy2.f c5)) (by decide), rfl⟩)

set_option maxRecDepth 20000 in
set_option maxHeartbeats 1000000 in
theorem c_X8_setLeak (l : Launch) (G : mG) (hG : mInj G) (M : Mem) (g : Glo) (V : View) (Hs : List View) (len : Nat) (T : Nat → Int32) (hW : wfV V) (hI : rINV M V Hs len T) (hHs : ∀ W, W ∈ Hs → wfV W) (n k : Int32) : mcI l G yX8_setLeak cX8_setLeak 4 .int 3 [.ref (mA G 107), .int n, .int k] M g (fun r M' g' => mtP M M' V Hs len T (vSet V 5 n.toNatClampNeg k) (hPush Hs V) len T (eLeak V n k) r (vD V 5 n.toNatClampNeg) ∧ g' = g) := by
  refine mcI_of (L0 := [(0, .ref (mA G 107)), (1, .int n), (2, .int k)]) hG (by decide) (Nat.le_of_ble_eq_true rfl) rfl ?_
  intro p e s m args below meth c Q C hend
  have hT := hW.1
  obtain ⟨hn1, hn16, hb4, ⟨hd0, hd3, hd5, hd6⟩, hpar⟩ := id hT
  have hV := hI.1
  refine r_aload_n C dX8_setLeak_0 0 rfl ?_
  refine r_iload_n C dX8_setLeak_1 1 rfl ?_
  refine r_callVI (As := [.int n]) (rest := []) C dX8_setLeak_2 s_X8_115 (c_X8_isPipe l G hG M g V hW hV n) (by decide) rfl rfl rfl rfl (Nat.le_of_ble_eq_true rfl) (Nat.le_of_ble_eq_true rfl) (Nat.le_of_ble_eq_true rfl) (fun r2 M2 g2 hp2 => ?_)
  obtain ⟨hy2, eM2, eg2⟩ := hp2
  rw [eg2]
  rw [eM2]
  refine r_if_ne (tgt := 14) C dX8_setLeak_5 (by decide) (fun c5 => ?_) (fun c5 => ?_)
  ·
    obtain ⟨j, hj0, hj, hnj⟩ := isPp_nI (by omega) (hy2.t c5)
    have e9 : n.toNatClampNeg = j := by rw [hnj]; exact nI_clamp (by omega)
    refine r_iload_n C dX8_setLeak_14 2 rfl ?_
    refine r_iconst (v := 0) C dX8_setLeak_15 rfl ?_
    refine r_bipush (v := 100) C dX8_setLeak_16 rfl ?_
    refine r_callSI (As := [.int k, .int 0, .int 100]) (rest := []) C dX8_setLeak_18 s_X8_83 (c_X8_in l G hG M g k 0 100) (by decide) rfl rfl (Nat.le_of_ble_eq_true rfl) (Nat.le_of_ble_eq_true rfl) (Nat.le_of_ble_eq_true rfl) (fun r18 M18 g18 hp18 => ?_)
    obtain ⟨hy18, eM18, eg18⟩ := hp18
    rw [eg18]
    rw [eM18]
    refine r_if_ne (tgt := 30) C dX8_setLeak_21 (by decide) (fun c21 => ?_) (fun c21 => ?_)
    ·
      refine r_aload_n C dX8_setLeak_30 0 rfl ?_
      refine r_callVV (As := []) (rest := []) C dX8_setLeak_31 s_X8_105 (c_X8_hold l G hG M g ) (by decide) rfl rfl rfl rfl (Nat.le_of_ble_eq_true rfl) (Nat.le_of_ble_eq_true rfl) (Nat.le_of_ble_eq_true rfl) (fun M31 g31 hp31 => ?_)
      obtain ⟨⟨fh, rfl, hfh⟩, eg31⟩ := hp31
      rw [eg31]
      have hVh : rV ((mrow M 110 fh) 108) V := by rw [mrow_ne (by decide)]; exact hV
      have hAh : rV ((mrow M 110 fh) 110) V := by rw [mrow_at]; exact rV_cong hn16 hb4 (fun k hk => (hfh k hk).symm) hV
      refine r_aload_n C dX8_setLeak_34 0 rfl ?_
      refine r_iload_n C dX8_setLeak_35 1 rfl ?_
      refine r_valI (y := nI j) (hnj) ?_
      refine r_iconst (v := 5) C dX8_setLeak_36 rfl ?_
      refine r_callVI (As := [.int (nI j), .int 5]) (rest := []) C dX8_setLeak_37 s_X8_48 (c_X8_of l G hG (mrow M 110 fh) g V hW hVh j hj 5 (by decide)) (by decide) rfl rfl rfl rfl (Nat.le_of_ble_eq_true rfl) (Nat.le_of_ble_eq_true rfl) (Nat.le_of_ble_eq_true rfl) (pk_I ?_)
      refine r_istore_n (L' := [(3, .int (vD V 5 j)), (0, .ref (mA G 107)), (1, .int n), (2, .int k)]) C dX8_setLeak_40 (by decide) rfl ?_
      refine r_aload_n C dX8_setLeak_41 1 rfl ?_
      refine r_iload_n C dX8_setLeak_42 2 rfl ?_
      refine r_valI (y := nI j) (hnj) ?_
      refine r_iconst (v := 5) C dX8_setLeak_43 rfl ?_
      refine r_iload_n C dX8_setLeak_44 3 rfl ?_
      refine r_callVV (As := [.int (nI j), .int 5, .int k]) (rest := []) C dX8_setLeak_45 s_X8_87 (c_X8_puts l G hG (mrow M 110 fh) g j 5 (by omega) (by decide) k) (by decide) rfl rfl rfl rfl (Nat.le_of_ble_eq_true rfl) (Nat.le_of_ble_eq_true rfl) (Nat.le_of_ble_eq_true rfl) (pk_V ?_)
      refine r_aload_n C dX8_setLeak_48 1 rfl ?_
      refine r_iload_n C dX8_setLeak_49 0 rfl ?_
      refine r_callVI (As := [.int (vD V 5 j)]) (rest := []) C dX8_setLeak_50 s_X8_112 (c_X8_ends l G hG (mset (mrow M 110 fh) 108 (9 + 8 * j + 5) k) g V (vSet V 5 j k) Hs len T hHs (hd2 hI rfl rfl rfl rfl).1 (hd2 hI rfl rfl rfl rfl).2 hAh hn16 hb4 (by rw [mset_at]; exact rV_set hn16 hVh (by decide) hj) (vD V 5 j)) (by decide) rfl rfl rfl rfl (Nat.le_of_ble_eq_true rfl) (Nat.le_of_ble_eq_true rfl) (Nat.le_of_ble_eq_true rfl) (fun r50 M50 g50 hp50 => ?_)
      obtain ⟨⟨e50, hd50⟩, eg50⟩ := hp50
      rw [eg50]
      exact hend _ _ _ _ _ dX8_setLeak_53 (rfl) (by rw [e9]; exact ⟨mt_e hd50 (fun q hq => by rw [mset_ne (by omega), mrow_ne (by omega)]) ((if_neg (not_of (hy2.t c5))).trans (if_neg (not_of (hy18.t c21)))) e50, rfl⟩)
    ·
      refine r_aload_n C dX8_setLeak_24 0 rfl ?_
      refine r_iconst (v := 2) C dX8_setLeak_25 rfl ?_
      refine r_callVI (As := [.int 2]) (rest := []) C dX8_setLeak_26 s_X8_95 (c_X8_fails l G hG M g 2) (by decide) rfl rfl rfl rfl (Nat.le_of_ble_eq_true rfl) (Nat.le_of_ble_eq_true rfl) (Nat.le_of_ble_eq_true rfl) (pk_I ?_)
      exact hend _ _ _ _ _ dX8_setLeak_29 (rfl) (⟨mt_f 2 hI (frW.rf M).t ((if_neg (not_of (hy2.t c5))).trans (if_pos (hy18.f c21))) (by decide), rfl⟩)
  ·
    refine r_aload_n C dX8_setLeak_8 0 rfl ?_
    refine r_iconst (v := 1) C dX8_setLeak_9 rfl ?_
    refine r_callVI (As := [.int 1]) (rest := []) C dX8_setLeak_10 s_X8_95 (c_X8_fails l G hG M g 1) (by decide) rfl rfl rfl rfl (Nat.le_of_ble_eq_true rfl) (Nat.le_of_ble_eq_true rfl) (Nat.le_of_ble_eq_true rfl) (pk_I ?_)
    exact hend _ _ _ _ _ dX8_setLeak_13 (rfl) (⟨mt_f 1 hI (frW.rf M).t (if_pos (hy2.f c5)) (by decide), rfl⟩)

set_option maxRecDepth 20000 in
set_option maxHeartbeats 1000000 in
theorem c_X8_setTemperatures (l : Launch) (G : mG) (hG : mInj G) (M : Mem) (g : Glo) (V : View) (Hs : List View) (len : Nat) (T : Nat → Int32) (hW : wfV V) (hI : rINV M V Hs len T) (hHs : ∀ W, W ∈ Hs → wfV W) (s9 k : Int32) : mcI l G yX8_setTemperatures cX8_setTemperatures 4 .int 3 [.ref (mA G 107), .int s9, .int k] M g (fun r M' g' => mtP M M' V Hs len T (vSc (vSc V 0 s9) 1 k) (hPush Hs V) len T (eTemp s9 k) r (vS V 0) ∧ g' = g) := by
  refine mcI_of (L0 := [(0, .ref (mA G 107)), (1, .int s9), (2, .int k)]) hG (by decide) (Nat.le_of_ble_eq_true rfl) rfl ?_
  intro p e s m args below meth c Q C hend
  have hT := hW.1
  obtain ⟨hn1, hn16, hb4, ⟨hd0, hd3, hd5, hd6⟩, hpar⟩ := id hT
  have hV := hI.1
  refine r_iload_n C dX8_setTemperatures_0 1 rfl ?_
  refine r_sipush (v := 400) C dX8_setTemperatures_1 rfl ?_
  refine r_sipush (v := 1200) C dX8_setTemperatures_4 rfl ?_
  refine r_callSI (As := [.int s9, .int 400, .int 1200]) (rest := []) C dX8_setTemperatures_7 s_X8_83 (c_X8_in l G hG M g s9 400 1200) (by decide) rfl rfl (Nat.le_of_ble_eq_true rfl) (Nat.le_of_ble_eq_true rfl) (Nat.le_of_ble_eq_true rfl) (fun r7 M7 g7 hp7 => ?_)
  obtain ⟨hy7, eM7, eg7⟩ := hp7
  rw [eg7]
  rw [eM7]
  refine r_if_eq (tgt := 26) C dX8_setTemperatures_10 (by decide) (fun c10 => ?_) (fun c10 => ?_)
  ·
    refine r_aload_n C dX8_setTemperatures_26 0 rfl ?_
    refine r_iconst (v := 1) C dX8_setTemperatures_27 rfl ?_
    refine r_callVI (As := [.int 1]) (rest := []) C dX8_setTemperatures_28 s_X8_95 (c_X8_fails l G hG M g 1) (by decide) rfl rfl rfl rfl (Nat.le_of_ble_eq_true rfl) (Nat.le_of_ble_eq_true rfl) (Nat.le_of_ble_eq_true rfl) (pk_I ?_)
    exact hend _ _ _ _ _ dX8_setTemperatures_31 (rfl) (⟨mt_f 1 hI (frW.rf M).t (if_pos (fun z => hy7.f c10 z.1)) (by decide), rfl⟩)
  ·
    refine r_iload_n C dX8_setTemperatures_13 2 rfl ?_
    refine r_sipush (v := (-200)) C dX8_setTemperatures_14 rfl ?_
    refine r_sipush (v := 300) C dX8_setTemperatures_17 rfl ?_
    refine r_callSI (As := [.int k, .int (-200), .int 300]) (rest := []) C dX8_setTemperatures_20 s_X8_83 (c_X8_in l G hG M g k (-200) 300) (by decide) rfl rfl (Nat.le_of_ble_eq_true rfl) (Nat.le_of_ble_eq_true rfl) (Nat.le_of_ble_eq_true rfl) (fun r20 M20 g20 hp20 => ?_)
    obtain ⟨hy20, eM20, eg20⟩ := hp20
    rw [eg20]
    rw [eM20]
    refine r_if_ne (tgt := 32) C dX8_setTemperatures_23 (by decide) (fun c23 => ?_) (fun c23 => ?_)
    ·
      refine r_aload_n C dX8_setTemperatures_32 0 rfl ?_
      refine r_callVV (As := []) (rest := []) C dX8_setTemperatures_33 s_X8_105 (c_X8_hold l G hG M g ) (by decide) rfl rfl rfl rfl (Nat.le_of_ble_eq_true rfl) (Nat.le_of_ble_eq_true rfl) (Nat.le_of_ble_eq_true rfl) (fun M33 g33 hp33 => ?_)
      obtain ⟨⟨fh, rfl, hfh⟩, eg33⟩ := hp33
      rw [eg33]
      have hVh : rV ((mrow M 110 fh) 108) V := by rw [mrow_ne (by decide)]; exact hV
      have hAh : rV ((mrow M 110 fh) 110) V := by rw [mrow_at]; exact rV_cong hn16 hb4 (fun k hk => (hfh k hk).symm) hV
      refine r_aload_n C dX8_setTemperatures_36 0 rfl ?_
      refine r_getr (q2 := 108) C dX8_setTemperatures_37 0 f_X8_7 rfl rfl ?_
      refine r_iconst (v := 0) C dX8_setTemperatures_40 rfl ?_
      refine r_ialdN (j := 0) (v := vS V 0) C dX8_setTemperatures_41 rfl (rfl) (by omega) (by decide) (hVh.2.1.1) ?_
      refine r_istore_n (L' := [(3, .int (vS V 0)), (0, .ref (mA G 107)), (1, .int s9), (2, .int k)]) C dX8_setTemperatures_42 (by decide) rfl ?_
      refine r_aload_n C dX8_setTemperatures_43 1 rfl ?_
      refine r_getr (q2 := 108) C dX8_setTemperatures_44 0 f_X8_7 rfl rfl ?_
      refine r_iconst (v := 0) C dX8_setTemperatures_47 rfl ?_
      refine r_iload_n C dX8_setTemperatures_48 2 rfl ?_
      refine r_iastN (j := 0) C dX8_setTemperatures_49 rfl (rfl) (by omega) (by decide) ?_
      refine r_aload_n C dX8_setTemperatures_50 1 rfl ?_
      refine r_getr (q2 := 108) C dX8_setTemperatures_51 0 f_X8_7 rfl rfl ?_
      refine r_iconst (v := 1) C dX8_setTemperatures_54 rfl ?_
      refine r_iload_n C dX8_setTemperatures_55 3 rfl ?_
      refine r_iastN (j := 1) C dX8_setTemperatures_56 rfl (rfl) (by omega) (by decide) ?_
      refine r_aload_n C dX8_setTemperatures_57 1 rfl ?_
      refine r_iload_n C dX8_setTemperatures_58 0 rfl ?_
      refine r_callVI (As := [.int (vS V 0)]) (rest := []) C dX8_setTemperatures_59 s_X8_112 (c_X8_ends l G hG (mset (mset (mrow M 110 fh) 108 0 s9) 108 1 k) g V (vSc (vSc V 0 s9) 1 k) Hs len T hHs (hd2 hI rfl rfl rfl rfl).1 (hd2 hI rfl rfl rfl rfl).2 hAh hn16 hb4 (by rw [mset_at, mset_at]; exact rV_sc 1 (by decide) (rV_sc 0 (by decide) hVh)) (vS V 0)) (by decide) rfl rfl rfl rfl (Nat.le_of_ble_eq_true rfl) (Nat.le_of_ble_eq_true rfl) (Nat.le_of_ble_eq_true rfl) (fun r59 M59 g59 hp59 => ?_)
      obtain ⟨⟨e59, hd59⟩, eg59⟩ := hp59
      rw [eg59]
      exact hend _ _ _ _ _ dX8_setTemperatures_62 (rfl) (by exact ⟨mt_e hd59 (fun q hq => by rw [mset_ne (by omega), mset_ne (by omega), mrow_ne (by omega)]) (if_neg (not_of ⟨hy7.t c10, hy20.t c23⟩)) e59, rfl⟩)
    ·
      refine r_aload_n C dX8_setTemperatures_26 0 rfl ?_
      refine r_iconst (v := 1) C dX8_setTemperatures_27 rfl ?_
      refine r_callVI (As := [.int 1]) (rest := []) C dX8_setTemperatures_28 s_X8_95 (c_X8_fails l G hG M g 1) (by decide) rfl rfl rfl rfl (Nat.le_of_ble_eq_true rfl) (Nat.le_of_ble_eq_true rfl) (Nat.le_of_ble_eq_true rfl) (pk_I ?_)
      exact hend _ _ _ _ _ dX8_setTemperatures_31 (rfl) (⟨mt_f 1 hI (frW.rf M).t (if_pos (fun z => hy20.f c23 z.2)) (by decide), rfl⟩)

set_option maxRecDepth 20000 in
set_option maxHeartbeats 1000000 in
theorem c_X8_addNode (l : Launch) (G : mG) (hG : mInj G) (M : Mem) (g : Glo) (V : View) (Hs : List View) (len : Nat) (T : Nat → Int32) (hW : wfV V) (hI : rINV M V Hs len T) (hHs : ∀ W, W ∈ Hs → wfV W) (a l9 s9 d t : Int32) : mcI l G yX8_addNode cX8_addNode 6 .int 3 [.ref (mA G 107), .int a, .int l9, .int s9, .int d, .int t] M g (fun r M' g' => mtP M M' V Hs len T (vAdd V a l9 s9 d t) (hPush Hs V) len T (eAdd V a l9 s9 d t) r (nI (vN V)) ∧ g' = g) := by
  refine mcI_of (L0 := [(0, .ref (mA G 107)), (1, .int a), (2, .int l9), (3, .int s9), (4, .int d), (5, .int t)]) hG (by decide) (Nat.le_of_ble_eq_true rfl) rfl ?_
  intro p e s m args below meth c Q C hend
  have hT := hW.1
  obtain ⟨hn1, hn16, hb4, ⟨hd0, hd3, hd5, hd6⟩, hpar⟩ := id hT
  have hV := hI.1
  refine r_aload_n C dX8_addNode_0 0 rfl ?_
  refine r_iload_n C dX8_addNode_1 1 rfl ?_
  refine r_callVI (As := [.int a]) (rest := []) C dX8_addNode_2 s_X8_91 (c_X8_isNode l G hG M g V hW hV a) (by decide) rfl rfl rfl rfl (Nat.le_of_ble_eq_true rfl) (Nat.le_of_ble_eq_true rfl) (Nat.le_of_ble_eq_true rfl) (fun r2 M2 g2 hp2 => ?_)
  obtain ⟨hy2, eM2, eg2⟩ := hp2
  rw [eg2]
  rw [eM2]
  refine r_if_ne (tgt := 14) C dX8_addNode_5 (by decide) (fun c5 => ?_) (fun c5 => ?_)
  ·
    refine r_iload_n C dX8_addNode_14 2 rfl ?_
    refine r_iload_n C dX8_addNode_15 3 rfl ?_
    refine r_callSI (As := [.int l9, .int s9]) (rest := []) C dX8_addNode_16 s_X8_98 (c_X8_isPipe_ l G hG M g l9 s9) (by decide) rfl rfl (Nat.le_of_ble_eq_true rfl) (Nat.le_of_ble_eq_true rfl) (Nat.le_of_ble_eq_true rfl) (fun r16 M16 g16 hp16 => ?_)
    obtain ⟨hy16, eM16, eg16⟩ := hp16
    rw [eg16]
    rw [eM16]
    refine r_if_eq (tgt := 32) C dX8_addNode_19 (by decide) (fun c19 => ?_) (fun c19 => ?_)
    ·
      refine r_aload_n C dX8_addNode_32 0 rfl ?_
      refine r_iconst (v := 2) C dX8_addNode_33 rfl ?_
      refine r_callVI (As := [.int 2]) (rest := []) C dX8_addNode_34 s_X8_95 (c_X8_fails l G hG M g 2) (by decide) rfl rfl rfl rfl (Nat.le_of_ble_eq_true rfl) (Nat.le_of_ble_eq_true rfl) (Nat.le_of_ble_eq_true rfl) (pk_I ?_)
      exact hend _ _ _ _ _ dX8_addNode_37 (rfl) (⟨mt_f 2 hI (frW.rf M).t ((if_neg (not_of (hy2.t c5))).trans (if_pos (fun z => hy16.f c19 ⟨z.1, z.2.1⟩))) (by decide), rfl⟩)
    ·
      refine r_iload C dX8_addNode_22 4 rfl ?_
      refine r_iload C dX8_addNode_24 5 rfl ?_
      refine r_callSI (As := [.int d, .int t]) (rest := []) C dX8_addNode_26 s_X8_102 (c_X8_isCustomer l G hG M g d t) (by decide) rfl rfl (Nat.le_of_ble_eq_true rfl) (Nat.le_of_ble_eq_true rfl) (Nat.le_of_ble_eq_true rfl) (fun r26 M26 g26 hp26 => ?_)
      obtain ⟨hy26, eM26, eg26⟩ := hp26
      rw [eg26]
      rw [eM26]
      refine r_if_ne (tgt := 38) C dX8_addNode_29 (by decide) (fun c29 => ?_) (fun c29 => ?_)
      ·
        refine r_aload_n C dX8_addNode_38 0 rfl ?_
        refine r_getr (q2 := 108) C dX8_addNode_39 0 f_X8_7 rfl rfl ?_
        refine r_iconst (v := 5) C dX8_addNode_42 rfl ?_
        refine r_ialdN (j := 5) (v := nI (vN V)) C dX8_addNode_43 rfl (rfl) (by omega) (by decide) (hV.1.1) ?_
        refine r_bipush (v := 16) C dX8_addNode_44 rfl ?_
        refine r_icmp_ne (tgt := 55) C dX8_addNode_46 (by decide) (fun c46 => ?_) (fun c46 => ?_)
        ·
          have hlt16 : vN V < 16 := by rcases Nat.lt_or_ge (vN V) 16 with q | q; exact q; exact absurd (show nI (vN V) = 16 by rw [show vN V = 16 by omega]; rfl) c46
          refine r_aload_n C dX8_addNode_55 0 rfl ?_
          refine r_callVV (As := []) (rest := []) C dX8_addNode_56 s_X8_105 (c_X8_hold l G hG M g ) (by decide) rfl rfl rfl rfl (Nat.le_of_ble_eq_true rfl) (Nat.le_of_ble_eq_true rfl) (Nat.le_of_ble_eq_true rfl) (fun M56 g56 hp56 => ?_)
          obtain ⟨⟨fh, rfl, hfh⟩, eg56⟩ := hp56
          rw [eg56]
          have hVh : rV ((mrow M 110 fh) 108) V := by rw [mrow_ne (by decide)]; exact hV
          have hAh : rV ((mrow M 110 fh) 110) V := by rw [mrow_at]; exact rV_cong hn16 hb4 (fun k hk => (hfh k hk).symm) hV
          refine r_aload_n C dX8_addNode_59 0 rfl ?_
          refine r_iload_n C dX8_addNode_60 1 rfl ?_
          refine r_iload_n C dX8_addNode_61 2 rfl ?_
          refine r_iload_n C dX8_addNode_62 3 rfl ?_
          refine r_iload C dX8_addNode_63 4 rfl ?_
          refine r_iload C dX8_addNode_65 5 rfl ?_
          refine r_callVV (As := [.int a, .int l9, .int s9, .int d, .int t]) (rest := []) C dX8_addNode_67 s_X8_108 (c_X8_adds l G hG (mrow M 110 fh) g V hVh hlt16 a l9 s9 d t) (by decide) rfl rfl rfl rfl (Nat.le_of_ble_eq_true rfl) (Nat.le_of_ble_eq_true rfl) (Nat.le_of_ble_eq_true rfl) (pk_V ?_)
          refine r_aload_n C dX8_addNode_70 0 rfl ?_
          refine r_aload_n C dX8_addNode_71 0 rfl ?_
          refine r_getr (q2 := 108) C dX8_addNode_72 0 f_X8_7 rfl rfl ?_
          refine r_iconst (v := 5) C dX8_addNode_75 rfl ?_
          refine r_ialdN (j := 5) (v := nI (vN V + 1)) C dX8_addNode_76 rfl (rfl) (by omega) (by decide) (by rw [mrow_at]; exact (rV_add hlt16 hVh).1.1) ?_
          refine r_iconst (v := 1) C dX8_addNode_77 rfl ?_
          refine r_isub C dX8_addNode_78 ?_
          refine r_valI (y := nI (vN V)) (nI_pred _) ?_
          refine r_callVI (As := [.int (nI (vN V))]) (rest := []) C dX8_addNode_79 s_X8_112 (c_X8_ends l G hG (mrow (mrow M 110 fh) 108 (ad8 ((mrow M 110 fh) 108) (vN V) a l9 s9 d t)) g V (vAdd V a l9 s9 d t) Hs len T hHs (hd2 hI rfl rfl rfl rfl).1 (hd2 hI rfl rfl rfl rfl).2 hAh hn16 hb4 (by rw [mrow_at]; exact rV_add hlt16 hVh) (nI (vN V))) (by decide) rfl rfl rfl rfl (Nat.le_of_ble_eq_true rfl) (Nat.le_of_ble_eq_true rfl) (Nat.le_of_ble_eq_true rfl) (fun r79 M79 g79 hp79 => ?_)
          obtain ⟨⟨e79, hd79⟩, eg79⟩ := hp79
          rw [eg79]
          exact hend _ _ _ _ _ dX8_addNode_82 (rfl) (by exact ⟨mt_e hd79 (fun q hq => by rw [mrow_ne (by omega), mrow_ne (by omega)]) ((if_neg (not_of (hy2.t c5))).trans ((if_neg (not_of ⟨(hy16.t c19).1, (hy16.t c19).2, (hy26.t c29).1, (hy26.t c29).2⟩)).trans (if_neg (by omega)))) e79, rfl⟩)
        ·
          have h16 : vN V = 16 := (nI_eq (b := 16) (by omega) (by decide)).mp c46
          refine r_aload_n C dX8_addNode_49 0 rfl ?_
          refine r_iconst (v := 3) C dX8_addNode_50 rfl ?_
          refine r_callVI (As := [.int 3]) (rest := []) C dX8_addNode_51 s_X8_95 (c_X8_fails l G hG M g 3) (by decide) rfl rfl rfl rfl (Nat.le_of_ble_eq_true rfl) (Nat.le_of_ble_eq_true rfl) (Nat.le_of_ble_eq_true rfl) (pk_I ?_)
          exact hend _ _ _ _ _ dX8_addNode_54 (rfl) (⟨mt_f 3 hI (frW.rf M).t ((if_neg (not_of (hy2.t c5))).trans ((if_neg (not_of ⟨(hy16.t c19).1, (hy16.t c19).2, (hy26.t c29).1, (hy26.t c29).2⟩)).trans (if_pos h16))) (by decide), rfl⟩)
      ·
        refine r_aload_n C dX8_addNode_32 0 rfl ?_
        refine r_iconst (v := 2) C dX8_addNode_33 rfl ?_
        refine r_callVI (As := [.int 2]) (rest := []) C dX8_addNode_34 s_X8_95 (c_X8_fails l G hG M g 2) (by decide) rfl rfl rfl rfl (Nat.le_of_ble_eq_true rfl) (Nat.le_of_ble_eq_true rfl) (Nat.le_of_ble_eq_true rfl) (pk_I ?_)
        exact hend _ _ _ _ _ dX8_addNode_37 (rfl) (⟨mt_f 2 hI (frW.rf M).t ((if_neg (not_of (hy2.t c5))).trans (if_pos (fun z => hy26.f c29 ⟨z.2.2.1, z.2.2.2⟩))) (by decide), rfl⟩)
  ·
    refine r_aload_n C dX8_addNode_8 0 rfl ?_
    refine r_iconst (v := 1) C dX8_addNode_9 rfl ?_
    refine r_callVI (As := [.int 1]) (rest := []) C dX8_addNode_10 s_X8_95 (c_X8_fails l G hG M g 1) (by decide) rfl rfl rfl rfl (Nat.le_of_ble_eq_true rfl) (Nat.le_of_ble_eq_true rfl) (Nat.le_of_ble_eq_true rfl) (pk_I ?_)
    exact hend _ _ _ _ _ dX8_addNode_13 (rfl) (⟨mt_f 1 hI (frW.rf M).t (if_pos (hy2.f c5)) (by decide), rfl⟩)

set_option maxRecDepth 20000 in
set_option maxHeartbeats 1000000 in
theorem c_X8_addBoiler (l : Launch) (G : mG) (hG : mInj G) (M : Mem) (g : Glo) (V : View) (Hs : List View) (len : Nat) (T : Nat → Int32) (hW : wfV V) (hI : rINV M V Hs len T) (hHs : ∀ W, W ∈ Hs → wfV W) (a l9 s9 : Int32) : mcI l G yX8_addBoiler cX8_addBoiler 5 .int 3 [.ref (mA G 107), .int a, .int l9, .int s9] M g (fun r M' g' => mtP M M' V Hs len T (vBoi V a l9 s9) (hPush Hs V) len T (eBoi V a l9 s9) r (nI (vB V)) ∧ g' = g) := by
  refine mcI_of (L0 := [(0, .ref (mA G 107)), (1, .int a), (2, .int l9), (3, .int s9)]) hG (by decide) (Nat.le_of_ble_eq_true rfl) rfl ?_
  intro p e s m args below meth c Q C hend
  have hT := hW.1
  obtain ⟨hn1, hn16, hb4, ⟨hd0, hd3, hd5, hd6⟩, hpar⟩ := id hT
  have hV := hI.1
  refine r_iload_n C dX8_addBoiler_0 1 rfl ?_
  refine r_iconst (v := 1) C dX8_addBoiler_1 rfl ?_
  refine r_ldc (v := 9999999) C dX8_addBoiler_2 (gd_t 1062 (by decide +kernel) rfl) ?_
  refine r_callSI (As := [.int a, .int 1, .int 9999999]) (rest := []) C dX8_addBoiler_4 s_X8_83 (c_X8_in l G hG M g a 1 9999999) (by decide) rfl rfl (Nat.le_of_ble_eq_true rfl) (Nat.le_of_ble_eq_true rfl) (Nat.le_of_ble_eq_true rfl) (fun r4 M4 g4 hp4 => ?_)
  obtain ⟨hy4, eM4, eg4⟩ := hp4
  rw [eg4]
  rw [eM4]
  refine r_if_eq (tgt := 29) C dX8_addBoiler_7 (by decide) (fun c7 => ?_) (fun c7 => ?_)
  ·
    refine r_aload_n C dX8_addBoiler_29 0 rfl ?_
    refine r_iconst (v := 1) C dX8_addBoiler_30 rfl ?_
    refine r_callVI (As := [.int 1]) (rest := []) C dX8_addBoiler_31 s_X8_95 (c_X8_fails l G hG M g 1) (by decide) rfl rfl rfl rfl (Nat.le_of_ble_eq_true rfl) (Nat.le_of_ble_eq_true rfl) (Nat.le_of_ble_eq_true rfl) (pk_I ?_)
    exact hend _ _ _ _ _ dX8_addBoiler_34 (rfl) (⟨mt_f 1 hI (frW.rf M).t (if_pos (fun z => hy4.f c7 z.1)) (by decide), rfl⟩)
  ·
    refine r_iload_n C dX8_addBoiler_10 2 rfl ?_
    refine r_iconst (v := 0) C dX8_addBoiler_11 rfl ?_
    refine r_iload_n C dX8_addBoiler_12 1 rfl ?_
    refine r_callSI (As := [.int l9, .int 0, .int a]) (rest := []) C dX8_addBoiler_13 s_X8_83 (c_X8_in l G hG M g l9 0 a) (by decide) rfl rfl (Nat.le_of_ble_eq_true rfl) (Nat.le_of_ble_eq_true rfl) (Nat.le_of_ble_eq_true rfl) (fun r13 M13 g13 hp13 => ?_)
    obtain ⟨hy13, eM13, eg13⟩ := hp13
    rw [eg13]
    rw [eM13]
    refine r_if_eq (tgt := 29) C dX8_addBoiler_16 (by decide) (fun c16 => ?_) (fun c16 => ?_)
    ·
      refine r_aload_n C dX8_addBoiler_29 0 rfl ?_
      refine r_iconst (v := 1) C dX8_addBoiler_30 rfl ?_
      refine r_callVI (As := [.int 1]) (rest := []) C dX8_addBoiler_31 s_X8_95 (c_X8_fails l G hG M g 1) (by decide) rfl rfl rfl rfl (Nat.le_of_ble_eq_true rfl) (Nat.le_of_ble_eq_true rfl) (Nat.le_of_ble_eq_true rfl) (pk_I ?_)
      exact hend _ _ _ _ _ dX8_addBoiler_34 (rfl) (⟨mt_f 1 hI (frW.rf M).t (if_pos (fun z => hy13.f c16 z.2.1)) (by decide), rfl⟩)
    ·
      refine r_iload_n C dX8_addBoiler_19 3 rfl ?_
      refine r_iconst (v := 0) C dX8_addBoiler_20 rfl ?_
      refine r_bipush (v := 99) C dX8_addBoiler_21 rfl ?_
      refine r_callSI (As := [.int s9, .int 0, .int 99]) (rest := []) C dX8_addBoiler_23 s_X8_83 (c_X8_in l G hG M g s9 0 99) (by decide) rfl rfl (Nat.le_of_ble_eq_true rfl) (Nat.le_of_ble_eq_true rfl) (Nat.le_of_ble_eq_true rfl) (fun r23 M23 g23 hp23 => ?_)
      obtain ⟨hy23, eM23, eg23⟩ := hp23
      rw [eg23]
      rw [eM23]
      refine r_if_ne (tgt := 35) C dX8_addBoiler_26 (by decide) (fun c26 => ?_) (fun c26 => ?_)
      ·
        refine r_aload_n C dX8_addBoiler_35 0 rfl ?_
        refine r_getr (q2 := 108) C dX8_addBoiler_36 0 f_X8_7 rfl rfl ?_
        refine r_bipush (v := 6) C dX8_addBoiler_39 rfl ?_
        refine r_ialdN (j := 6) (v := nI (vB V)) C dX8_addBoiler_41 rfl (rfl) (by omega) (by decide) (hV.1.2) ?_
        refine r_iconst (v := 4) C dX8_addBoiler_42 rfl ?_
        refine r_icmp_ne (tgt := 52) C dX8_addBoiler_43 (by decide) (fun c43 => ?_) (fun c43 => ?_)
        ·
          have hlt4 : vB V < 4 := by rcases Nat.lt_or_ge (vB V) 4 with q | q; exact q; exact absurd (show nI (vB V) = 4 by rw [show vB V = 4 by omega]; rfl) c43
          refine r_aload_n C dX8_addBoiler_52 0 rfl ?_
          refine r_callVV (As := []) (rest := []) C dX8_addBoiler_53 s_X8_105 (c_X8_hold l G hG M g ) (by decide) rfl rfl rfl rfl (Nat.le_of_ble_eq_true rfl) (Nat.le_of_ble_eq_true rfl) (Nat.le_of_ble_eq_true rfl) (fun M53 g53 hp53 => ?_)
          obtain ⟨⟨fh, rfl, hfh⟩, eg53⟩ := hp53
          rw [eg53]
          have hVh : rV ((mrow M 110 fh) 108) V := by rw [mrow_ne (by decide)]; exact hV
          have hAh : rV ((mrow M 110 fh) 110) V := by rw [mrow_at]; exact rV_cong hn16 hb4 (fun k hk => (hfh k hk).symm) hV
          refine r_sipush (v := 137) C dX8_addBoiler_56 rfl ?_
          refine r_iconst (v := 3) C dX8_addBoiler_59 rfl ?_
          refine r_aload_n C dX8_addBoiler_60 0 rfl ?_
          refine r_getr (q2 := 108) C dX8_addBoiler_61 0 f_X8_7 rfl rfl ?_
          refine r_bipush (v := 6) C dX8_addBoiler_64 rfl ?_
          refine r_ialdN (j := 6) (v := nI (vB V)) C dX8_addBoiler_66 rfl (rfl) (by omega) (by decide) (hVh.1.2) ?_
          refine r_imul C dX8_addBoiler_67 ?_
          refine r_iadd C dX8_addBoiler_68 ?_
          refine r_valI (y := nI (137 + 3 * vB V)) (ix3n _) ?_
          refine r_istore (L' := [(4, .int (nI (137 + 3 * vB V))), (0, .ref (mA G 107)), (1, .int a), (2, .int l9), (3, .int s9)]) C dX8_addBoiler_69 (by decide) rfl ?_
          refine r_aload_n C dX8_addBoiler_71 1 rfl ?_
          refine r_getr (q2 := 108) C dX8_addBoiler_72 0 f_X8_7 rfl rfl ?_
          refine r_iload C dX8_addBoiler_75 0 rfl ?_
          refine r_iload_n C dX8_addBoiler_77 2 rfl ?_
          refine r_iastN (j := 137 + 3 * vB V) C dX8_addBoiler_78 rfl (rfl) (by omega) (by decide) ?_
          refine r_aload_n C dX8_addBoiler_79 1 rfl ?_
          refine r_getr (q2 := 108) C dX8_addBoiler_80 0 f_X8_7 rfl rfl ?_
          refine r_iload C dX8_addBoiler_83 0 rfl ?_
          refine r_iconst (v := 1) C dX8_addBoiler_85 rfl ?_
          refine r_iadd C dX8_addBoiler_86 ?_
          refine r_valI (y := nI (137 + 3 * vB V + 1)) (nI_1 _) ?_
          refine r_iload_n C dX8_addBoiler_87 3 rfl ?_
          refine r_iastN (j := 137 + 3 * vB V + 1) C dX8_addBoiler_88 rfl (rfl) (by omega) (by decide) ?_
          refine r_aload_n C dX8_addBoiler_89 1 rfl ?_
          refine r_getr (q2 := 108) C dX8_addBoiler_90 0 f_X8_7 rfl rfl ?_
          refine r_iload C dX8_addBoiler_93 0 rfl ?_
          refine r_iconst (v := 2) C dX8_addBoiler_95 rfl ?_
          refine r_iadd C dX8_addBoiler_96 ?_
          refine r_valI (y := nI (137 + 3 * vB V + 2)) (nI_add _ 2) ?_
          refine r_iload_n C dX8_addBoiler_97 4 rfl ?_
          refine r_iastN (j := 137 + 3 * vB V + 2) C dX8_addBoiler_98 rfl (rfl) (by omega) (by decide) ?_
          refine r_aload_n C dX8_addBoiler_99 1 rfl ?_
          refine r_getr (q2 := 108) C dX8_addBoiler_100 0 f_X8_7 rfl rfl ?_
          refine r_bipush (v := 6) C dX8_addBoiler_103 rfl ?_
          refine r_dup2 C dX8_addBoiler_105 rfl rfl ?_
          refine r_ialdN (j := 6) (v := nI (vB V)) C dX8_addBoiler_106 rfl (rfl) (by omega) (by decide) (by rw [mset_at, upd_ne (by omega), mset_at, upd_ne (by omega), mset_at, upd_ne (by omega)]; exact hVh.1.2) ?_
          refine r_iconst (v := 1) C dX8_addBoiler_107 rfl ?_
          refine r_iadd C dX8_addBoiler_108 ?_
          refine r_valI (y := nI (vB V + 1)) (nI_1 _) ?_
          refine r_iastN (j := 6) C dX8_addBoiler_109 rfl (rfl) (by omega) (by decide) ?_
          refine r_mem (M' := mrow (mrow M 110 fh) 108 (bo3 (mrow M 110 fh 108) (vB V) a l9 s9)) (by unfold bo3; simp only [mset_eq, mrow_at, mrow_mrow]) ?_
          refine r_aload_n C dX8_addBoiler_110 1 rfl ?_
          refine r_aload_n C dX8_addBoiler_111 1 rfl ?_
          refine r_getr (q2 := 108) C dX8_addBoiler_112 0 f_X8_7 rfl rfl ?_
          refine r_bipush (v := 6) C dX8_addBoiler_115 rfl ?_
          refine r_ialdN (j := 6) (v := nI (vB V + 1)) C dX8_addBoiler_117 rfl (rfl) (by omega) (by decide) (by rw [mrow_at]; exact (rV_boi hn16 hVh).1.2) ?_
          refine r_iconst (v := 1) C dX8_addBoiler_118 rfl ?_
          refine r_isub C dX8_addBoiler_119 ?_
          refine r_valI (y := nI (vB V)) (nI_pred _) ?_
          refine r_callVI (As := [.int (nI (vB V))]) (rest := []) C dX8_addBoiler_120 s_X8_112 (c_X8_ends l G hG (mrow (mrow M 110 fh) 108 (bo3 (mrow M 110 fh 108) (vB V) a l9 s9)) g V (vBoi V a l9 s9) Hs len T hHs (hd2 hI rfl rfl rfl rfl).1 (hd2 hI rfl rfl rfl rfl).2 hAh hn16 hb4 (by rw [mrow_at]; exact rV_boi hn16 hVh) (nI (vB V))) (by decide) rfl rfl rfl rfl (Nat.le_of_ble_eq_true rfl) (Nat.le_of_ble_eq_true rfl) (Nat.le_of_ble_eq_true rfl) (fun r120 M120 g120 hp120 => ?_)
          obtain ⟨⟨e120, hd120⟩, eg120⟩ := hp120
          rw [eg120]
          exact hend _ _ _ _ _ dX8_addBoiler_123 (rfl) (by exact ⟨mt_e hd120 (fun q hq => by rw [mrow_ne (by omega), mrow_ne (by omega)]) ((if_neg (not_of ⟨hy4.t c7, hy13.t c16, hy23.t c26⟩)).trans (if_neg (by omega))) e120, rfl⟩)
        ·
          have h4 : vB V = 4 := (nI_eq (b := 4) (by omega) (by decide)).mp c43
          refine r_aload_n C dX8_addBoiler_46 0 rfl ?_
          refine r_iconst (v := 2) C dX8_addBoiler_47 rfl ?_
          refine r_callVI (As := [.int 2]) (rest := []) C dX8_addBoiler_48 s_X8_95 (c_X8_fails l G hG M g 2) (by decide) rfl rfl rfl rfl (Nat.le_of_ble_eq_true rfl) (Nat.le_of_ble_eq_true rfl) (Nat.le_of_ble_eq_true rfl) (pk_I ?_)
          exact hend _ _ _ _ _ dX8_addBoiler_51 (rfl) (⟨mt_f 2 hI (frW.rf M).t ((if_neg (not_of ⟨hy4.t c7, hy13.t c16, hy23.t c26⟩)).trans (if_pos h4)) (by decide), rfl⟩)
      ·
        refine r_aload_n C dX8_addBoiler_29 0 rfl ?_
        refine r_iconst (v := 1) C dX8_addBoiler_30 rfl ?_
        refine r_callVI (As := [.int 1]) (rest := []) C dX8_addBoiler_31 s_X8_95 (c_X8_fails l G hG M g 1) (by decide) rfl rfl rfl rfl (Nat.le_of_ble_eq_true rfl) (Nat.le_of_ble_eq_true rfl) (Nat.le_of_ble_eq_true rfl) (pk_I ?_)
        exact hend _ _ _ _ _ dX8_addBoiler_34 (rfl) (⟨mt_f 1 hI (frW.rf M).t (if_pos (fun z => hy23.f c26 z.2.2)) (by decide), rfl⟩)

set_option maxRecDepth 20000 in
set_option maxHeartbeats 1000000 in
theorem c_X8_setCost (l : Launch) (G : mG) (hG : mInj G) (M : Mem) (g : Glo) (V : View) (Hs : List View) (len : Nat) (T : Nat → Int32) (hW : wfV V) (hI : rINV M V Hs len T) (hHs : ∀ W, W ∈ Hs → wfV W) (n x : Int32) : mcI l G yX8_setCost cX8_setCost 4 .int 3 [.ref (mA G 107), .int n, .int x] M g (fun r M' g' => mtP M M' V Hs len T (vBo V 2 n.toNatClampNeg x) (hPush Hs V) len T (eCost V n x) r (vO V 2 n.toNatClampNeg) ∧ g' = g) := by
  refine mcI_of (L0 := [(0, .ref (mA G 107)), (1, .int n), (2, .int x)]) hG (by decide) (Nat.le_of_ble_eq_true rfl) rfl ?_
  intro p e s m args below meth c Q C hend
  have hT := hW.1
  obtain ⟨hn1, hn16, hb4, ⟨hd0, hd3, hd5, hd6⟩, hpar⟩ := id hT
  have hV := hI.1
  refine r_aload_n C dX8_setCost_0 0 rfl ?_
  refine r_iload_n C dX8_setCost_1 1 rfl ?_
  refine r_callVI (As := [.int n]) (rest := []) C dX8_setCost_2 s_X8_148 (c_X8_isBoiler l G hG M g V hW hV n) (by decide) rfl rfl rfl rfl (Nat.le_of_ble_eq_true rfl) (Nat.le_of_ble_eq_true rfl) (Nat.le_of_ble_eq_true rfl) (fun r2 M2 g2 hp2 => ?_)
  obtain ⟨hy2, eM2, eg2⟩ := hp2
  rw [eg2]
  rw [eM2]
  refine r_if_ne (tgt := 14) C dX8_setCost_5 (by decide) (fun c5 => ?_) (fun c5 => ?_)
  ·
    obtain ⟨j, hj, hnj⟩ := isBo_nI (by omega) (hy2.t c5)
    have e9 : n.toNatClampNeg = j := by rw [hnj]; exact nI_clamp (by omega)
    refine r_iload_n C dX8_setCost_14 2 rfl ?_
    refine r_iconst (v := 0) C dX8_setCost_15 rfl ?_
    refine r_bipush (v := 99) C dX8_setCost_16 rfl ?_
    refine r_callSI (As := [.int x, .int 0, .int 99]) (rest := []) C dX8_setCost_18 s_X8_83 (c_X8_in l G hG M g x 0 99) (by decide) rfl rfl (Nat.le_of_ble_eq_true rfl) (Nat.le_of_ble_eq_true rfl) (Nat.le_of_ble_eq_true rfl) (fun r18 M18 g18 hp18 => ?_)
    obtain ⟨hy18, eM18, eg18⟩ := hp18
    rw [eg18]
    rw [eM18]
    refine r_if_ne (tgt := 30) C dX8_setCost_21 (by decide) (fun c21 => ?_) (fun c21 => ?_)
    ·
      refine r_aload_n C dX8_setCost_30 0 rfl ?_
      refine r_callVV (As := []) (rest := []) C dX8_setCost_31 s_X8_105 (c_X8_hold l G hG M g ) (by decide) rfl rfl rfl rfl (Nat.le_of_ble_eq_true rfl) (Nat.le_of_ble_eq_true rfl) (Nat.le_of_ble_eq_true rfl) (fun M31 g31 hp31 => ?_)
      obtain ⟨⟨fh, rfl, hfh⟩, eg31⟩ := hp31
      rw [eg31]
      have hVh : rV ((mrow M 110 fh) 108) V := by rw [mrow_ne (by decide)]; exact hV
      have hAh : rV ((mrow M 110 fh) 110) V := by rw [mrow_at]; exact rV_cong hn16 hb4 (fun k hk => (hfh k hk).symm) hV
      refine r_aload_n C dX8_setCost_34 0 rfl ?_
      refine r_iload_n C dX8_setCost_35 1 rfl ?_
      refine r_valI (y := nI j) (hnj) ?_
      refine r_iconst (v := 2) C dX8_setCost_36 rfl ?_
      refine r_callVI (As := [.int (nI j), .int 2]) (rest := []) C dX8_setCost_37 s_X8_67 (c_X8_ofBoiler l G hG (mrow M 110 fh) g V hW hVh j hj 2 (by decide)) (by decide) rfl rfl rfl rfl (Nat.le_of_ble_eq_true rfl) (Nat.le_of_ble_eq_true rfl) (Nat.le_of_ble_eq_true rfl) (pk_I ?_)
      refine r_istore_n (L' := [(3, .int (vO V 2 j)), (0, .ref (mA G 107)), (1, .int n), (2, .int x)]) C dX8_setCost_40 (by decide) rfl ?_
      refine r_aload_n C dX8_setCost_41 1 rfl ?_
      refine r_getr (q2 := 108) C dX8_setCost_42 0 f_X8_7 rfl rfl ?_
      refine r_sipush (v := 137) C dX8_setCost_45 rfl ?_
      refine r_iconst (v := 3) C dX8_setCost_48 rfl ?_
      refine r_iload_n C dX8_setCost_49 2 rfl ?_
      refine r_valI (y := nI j) (hnj) ?_
      refine r_imul C dX8_setCost_50 ?_
      refine r_iadd C dX8_setCost_51 ?_
      refine r_iconst (v := 2) C dX8_setCost_52 rfl ?_
      refine r_iadd C dX8_setCost_53 ?_
      refine r_iload_n C dX8_setCost_54 3 rfl ?_
      refine r_iastN (j := 137 + 3 * j + 2) C dX8_setCost_55 rfl (ix3 j 2) (by omega) (by decide) ?_
      refine r_aload_n C dX8_setCost_56 1 rfl ?_
      refine r_iload_n C dX8_setCost_57 0 rfl ?_
      refine r_callVI (As := [.int (vO V 2 j)]) (rest := []) C dX8_setCost_58 s_X8_112 (c_X8_ends l G hG (mset (mrow M 110 fh) 108 (137 + 3 * j + 2) x) g V (vBo V 2 j x) Hs len T hHs (hd2 hI rfl rfl rfl rfl).1 (hd2 hI rfl rfl rfl rfl).2 hAh hn16 hb4 (by rw [mset_at]; exact rV_bo hn16 hVh (by decide) hj) (vO V 2 j)) (by decide) rfl rfl rfl rfl (Nat.le_of_ble_eq_true rfl) (Nat.le_of_ble_eq_true rfl) (Nat.le_of_ble_eq_true rfl) (fun r58 M58 g58 hp58 => ?_)
      obtain ⟨⟨e58, hd58⟩, eg58⟩ := hp58
      rw [eg58]
      exact hend _ _ _ _ _ dX8_setCost_61 (rfl) (by rw [e9]; exact ⟨mt_e hd58 (fun q hq => by rw [mset_ne (by omega), mrow_ne (by omega)]) ((if_neg (not_of (hy2.t c5))).trans (if_neg (not_of (hy18.t c21)))) e58, rfl⟩)
    ·
      refine r_aload_n C dX8_setCost_24 0 rfl ?_
      refine r_iconst (v := 2) C dX8_setCost_25 rfl ?_
      refine r_callVI (As := [.int 2]) (rest := []) C dX8_setCost_26 s_X8_95 (c_X8_fails l G hG M g 2) (by decide) rfl rfl rfl rfl (Nat.le_of_ble_eq_true rfl) (Nat.le_of_ble_eq_true rfl) (Nat.le_of_ble_eq_true rfl) (pk_I ?_)
      exact hend _ _ _ _ _ dX8_setCost_29 (rfl) (⟨mt_f 2 hI (frW.rf M).t ((if_neg (not_of (hy2.t c5))).trans (if_pos (hy18.f c21))) (by decide), rfl⟩)
  ·
    refine r_aload_n C dX8_setCost_8 0 rfl ?_
    refine r_iconst (v := 1) C dX8_setCost_9 rfl ?_
    refine r_callVI (As := [.int 1]) (rest := []) C dX8_setCost_10 s_X8_95 (c_X8_fails l G hG M g 1) (by decide) rfl rfl rfl rfl (Nat.le_of_ble_eq_true rfl) (Nat.le_of_ble_eq_true rfl) (Nat.le_of_ble_eq_true rfl) (pk_I ?_)
    exact hend _ _ _ _ _ dX8_setCost_13 (rfl) (⟨mt_f 1 hI (frW.rf M).t (if_pos (hy2.f c5)) (by decide), rfl⟩)

set_option maxRecDepth 20000 in
set_option maxHeartbeats 1000000 in
theorem c_X8_setTariff (l : Launch) (G : mG) (hG : mInj G) (M : Mem) (g : Glo) (V : View) (Hs : List View) (len : Nat) (T : Nat → Int32) (hW : wfV V) (hI : rINV M V Hs len T) (hHs : ∀ W, W ∈ Hs → wfV W) (a b d : Int32) : mcI l G yX8_setTariff cX8_setTariff 5 .int 3 [.ref (mA G 107), .int a, .int b, .int d] M g (fun r M' g' => mtP M M' V Hs len T (vSc (vSc (vSc V 2 a) 3 b) 4 d) (hPush Hs V) len T (eTar a b d) r (vS V 2) ∧ g' = g) := by
  refine mcI_of (L0 := [(0, .ref (mA G 107)), (1, .int a), (2, .int b), (3, .int d)]) hG (by decide) (Nat.le_of_ble_eq_true rfl) rfl ?_
  intro p e s m args below meth c Q C hend
  have hT := hW.1
  obtain ⟨hn1, hn16, hb4, ⟨hd0, hd3, hd5, hd6⟩, hpar⟩ := id hT
  have hV := hI.1
  refine r_iload_n C dX8_setTariff_0 1 rfl ?_
  refine r_iconst (v := 0) C dX8_setTariff_1 rfl ?_
  refine r_sipush (v := 999) C dX8_setTariff_2 rfl ?_
  refine r_callSI (As := [.int a, .int 0, .int 999]) (rest := []) C dX8_setTariff_5 s_X8_83 (c_X8_in l G hG M g a 0 999) (by decide) rfl rfl (Nat.le_of_ble_eq_true rfl) (Nat.le_of_ble_eq_true rfl) (Nat.le_of_ble_eq_true rfl) (fun r5 M5 g5 hp5 => ?_)
  obtain ⟨hy5, eM5, eg5⟩ := hp5
  rw [eg5]
  rw [eM5]
  refine r_if_eq (tgt := 32) C dX8_setTariff_8 (by decide) (fun c8 => ?_) (fun c8 => ?_)
  ·
    refine r_aload_n C dX8_setTariff_32 0 rfl ?_
    refine r_iconst (v := 1) C dX8_setTariff_33 rfl ?_
    refine r_callVI (As := [.int 1]) (rest := []) C dX8_setTariff_34 s_X8_95 (c_X8_fails l G hG M g 1) (by decide) rfl rfl rfl rfl (Nat.le_of_ble_eq_true rfl) (Nat.le_of_ble_eq_true rfl) (Nat.le_of_ble_eq_true rfl) (pk_I ?_)
    exact hend _ _ _ _ _ dX8_setTariff_37 (rfl) (⟨mt_f 1 hI (frW.rf M).t (if_pos (fun z => hy5.f c8 z.1)) (by decide), rfl⟩)
  ·
    refine r_iload_n C dX8_setTariff_11 2 rfl ?_
    refine r_iconst (v := 0) C dX8_setTariff_12 rfl ?_
    refine r_sipush (v := 1200) C dX8_setTariff_13 rfl ?_
    refine r_callSI (As := [.int b, .int 0, .int 1200]) (rest := []) C dX8_setTariff_16 s_X8_83 (c_X8_in l G hG M g b 0 1200) (by decide) rfl rfl (Nat.le_of_ble_eq_true rfl) (Nat.le_of_ble_eq_true rfl) (Nat.le_of_ble_eq_true rfl) (fun r16 M16 g16 hp16 => ?_)
    obtain ⟨hy16, eM16, eg16⟩ := hp16
    rw [eg16]
    rw [eM16]
    refine r_if_eq (tgt := 32) C dX8_setTariff_19 (by decide) (fun c19 => ?_) (fun c19 => ?_)
    ·
      refine r_aload_n C dX8_setTariff_32 0 rfl ?_
      refine r_iconst (v := 1) C dX8_setTariff_33 rfl ?_
      refine r_callVI (As := [.int 1]) (rest := []) C dX8_setTariff_34 s_X8_95 (c_X8_fails l G hG M g 1) (by decide) rfl rfl rfl rfl (Nat.le_of_ble_eq_true rfl) (Nat.le_of_ble_eq_true rfl) (Nat.le_of_ble_eq_true rfl) (pk_I ?_)
      exact hend _ _ _ _ _ dX8_setTariff_37 (rfl) (⟨mt_f 1 hI (frW.rf M).t (if_pos (fun z => hy16.f c19 z.2.1)) (by decide), rfl⟩)
    ·
      refine r_iload_n C dX8_setTariff_22 3 rfl ?_
      refine r_iconst (v := 0) C dX8_setTariff_23 rfl ?_
      refine r_bipush (v := 99) C dX8_setTariff_24 rfl ?_
      refine r_callSI (As := [.int d, .int 0, .int 99]) (rest := []) C dX8_setTariff_26 s_X8_83 (c_X8_in l G hG M g d 0 99) (by decide) rfl rfl (Nat.le_of_ble_eq_true rfl) (Nat.le_of_ble_eq_true rfl) (Nat.le_of_ble_eq_true rfl) (fun r26 M26 g26 hp26 => ?_)
      obtain ⟨hy26, eM26, eg26⟩ := hp26
      rw [eg26]
      rw [eM26]
      refine r_if_ne (tgt := 38) C dX8_setTariff_29 (by decide) (fun c29 => ?_) (fun c29 => ?_)
      ·
        refine r_aload_n C dX8_setTariff_38 0 rfl ?_
        refine r_callVV (As := []) (rest := []) C dX8_setTariff_39 s_X8_105 (c_X8_hold l G hG M g ) (by decide) rfl rfl rfl rfl (Nat.le_of_ble_eq_true rfl) (Nat.le_of_ble_eq_true rfl) (Nat.le_of_ble_eq_true rfl) (fun M39 g39 hp39 => ?_)
        obtain ⟨⟨fh, rfl, hfh⟩, eg39⟩ := hp39
        rw [eg39]
        have hVh : rV ((mrow M 110 fh) 108) V := by rw [mrow_ne (by decide)]; exact hV
        have hAh : rV ((mrow M 110 fh) 110) V := by rw [mrow_at]; exact rV_cong hn16 hb4 (fun k hk => (hfh k hk).symm) hV
        refine r_aload_n C dX8_setTariff_42 0 rfl ?_
        refine r_getr (q2 := 108) C dX8_setTariff_43 0 f_X8_7 rfl rfl ?_
        refine r_iconst (v := 2) C dX8_setTariff_46 rfl ?_
        refine r_ialdN (j := 2) (v := vS V 2) C dX8_setTariff_47 rfl (rfl) (by omega) (by decide) (hVh.2.1.2.2.1) ?_
        refine r_istore (L' := [(4, .int (vS V 2)), (0, .ref (mA G 107)), (1, .int a), (2, .int b), (3, .int d)]) C dX8_setTariff_48 (by decide) rfl ?_
        refine r_aload_n C dX8_setTariff_50 1 rfl ?_
        refine r_getr (q2 := 108) C dX8_setTariff_51 0 f_X8_7 rfl rfl ?_
        refine r_iconst (v := 2) C dX8_setTariff_54 rfl ?_
        refine r_iload_n C dX8_setTariff_55 2 rfl ?_
        refine r_iastN (j := 2) C dX8_setTariff_56 rfl (rfl) (by omega) (by decide) ?_
        refine r_aload_n C dX8_setTariff_57 1 rfl ?_
        refine r_getr (q2 := 108) C dX8_setTariff_58 0 f_X8_7 rfl rfl ?_
        refine r_iconst (v := 3) C dX8_setTariff_61 rfl ?_
        refine r_iload_n C dX8_setTariff_62 3 rfl ?_
        refine r_iastN (j := 3) C dX8_setTariff_63 rfl (rfl) (by omega) (by decide) ?_
        refine r_aload_n C dX8_setTariff_64 1 rfl ?_
        refine r_getr (q2 := 108) C dX8_setTariff_65 0 f_X8_7 rfl rfl ?_
        refine r_iconst (v := 4) C dX8_setTariff_68 rfl ?_
        refine r_iload_n C dX8_setTariff_69 4 rfl ?_
        refine r_iastN (j := 4) C dX8_setTariff_70 rfl (rfl) (by omega) (by decide) ?_
        refine r_aload_n C dX8_setTariff_71 1 rfl ?_
        refine r_iload C dX8_setTariff_72 0 rfl ?_
        refine r_callVI (As := [.int (vS V 2)]) (rest := []) C dX8_setTariff_74 s_X8_112 (c_X8_ends l G hG (mset (mset (mset (mrow M 110 fh) 108 2 a) 108 3 b) 108 4 d) g V (vSc (vSc (vSc V 2 a) 3 b) 4 d) Hs len T hHs (hd2 hI rfl rfl rfl rfl).1 (hd2 hI rfl rfl rfl rfl).2 hAh hn16 hb4 (by rw [mset_at, mset_at, mset_at]; exact rV_sc 4 (by decide) (rV_sc 3 (by decide) (rV_sc 2 (by decide) hVh))) (vS V 2)) (by decide) rfl rfl rfl rfl (Nat.le_of_ble_eq_true rfl) (Nat.le_of_ble_eq_true rfl) (Nat.le_of_ble_eq_true rfl) (fun r74 M74 g74 hp74 => ?_)
        obtain ⟨⟨e74, hd74⟩, eg74⟩ := hp74
        rw [eg74]
        exact hend _ _ _ _ _ dX8_setTariff_77 (rfl) (by exact ⟨mt_e hd74 (fun q hq => by rw [mset_ne (by omega), mset_ne (by omega), mset_ne (by omega), mrow_ne (by omega)]) (if_neg (not_of ⟨hy5.t c8, hy16.t c19, hy26.t c29⟩)) e74, rfl⟩)
      ·
        refine r_aload_n C dX8_setTariff_32 0 rfl ?_
        refine r_iconst (v := 1) C dX8_setTariff_33 rfl ?_
        refine r_callVI (As := [.int 1]) (rest := []) C dX8_setTariff_34 s_X8_95 (c_X8_fails l G hG M g 1) (by decide) rfl rfl rfl rfl (Nat.le_of_ble_eq_true rfl) (Nat.le_of_ble_eq_true rfl) (Nat.le_of_ble_eq_true rfl) (pk_I ?_)
        exact hend _ _ _ _ _ dX8_setTariff_37 (rfl) (⟨mt_f 1 hI (frW.rf M).t (if_pos (fun z => hy26.f c29 z.2.2)) (by decide), rfl⟩)

set_option maxRecDepth 20000 in
set_option maxHeartbeats 1000000 in
theorem c_X8_setMeter (l : Launch) (G : mG) (hG : mInj G) (M : Mem) (g : Glo) (V : View) (Hs : List View) (len : Nat) (T : Nat → Int32) (hW : wfV V) (hI : rINV M V Hs len T) (hHs : ∀ W, W ∈ Hs → wfV W) (n x : Int32) : mcI l G yX8_setMeter cX8_setMeter 3 .int 3 [.ref (mA G 107), .int n, .int x] M g (fun r M' g' => mtP M M' V Hs len T (vSet V 6 n.toNatClampNeg (b2i (decide (¬ x = 0)))) (hPush Hs V) len T (ePp V n) r (sumP (vD (vSet V 6 n.toNatClampNeg (b2i (decide (¬ x = 0)))) 6) (vN V)) ∧ g' = g) := by
  refine mcI_of (L0 := [(0, .ref (mA G 107)), (1, .int n), (2, .int x)]) hG (by decide) (Nat.le_of_ble_eq_true rfl) rfl ?_
  intro p e s m args below meth c Q C hend
  have hT := hW.1
  obtain ⟨hn1, hn16, hb4, ⟨hd0, hd3, hd5, hd6⟩, hpar⟩ := id hT
  have hV := hI.1
  refine r_aload_n C dX8_setMeter_0 0 rfl ?_
  refine r_iload_n C dX8_setMeter_1 1 rfl ?_
  refine r_callVI (As := [.int n]) (rest := []) C dX8_setMeter_2 s_X8_115 (c_X8_isPipe l G hG M g V hW hV n) (by decide) rfl rfl rfl rfl (Nat.le_of_ble_eq_true rfl) (Nat.le_of_ble_eq_true rfl) (Nat.le_of_ble_eq_true rfl) (fun r2 M2 g2 hp2 => ?_)
  obtain ⟨hy2, eM2, eg2⟩ := hp2
  rw [eg2]
  rw [eM2]
  refine r_if_ne (tgt := 14) C dX8_setMeter_5 (by decide) (fun c5 => ?_) (fun c5 => ?_)
  ·
    obtain ⟨j, hj0, hj, hnj⟩ := isPp_nI (by omega) (hy2.t c5)
    have e9 : n.toNatClampNeg = j := by rw [hnj]; exact nI_clamp (by omega)
    refine r_aload_n C dX8_setMeter_14 0 rfl ?_
    refine r_callVV (As := []) (rest := []) C dX8_setMeter_15 s_X8_105 (c_X8_hold l G hG M g ) (by decide) rfl rfl rfl rfl (Nat.le_of_ble_eq_true rfl) (Nat.le_of_ble_eq_true rfl) (Nat.le_of_ble_eq_true rfl) (fun M15 g15 hp15 => ?_)
    obtain ⟨⟨fh, rfl, hfh⟩, eg15⟩ := hp15
    rw [eg15]
    have hVh : rV ((mrow M 110 fh) 108) V := by rw [mrow_ne (by decide)]; exact hV
    have hAh : rV ((mrow M 110 fh) 110) V := by rw [mrow_at]; exact rV_cong hn16 hb4 (fun k hk => (hfh k hk).symm) hV
    refine r_aload_n C dX8_setMeter_18 0 rfl ?_
    refine r_iload_n C dX8_setMeter_19 1 rfl ?_
    refine r_valI (y := nI j) (hnj) ?_
    refine r_bipush (v := 6) C dX8_setMeter_20 rfl ?_
    refine r_iload_n C dX8_setMeter_22 2 rfl ?_
    refine r_if_eq (tgt := 30) C dX8_setMeter_23 (by decide) (fun c23 => ?_) (fun c23 => ?_)
    ·
      refine r_iconst (v := 0) C dX8_setMeter_30 rfl ?_
      refine r_valI (y := b2i (decide (¬ x = 0))) (by rw [decide_eq_false (not_of c23)]; rfl) ?_
      refine r_callVV (As := [.int (nI j), .int 6, .int (b2i (decide (¬ x = 0)))]) (rest := []) C dX8_setMeter_31 s_X8_87 (c_X8_puts l G hG (mrow M 110 fh) g j 6 (by omega) (by decide) (b2i (decide (¬ x = 0)))) (by decide) rfl rfl rfl rfl (Nat.le_of_ble_eq_true rfl) (Nat.le_of_ble_eq_true rfl) (Nat.le_of_ble_eq_true rfl) (pk_V ?_)
      have hV2 : rV ((mset (mrow M 110 fh) 108 (9 + 8 * j + 6) (b2i (decide (¬ x = 0)))) 108) (vSet V 6 j (b2i (decide (¬ x = 0)))) := by rw [mset_at]; exact rV_set hn16 hVh (by decide) hj
      refine r_aload_n C dX8_setMeter_34 0 rfl ?_
      refine r_aload_n C dX8_setMeter_35 0 rfl ?_
      refine r_callVI (As := []) (rest := [.ref (mA G 107)]) C dX8_setMeter_36 s_X8_138 (c_X8_meters l G hG (mset (mrow M 110 fh) 108 (9 + 8 * j + 6) (b2i (decide (¬ x = 0)))) g (vSet V 6 j (b2i (decide (¬ x = 0)))) (wf_set6 hW hj0 (b2i_or _)) hV2) (by decide) rfl rfl rfl rfl (Nat.le_of_ble_eq_true rfl) (Nat.le_of_ble_eq_true rfl) (Nat.le_of_ble_eq_true rfl) (pk_I ?_)
      refine r_callVI (As := [.int (sumP (vD (vSet V 6 j (b2i (decide (¬ x = 0)))) 6) (vN V))]) (rest := []) C dX8_setMeter_39 s_X8_112 (c_X8_ends l G hG (mset (mrow M 110 fh) 108 (9 + 8 * j + 6) (b2i (decide (¬ x = 0)))) g V (vSet V 6 j (b2i (decide (¬ x = 0)))) Hs len T hHs (hd2 hI rfl rfl rfl rfl).1 (hd2 hI rfl rfl rfl rfl).2 hAh hn16 hb4 (hV2) (sumP (vD (vSet V 6 j (b2i (decide (¬ x = 0)))) 6) (vN V))) (by decide) rfl rfl rfl rfl (Nat.le_of_ble_eq_true rfl) (Nat.le_of_ble_eq_true rfl) (Nat.le_of_ble_eq_true rfl) (fun r39 M39 g39 hp39 => ?_)
      obtain ⟨⟨e39, hd39⟩, eg39⟩ := hp39
      rw [eg39]
      exact hend _ _ _ _ _ dX8_setMeter_42 (rfl) (by rw [e9]; exact ⟨mt_e hd39 (fun q hq => by rw [mset_ne (by omega), mrow_ne (by omega)]) (if_neg (not_of (hy2.t c5))) e39, rfl⟩)
    ·
      refine r_iconst (v := 1) C dX8_setMeter_26 rfl ?_
      refine r_goto (tgt := 31) C dX8_setMeter_27 (by decide) ?_
      refine r_valI (y := b2i (decide (¬ x = 0))) (by rw [decide_eq_true c23]; rfl) ?_
      refine r_callVV (As := [.int (nI j), .int 6, .int (b2i (decide (¬ x = 0)))]) (rest := []) C dX8_setMeter_31 s_X8_87 (c_X8_puts l G hG (mrow M 110 fh) g j 6 (by omega) (by decide) (b2i (decide (¬ x = 0)))) (by decide) rfl rfl rfl rfl (Nat.le_of_ble_eq_true rfl) (Nat.le_of_ble_eq_true rfl) (Nat.le_of_ble_eq_true rfl) (pk_V ?_)
      have hV2 : rV ((mset (mrow M 110 fh) 108 (9 + 8 * j + 6) (b2i (decide (¬ x = 0)))) 108) (vSet V 6 j (b2i (decide (¬ x = 0)))) := by rw [mset_at]; exact rV_set hn16 hVh (by decide) hj
      refine r_aload_n C dX8_setMeter_34 0 rfl ?_
      refine r_aload_n C dX8_setMeter_35 0 rfl ?_
      refine r_callVI (As := []) (rest := [.ref (mA G 107)]) C dX8_setMeter_36 s_X8_138 (c_X8_meters l G hG (mset (mrow M 110 fh) 108 (9 + 8 * j + 6) (b2i (decide (¬ x = 0)))) g (vSet V 6 j (b2i (decide (¬ x = 0)))) (wf_set6 hW hj0 (b2i_or _)) hV2) (by decide) rfl rfl rfl rfl (Nat.le_of_ble_eq_true rfl) (Nat.le_of_ble_eq_true rfl) (Nat.le_of_ble_eq_true rfl) (pk_I ?_)
      refine r_callVI (As := [.int (sumP (vD (vSet V 6 j (b2i (decide (¬ x = 0)))) 6) (vN V))]) (rest := []) C dX8_setMeter_39 s_X8_112 (c_X8_ends l G hG (mset (mrow M 110 fh) 108 (9 + 8 * j + 6) (b2i (decide (¬ x = 0)))) g V (vSet V 6 j (b2i (decide (¬ x = 0)))) Hs len T hHs (hd2 hI rfl rfl rfl rfl).1 (hd2 hI rfl rfl rfl rfl).2 hAh hn16 hb4 (hV2) (sumP (vD (vSet V 6 j (b2i (decide (¬ x = 0)))) 6) (vN V))) (by decide) rfl rfl rfl rfl (Nat.le_of_ble_eq_true rfl) (Nat.le_of_ble_eq_true rfl) (Nat.le_of_ble_eq_true rfl) (fun r39 M39 g39 hp39 => ?_)
      obtain ⟨⟨e39, hd39⟩, eg39⟩ := hp39
      rw [eg39]
      exact hend _ _ _ _ _ dX8_setMeter_42 (rfl) (by rw [e9]; exact ⟨mt_e hd39 (fun q hq => by rw [mset_ne (by omega), mrow_ne (by omega)]) (if_neg (not_of (hy2.t c5))) e39, rfl⟩)
  ·
    refine r_aload_n C dX8_setMeter_8 0 rfl ?_
    refine r_iconst (v := 1) C dX8_setMeter_9 rfl ?_
    refine r_callVI (As := [.int 1]) (rest := []) C dX8_setMeter_10 s_X8_95 (c_X8_fails l G hG M g 1) (by decide) rfl rfl rfl rfl (Nat.le_of_ble_eq_true rfl) (Nat.le_of_ble_eq_true rfl) (Nat.le_of_ble_eq_true rfl) (pk_I ?_)
    exact hend _ _ _ _ _ dX8_setMeter_13 (rfl) (⟨mt_f 1 hI (frW.rf M).t (if_pos (hy2.f c5)) (by decide), rfl⟩)

set_option maxRecDepth 20000 in
set_option maxHeartbeats 1000000 in
theorem c_X8_pass (l : Launch) (G : mG) (hG : mInj G) (M : Mem) (g : Glo) (V : View) (Hs : List View) (len : Nat) (T : Nat → Int32) (hW : wfV V) (hI : rINV M V Hs len T) (hHs : ∀ W, W ∈ Hs → wfV W) (h : Int32) : mcI l G yX8_pass cX8_pass 3 .int 5 [.ref (mA G 107), .int h] M g (fun r M' g' => mtP M M' V Hs len T (vPass V h) (hPush Hs V) len T (ePass V h) r (vS V 8 + h) ∧ g' = g) := by
  refine mcI_of (L0 := [(0, .ref (mA G 107)), (1, .int h)]) hG (by decide) (Nat.le_of_ble_eq_true rfl) rfl ?_
  intro p e s m args below meth c Q C hend
  have hT := hW.1
  obtain ⟨hn1, hn16, hb4, ⟨hd0, hd3, hd5, hd6⟩, hpar⟩ := id hT
  have hV := hI.1
  refine r_iload_n C dX8_pass_0 1 rfl ?_
  refine r_iconst (v := 1) C dX8_pass_1 rfl ?_
  refine r_bipush (v := 100) C dX8_pass_2 rfl ?_
  refine r_callSI (As := [.int h, .int 1, .int 100]) (rest := []) C dX8_pass_4 s_X8_83 (c_X8_in l G hG M g h 1 100) (by decide) rfl rfl (Nat.le_of_ble_eq_true rfl) (Nat.le_of_ble_eq_true rfl) (Nat.le_of_ble_eq_true rfl) (fun r4 M4 g4 hp4 => ?_)
  obtain ⟨hy4, eM4, eg4⟩ := hp4
  rw [eg4]
  rw [eM4]
  refine r_if_ne (tgt := 16) C dX8_pass_7 (by decide) (fun c7 => ?_) (fun c7 => ?_)
  ·
    refine r_aload_n C dX8_pass_16 0 rfl ?_
    refine r_getr (q2 := 108) C dX8_pass_17 0 f_X8_7 rfl rfl ?_
    refine r_bipush (v := 8) C dX8_pass_20 rfl ?_
    refine r_ialdN (j := 8) (v := vS V 8) C dX8_pass_22 rfl (rfl) (by omega) (by decide) (hV.2.1.2.2.2.2.2.2) ?_
    refine r_iload_n C dX8_pass_23 1 rfl ?_
    refine r_iadd C dX8_pass_24 ?_
    refine r_sipush (v := 200) C dX8_pass_25 rfl ?_
    refine r_icmp_le (tgt := 37) C dX8_pass_28 (by decide) (fun c28 => ?_) (fun c28 => ?_)
    ·
      have h200 : ¬ 200 < vS V 8 + h := i32_nlt.mpr c28
      refine r_aload_n C dX8_pass_37 0 rfl ?_
      refine r_callVV (As := []) (rest := []) C dX8_pass_38 s_X8_105 (c_X8_hold l G hG M g ) (by decide) rfl rfl rfl rfl (Nat.le_of_ble_eq_true rfl) (Nat.le_of_ble_eq_true rfl) (Nat.le_of_ble_eq_true rfl) (fun M38 g38 hp38 => ?_)
      obtain ⟨⟨fh, rfl, hfh⟩, eg38⟩ := hp38
      rw [eg38]
      have hVh : rV ((mrow M 110 fh) 108) V := by rw [mrow_ne (by decide)]; exact hV
      have hAh : rV ((mrow M 110 fh) 110) V := by rw [mrow_at]; exact rV_cong hn16 hb4 (fun k hk => (hfh k hk).symm) hV
      refine r_aload_n C dX8_pass_41 0 rfl ?_
      refine r_callVV (As := []) (rest := []) C dX8_pass_42 s_X8_126 (c_X8_works l G hG (mrow M 110 fh) g V hW hVh) (by decide) rfl rfl rfl rfl (Nat.le_of_ble_eq_true rfl) (Nat.le_of_ble_eq_true rfl) (Nat.le_of_ble_eq_true rfl) (fun M42 g42 hp42 => ?_)
      obtain ⟨⟨o42, hR42⟩, eg42⟩ := hp42
      rw [eg42]
      have hV42 := (frW.of o42).rv hVh
      refine r_iconst (v := nI 1) C dX8_pass_45 rfl ?_
      refine r_istore_n (L' := [(2, .int (nI 1)), (0, .ref (mA G 107)), (1, .int h)]) C dX8_pass_46 (by decide) rfl ?_
      have lp47 : ∀ (fu : Nat) (k : Nat) (f : Nat → Int32), (0 < k) → (k ≤ vN V) → (rV f (vPasK V h k)) → (vN V - k) < fu → At p l e (rmD 5 0 0) s m args below meth c G 3 0 0 Q (mrow M42 108 f) g [(2, .int (nI k)), (0, .ref (mA G 107)), (1, .int h)] 47 [] := by
        intro fu
        induction fu with
        | zero => intro k f hk0 hkn hf hfu; exact absurd hfu (Nat.not_lt_zero _)
        | succ fu ih47 =>
          intro k f hk0 hkn hf hfu47
          have hf2 : rV ((mrow M42 108 f) 108) (vPasK V h k) := by rw [mrow_at]; exact hf
          have hR2 : rOK (mrow M42 108 f) V := hR42.off (offR.row (M := M42) (a := 108) (b := 108) f (by decide) (by decide)) (by decide)
          refine r_iload_n C dX8_pass_47 0 rfl ?_
          refine r_aload_n C dX8_pass_48 1 rfl ?_
          refine r_getr (q2 := 108) C dX8_pass_49 0 f_X8_7 rfl rfl ?_
          refine r_iconst (v := 5) C dX8_pass_52 rfl ?_
          refine r_ialdN (j := 5) (v := nI (vN V)) C dX8_pass_53 rfl (rfl) (by omega) (by decide) (hf2.1.1) ?_
          refine r_icmp_ge (tgt := 85) C dX8_pass_54 (by decide) (fun c54 => ?_) (fun c54 => ?_)
          ·
            have hkn2 : k = vN V := by have := le_of_le (by omega) (by omega) c54; omega
            refine r_aload_n C dX8_pass_85 1 rfl ?_
            refine r_getr (q2 := 108) C dX8_pass_86 0 f_X8_7 rfl rfl ?_
            refine r_bipush (v := 7) C dX8_pass_89 rfl ?_
            refine r_dup2 C dX8_pass_91 rfl rfl ?_
            refine r_ialdN (j := 7) (v := vS V 7) C dX8_pass_92 rfl (rfl) (by omega) (by decide) (hf2.2.1.2.2.2.2.2.1) ?_
            refine r_iload_n C dX8_pass_93 2 rfl ?_
            refine r_aload_n C dX8_pass_94 1 rfl ?_
            refine r_callVI (As := []) (rest := [.int h, .int (vS V 7), .int 7, .ref (mA G 108)]) C dX8_pass_95 s_X8_132 (c_X8_costs l G hG (mrow M42 108 f) g (vPasK V h k) (wf_pasK hW) hf2 (hR2.pas (h := h) (k := k))) (by decide) rfl rfl rfl rfl (Nat.le_of_ble_eq_true rfl) (Nat.le_of_ble_eq_true rfl) (Nat.le_of_ble_eq_true rfl) (fun r95 M95 g95 hp95 => ?_)
            obtain ⟨⟨e95, hc95⟩, eg95⟩ := hp95
            rw [eg95]
            have hV95 := hc95.fr.rv hf2
            have hR95 := hc95.ok (hR2.pas (h := h) (k := k))
            refine r_imul C dX8_pass_98 ?_
            refine r_iadd C dX8_pass_99 ?_
            refine r_iastN (j := 7) C dX8_pass_100 rfl (rfl) (by omega) (by decide) ?_
            refine r_aload_n C dX8_pass_101 1 rfl ?_
            refine r_getr (q2 := 108) C dX8_pass_102 0 f_X8_7 rfl rfl ?_
            refine r_bipush (v := 8) C dX8_pass_105 rfl ?_
            refine r_dup2 C dX8_pass_107 rfl rfl ?_
            refine r_ialdN (j := 8) (v := vS V 8) C dX8_pass_108 rfl (rfl) (by omega) (by decide) (by rw [mset_at, upd_ne (by decide)]; exact hV95.2.1.2.2.2.2.2.2) ?_
            refine r_iload_n C dX8_pass_109 2 rfl ?_
            refine r_iadd C dX8_pass_110 ?_
            refine r_iastN (j := 8) C dX8_pass_111 rfl (rfl) (by omega) (by decide) ?_
            refine r_aload_n C dX8_pass_112 1 rfl ?_
            refine r_aload_n C dX8_pass_113 1 rfl ?_
            refine r_getr (q2 := 108) C dX8_pass_114 0 f_X8_7 rfl rfl ?_
            refine r_bipush (v := 8) C dX8_pass_117 rfl ?_
            refine r_ialdN (j := 8) (v := vS V 8 + h) C dX8_pass_119 rfl (rfl) (by omega) (by decide) (by rw [mset_at, upd_at]) ?_
            refine r_callVI (As := [.int (vS V 8 + h)]) (rest := []) C dX8_pass_120 s_X8_112 (c_X8_ends l G hG (mset (mset M95 108 7 ((vS V 7) + (h * r95))) 108 8 ((vS V 8) + h)) g V (vPass V h) Hs len T hHs (hd2 hI (by rw [mset_ne (by decide), mset_ne (by decide), hc95.fr.2 3 (by decide), mrow_ne (by decide), o42 107 (by decide)]; rfl) (by rw [mset_ne (by decide), mset_ne (by decide), hc95.fr.2 5 (by decide), mrow_ne (by decide), o42 107 (by decide)]; rfl) (by rw [mset_ne (by decide), mset_ne (by decide), hc95.fr.1 109 (by decide) (by decide), mrow_ne (by decide), o42 109 (by decide)]; rfl) (by rw [mset_ne (by decide), mset_ne (by decide), hc95.fr.1 111 (by decide) (by decide), mrow_ne (by decide), o42 111 (by decide)]; rfl)).1 (hd2 hI (by rw [mset_ne (by decide), mset_ne (by decide), hc95.fr.2 3 (by decide), mrow_ne (by decide), o42 107 (by decide)]; rfl) (by rw [mset_ne (by decide), mset_ne (by decide), hc95.fr.2 5 (by decide), mrow_ne (by decide), o42 107 (by decide)]; rfl) (by rw [mset_ne (by decide), mset_ne (by decide), hc95.fr.1 109 (by decide) (by decide), mrow_ne (by decide), o42 109 (by decide)]; rfl) (by rw [mset_ne (by decide), mset_ne (by decide), hc95.fr.1 111 (by decide) (by decide), mrow_ne (by decide), o42 111 (by decide)]; rfl)).2 (by rw [mset_ne (by decide), mset_ne (by decide), hc95.fr.1 110 (by decide) (by decide), mrow_ne (by decide), o42 110 (by decide)]; exact hAh) hn16 hb4 (by rw [mset_at, mset_at, hc95.fr.1 108 (by decide) (by decide), mrow_at]; exact pas_end hkn2 (e95.trans pas_cost) hf) (vS V 8 + h)) (by decide) rfl rfl rfl rfl (Nat.le_of_ble_eq_true rfl) (Nat.le_of_ble_eq_true rfl) (Nat.le_of_ble_eq_true rfl) (fun r120 M120 g120 hp120 => ?_)
            obtain ⟨⟨e120, hd120⟩, eg120⟩ := hp120
            rw [eg120]
            exact hend _ _ _ _ _ dX8_pass_123 (rfl) (by exact ⟨mt_e hd120 (fun q hq => by rw [mset_ne (by omega), mset_ne (by omega), hc95.fr.1 q (by omega) (by omega), mrow_ne (by omega), o42 q (by omega), mrow_ne (by omega)]) ((if_neg (not_of (hy4.t c7))).trans (if_neg h200)) e120, rfl⟩)
          ·
            have hlt : k < vN V := lt_of_nle (by omega) c54
            refine r_aload_n C dX8_pass_57 1 rfl ?_
            refine r_iload_n C dX8_pass_58 0 rfl ?_
            refine r_bipush (v := 7) C dX8_pass_59 rfl ?_
            refine r_aload_n C dX8_pass_61 1 rfl ?_
            refine r_iload_n C dX8_pass_62 0 rfl ?_
            refine r_bipush (v := 7) C dX8_pass_63 rfl ?_
            refine r_callVI (As := [.int (nI k), .int 7]) (rest := [.int 7, .int (nI k), .ref (mA G 107)]) C dX8_pass_65 s_X8_48 (c_X8_of l G hG (mrow M42 108 f) g (vPasK V h k) (wf_pasK hW) hf2 k hlt 7 (by decide)) (by decide) rfl rfl rfl rfl (Nat.le_of_ble_eq_true rfl) (Nat.le_of_ble_eq_true rfl) (Nat.le_of_ble_eq_true rfl) (pk_I ?_)
            refine r_valI (y := vD V 7 k) (if_neg (fun z => by omega)) ?_
            refine r_iload_n C dX8_pass_68 2 rfl ?_
            refine r_aload_n C dX8_pass_69 1 rfl ?_
            refine r_iload_n C dX8_pass_70 0 rfl ?_
            refine r_callVI (As := [.int (nI k)]) (rest := [.int h, .int (vD V 7 k), .int 7, .int (nI k), .ref (mA G 107)]) C dX8_pass_71 s_X8_61 (c_X8_billOf l G hG (mrow M42 108 f) g (vPasK V h k) (wf_pasK hW) hf2 (hR2.pas) k hk0 hlt) (by decide) rfl rfl rfl rfl (Nat.le_of_ble_eq_true rfl) (Nat.le_of_ble_eq_true rfl) (Nat.le_of_ble_eq_true rfl) (pk_I ?_)
            refine r_valI (y := billF V k) (pas_bill) ?_
            refine r_imul C dX8_pass_74 ?_
            refine r_iadd C dX8_pass_75 ?_
            refine r_callVV (As := [.int (nI k), .int 7, .int ((vD V 7 k) + (h * (billF V k)))]) (rest := []) C dX8_pass_76 s_X8_87 (c_X8_puts l G hG (mrow M42 108 f) g k 7 (by omega) (by decide) (vD V 7 k + h * billF V k)) (by decide) rfl rfl rfl rfl (Nat.le_of_ble_eq_true rfl) (Nat.le_of_ble_eq_true rfl) (Nat.le_of_ble_eq_true rfl) (pk_V ?_)
            refine r_mem (M' := mrow M42 108 (upd f (9 + 8 * k + 7) (vD V 7 k + h * billF V k))) (mset_row _ _ _ _ _) ?_
            refine r_iinc (v := nI (k + 1)) (L' := [(2, .int (nI (k + 1))), (0, .ref (mA G 107)), (1, .int h)]) C dX8_pass_79 0 rfl (nI_inc _) (by decide) rfl ?_
            refine r_goto (tgt := 47) C dX8_pass_82 (by decide) ?_
            refine r_sub (L' := [(2, .int (nI (k + 1))), (0, .ref (mA G 107)), (1, .int h)]) [0, 1, 2] rfl ?_
            exact ih47 (k + 1) _ (by omega) (by omega) (pas_row hn16 hk0 hlt hf) (by omega)
      refine r_mem (M' := mrow M42 108 (M42 108)) (mrow_self M42 108).symm ?_
      refine r_sub (L' := [(2, .int (nI 1)), (0, .ref (mA G 107)), (1, .int h)]) [0, 1, 2] rfl ?_
      exact lp47 _ 1 (M42 108) (by omega) hn1 (rV_ext (V := V) rfl rfl (fun _ => rfl) (fun w j _ => (if_neg (fun z => by omega)).symm) (fun _ _ => rfl) hV42) (Nat.lt_succ_self _)
    ·
      have h200 : 200 < vS V 8 + h := i32_nle.mp c28
      refine r_aload_n C dX8_pass_31 0 rfl ?_
      refine r_iconst (v := 2) C dX8_pass_32 rfl ?_
      refine r_callVI (As := [.int 2]) (rest := []) C dX8_pass_33 s_X8_95 (c_X8_fails l G hG M g 2) (by decide) rfl rfl rfl rfl (Nat.le_of_ble_eq_true rfl) (Nat.le_of_ble_eq_true rfl) (Nat.le_of_ble_eq_true rfl) (pk_I ?_)
      exact hend _ _ _ _ _ dX8_pass_36 (rfl) (⟨mt_f 2 hI (frW.rf M).t ((if_neg (not_of (hy4.t c7))).trans (if_pos h200)) (by decide), rfl⟩)
  ·
    refine r_aload_n C dX8_pass_10 0 rfl ?_
    refine r_iconst (v := 1) C dX8_pass_11 rfl ?_
    refine r_callVI (As := [.int 1]) (rest := []) C dX8_pass_12 s_X8_95 (c_X8_fails l G hG M g 1) (by decide) rfl rfl rfl rfl (Nat.le_of_ble_eq_true rfl) (Nat.le_of_ble_eq_true rfl) (Nat.le_of_ble_eq_true rfl) (pk_I ?_)
    exact hend _ _ _ _ _ dX8_pass_15 (rfl) (⟨mt_f 1 hI (frW.rf M).t (if_pos (hy4.f c7)) (by decide), rfl⟩)

set_option maxRecDepth 20000 in
set_option maxHeartbeats 1000000 in
theorem c_X8_append (l : Launch) (G : mG) (hG : mInj G) (M : Mem) (g : Glo) (V : View) (Hs : List View) (len : Nat) (T : Nat → Int32) (hW : wfV V) (hI : rINV M V Hs len T) (x : Int32) : mcI l G yX8_append cX8_append 2 .int 2 [.ref (mA G 107), .int x] M g (fun r M' g' => mtP M M' V Hs len T V Hs (len + 1) (upd T len x) (eApp len x) r (nI (len + 1)) ∧ g' = g) := by
  refine mcI_of (L0 := [(0, .ref (mA G 107)), (1, .int x)]) hG (by decide) (Nat.le_of_ble_eq_true rfl) rfl ?_
  intro p e s m args below meth c Q C hend
  have hT := hW.1
  obtain ⟨hn1, hn16, hb4, ⟨hd0, hd3, hd5, hd6⟩, hpar⟩ := id hT
  have hV := hI.1
  have hl180 := hI.2.2.2.1
  refine r_iload_n C dX8_append_0 1 rfl ?_
  refine r_iconst (v := 0) C dX8_append_1 rfl ?_
  refine r_bipush (v := 127) C dX8_append_2 rfl ?_
  refine r_callSI (As := [.int x, .int 0, .int 127]) (rest := []) C dX8_append_4 s_X8_83 (c_X8_in l G hG M g x 0 127) (by decide) rfl rfl (Nat.le_of_ble_eq_true rfl) (Nat.le_of_ble_eq_true rfl) (Nat.le_of_ble_eq_true rfl) (fun r4 M4 g4 hp4 => ?_)
  obtain ⟨hy4, eM4, eg4⟩ := hp4
  rw [eg4]
  rw [eM4]
  refine r_if_ne (tgt := 16) C dX8_append_7 (by decide) (fun c7 => ?_) (fun c7 => ?_)
  ·
    refine r_aload_n C dX8_append_16 0 rfl ?_
    refine r_geti C dX8_append_17 5 f_X8_182 rfl rfl ?_
    refine r_valI (y := nI len) (hI.2.2.1) ?_
    refine r_sipush (v := 180) C dX8_append_20 rfl ?_
    refine r_icmp_ne (tgt := 32) C dX8_append_23 (by decide) (fun c23 => ?_) (fun c23 => ?_)
    ·
      have hlt : len < 180 := by rcases Nat.lt_or_ge len 180 with q | q; exact q; exact absurd (show nI len = 180 by rw [show len = 180 by omega]; rfl) c23
      refine r_aload_n C dX8_append_32 0 rfl ?_
      refine r_getr (q2 := 111) C dX8_append_33 4 f_X8_19 rfl rfl ?_
      refine r_aload_n C dX8_append_36 0 rfl ?_
      refine r_geti C dX8_append_37 5 f_X8_182 rfl rfl ?_
      refine r_valI (y := nI len) (hI.2.2.1) ?_
      refine r_iload_n C dX8_append_40 1 rfl ?_
      refine r_iastN (j := len) C dX8_append_41 rfl (rfl) (by omega) (by decide) ?_
      refine r_aload_n C dX8_append_42 0 rfl ?_
      refine r_dup C dX8_append_43 rfl ?_
      refine r_geti C dX8_append_44 5 f_X8_182 rfl rfl ?_
      refine r_valI (y := nI len) (by rw [mset_ne (by decide)]; exact hI.2.2.1) ?_
      refine r_iconst (v := 1) C dX8_append_47 rfl ?_
      refine r_iadd C dX8_append_48 ?_
      refine r_valI (y := nI (len + 1)) (nI_1 _) ?_
      refine r_puti C dX8_append_49 5 fi_X8_182 rfl rfl ?_
      refine r_aload_n C dX8_append_52 0 rfl ?_
      refine r_aload_n C dX8_append_53 0 rfl ?_
      refine r_geti C dX8_append_54 5 f_X8_182 rfl rfl ?_
      refine r_valI (y := nI (len + 1)) (by rw [mset_at, upd_at]) ?_
      refine r_callVI (As := [.int (nI (len + 1))]) (rest := []) C dX8_append_57 s_X8_44 (c_X8_tells l G hG (mset (mset M 111 len x) 107 5 (nI (len + 1))) g (nI (len + 1))) (by decide) rfl rfl rfl rfl (Nat.le_of_ble_eq_true rfl) (Nat.le_of_ble_eq_true rfl) (Nat.le_of_ble_eq_true rfl) (pk_I ?_)
      exact hend _ _ _ _ _ dX8_append_60 (rfl) (⟨app_fin hI hlt ((if_neg (not_of (hy4.t c7))).trans (if_neg (by omega))) rfl, rfl⟩)
    ·
      have h180 : len = 180 := (nI_eq (b := 180) (by omega) (by decide)).mp c23
      refine r_aload_n C dX8_append_26 0 rfl ?_
      refine r_iconst (v := 2) C dX8_append_27 rfl ?_
      refine r_callVI (As := [.int 2]) (rest := []) C dX8_append_28 s_X8_95 (c_X8_fails l G hG M g 2) (by decide) rfl rfl rfl rfl (Nat.le_of_ble_eq_true rfl) (Nat.le_of_ble_eq_true rfl) (Nat.le_of_ble_eq_true rfl) (pk_I ?_)
      exact hend _ _ _ _ _ dX8_append_31 (rfl) (⟨mt_f 2 hI (frW.rf M).t ((if_neg (not_of (hy4.t c7))).trans (if_pos h180)) (by decide), rfl⟩)
  ·
    refine r_aload_n C dX8_append_10 0 rfl ?_
    refine r_iconst (v := 1) C dX8_append_11 rfl ?_
    refine r_callVI (As := [.int 1]) (rest := []) C dX8_append_12 s_X8_95 (c_X8_fails l G hG M g 1) (by decide) rfl rfl rfl rfl (Nat.le_of_ble_eq_true rfl) (Nat.le_of_ble_eq_true rfl) (Nat.le_of_ble_eq_true rfl) (pk_I ?_)
    exact hend _ _ _ _ _ dX8_append_15 (rfl) (⟨mt_f 1 hI (frW.rf M).t (if_pos (hy4.f c7)) (by decide), rfl⟩)

set_option maxRecDepth 20000 in
set_option maxHeartbeats 1000000 in
theorem c_X8_clearText (l : Launch) (G : mG) (hG : mInj G) (M : Mem) (g : Glo) (V : View) (Hs : List View) (len : Nat) (T : Nat → Int32) (hW : wfV V) (hI : rINV M V Hs len T) : mcI l G yX8_clearText cX8_clearText 2 .int 2 [.ref (mA G 107)] M g (fun r M' g' => mtP M M' V Hs len T V Hs 0 T 0 r (nI len) ∧ g' = g) := by
  refine mcI_of (L0 := [(0, .ref (mA G 107))]) hG (by decide) (Nat.le_of_ble_eq_true rfl) rfl ?_
  intro p e s m args below meth c Q C hend
  have hT := hW.1
  obtain ⟨hn1, hn16, hb4, ⟨hd0, hd3, hd5, hd6⟩, hpar⟩ := id hT
  have hV := hI.1
  refine r_aload_n C dX8_clearText_0 0 rfl ?_
  refine r_geti C dX8_clearText_1 5 f_X8_182 rfl rfl ?_
  refine r_valI (y := nI len) (hI.2.2.1) ?_
  refine r_istore_n (L' := [(1, .int (nI len)), (0, .ref (mA G 107))]) C dX8_clearText_4 (by decide) rfl ?_
  refine r_aload_n C dX8_clearText_5 1 rfl ?_
  refine r_iconst (v := 0) C dX8_clearText_6 rfl ?_
  refine r_puti C dX8_clearText_7 5 fi_X8_182 rfl rfl ?_
  refine r_aload_n C dX8_clearText_10 1 rfl ?_
  refine r_iload_n C dX8_clearText_11 0 rfl ?_
  refine r_callVI (As := [.int (nI len)]) (rest := []) C dX8_clearText_12 s_X8_44 (c_X8_tells l G hG (mset M 107 5 0) g (nI len)) (by decide) rfl rfl rfl rfl (Nat.le_of_ble_eq_true rfl) (Nat.le_of_ble_eq_true rfl) (Nat.le_of_ble_eq_true rfl) (pk_I ?_)
  exact hend _ _ _ _ _ dX8_clearText_15 (rfl) (⟨clr_fin hI, rfl⟩)

set_option maxRecDepth 20000 in
set_option maxHeartbeats 1000000 in
theorem c_X8_undo0 (l : Launch) (G : mG) (hG : mInj G) (M : Mem) (g : Glo) (V : View) (Hs : List View) (len : Nat) (T : Nat → Int32) (hW : wfV V) (hI : rINV M V Hs len T) (hz : Hs = []) : mcI l G yX8_undo cX8_undo 2 .int 8 [.ref (mA G 107)] M g (fun r M' g' => mtP M M' V Hs len T V Hs len T (eUndo Hs) r 0 ∧ g' = g) := by
  refine mcI_of (L0 := [(0, .ref (mA G 107))]) hG (by decide) (Nat.le_of_ble_eq_true rfl) rfl ?_
  intro p e s m args below meth c Q C hend
  have hT := hW.1
  obtain ⟨hn1, hn16, hb4, ⟨hd0, hd3, hd5, hd6⟩, hpar⟩ := id hT
  have hV := hI.1
  refine r_aload_n C dX8_undo_0 0 rfl ?_
  refine r_geti C dX8_undo_1 3 f_X8_41 rfl rfl ?_
  refine r_valI (y := nI 0) (by rw [hI.2.1.1, hz]; rfl) ?_
  refine r_if_ne (tgt := 13) C dX8_undo_4 (by decide) (fun h => absurd (rfl) h) (fun _ => ?_)
  refine r_aload_n C dX8_undo_7 0 rfl ?_
  refine r_iconst (v := 1) C dX8_undo_8 rfl ?_
  refine r_callVI (As := [.int 1]) (rest := []) C dX8_undo_9 s_X8_95 (c_X8_fails l G hG M g 1) (by decide) rfl rfl rfl rfl (Nat.le_of_ble_eq_true rfl) (Nat.le_of_ble_eq_true rfl) (Nat.le_of_ble_eq_true rfl) (pk_I ?_)
  exact hend _ _ _ _ _ dX8_undo_12 (rfl) (⟨mt_f 1 hI (frW.rf M).t (if_pos (by rw [hz]; rfl)) (by decide), rfl⟩)

set_option maxRecDepth 20000 in
set_option maxHeartbeats 1000000 in
theorem c_X8_undo1 (l : Launch) (G : mG) (hG : mInj G) (M : Mem) (g : Glo) (V : View) (Hs : List View) (len : Nat) (T : Nat → Int32) (hW : wfV V) (hI : rINV M V Hs len T) (V0 : View) (Hs0 : List View) (hcat : Hs = Hs0 ++ [V0]) (hW0 : wfV V0) : mcI l G yX8_undo cX8_undo 2 .int 8 [.ref (mA G 107)] M g (fun r M' g' => mtP M M' V Hs len T V0 Hs0 len T (eUndo Hs) r (nI Hs0.length) ∧ g' = g) := by
  refine mcI_of (L0 := [(0, .ref (mA G 107))]) hG (by decide) (Nat.le_of_ble_eq_true rfl) rfl ?_
  intro p e s m args below meth c Q C hend
  have hT := hW.1
  obtain ⟨hn1, hn16, hb4, ⟨hd0, hd3, hd5, hd6⟩, hpar⟩ := id hT
  have hV := hI.1
  have hlen0 : Hs.length = Hs0.length + 1 := by rw [hcat]; simp
  have hle := hI.2.1.2.1
  refine r_aload_n C dX8_undo_0 0 rfl ?_
  refine r_geti C dX8_undo_1 3 f_X8_41 rfl rfl ?_
  refine r_valI (y := nI Hs.length) (hI.2.1.1) ?_
  refine r_if_ne (tgt := 13) C dX8_undo_4 (by decide) (fun _ => ?_) (fun h => absurd h (nI_ne0 (by omega) (by omega)))
  refine r_aload_n C dX8_undo_13 0 rfl ?_
  refine r_dup C dX8_undo_14 rfl ?_
  refine r_geti C dX8_undo_15 3 f_X8_41 rfl rfl ?_
  refine r_valI (y := nI Hs.length) (hI.2.1.1) ?_
  refine r_iconst (v := 1) C dX8_undo_18 rfl ?_
  refine r_isub C dX8_undo_19 ?_
  refine r_valI (y := nI Hs0.length) (by rw [hlen0]; exact nI_pred _) ?_
  refine r_puti C dX8_undo_20 3 fi_X8_41 rfl rfl ?_
  refine r_iconst (v := nI 0) C dX8_undo_23 rfl ?_
  refine r_istore_n (L' := [(1, .int (nI 0)), (0, .ref (mA G 107))]) C dX8_undo_24 (by decide) rfl ?_
  have lp25 : ∀ (fu : Nat) (k : Nat) (f : Nat → Int32), (k ≤ 149) → (∀ j, j < k → f j = M 109 (149 * Hs0.length + j)) → (149 - k) < fu → At p l e (rmD 8 0 0) s m args below meth c G 2 0 0 Q (mset (mrow M 108 f) 107 3 (nI Hs0.length)) g [(1, .int (nI k)), (0, .ref (mA G 107))] 25 [] := by
    intro fu
    induction fu with
    | zero => intro k f hkn hf hfu; exact absurd hfu (Nat.not_lt_zero _)
    | succ fu ih25 =>
      intro k f hkn hf hfu25
      refine r_iload_n C dX8_undo_25 0 rfl ?_
      refine r_sipush (v := 149) C dX8_undo_26 rfl ?_
      refine r_icmp_ge (tgt := 59) C dX8_undo_29 (by decide) (fun c29 => ?_) (fun c29 => ?_)
      ·
        have hkn2 : k = 149 := by have := le_of_le (a := 149) (by decide) (by omega) c29; omega
        refine r_aload_n C dX8_undo_59 1 rfl ?_
        refine r_aload_n C dX8_undo_60 1 rfl ?_
        refine r_geti C dX8_undo_61 3 f_X8_41 rfl rfl ?_
        refine r_valI (y := nI Hs0.length) (by rw [mset_at, upd_at]) ?_
        refine r_callVI (As := [.int (nI Hs0.length)]) (rest := []) C dX8_undo_64 s_X8_44 (c_X8_tells l G hG (mset (mrow M 108 f) 107 3 (nI Hs0.length)) g (nI Hs0.length)) (by decide) rfl rfl rfl rfl (Nat.le_of_ble_eq_true rfl) (Nat.le_of_ble_eq_true rfl) (Nat.le_of_ble_eq_true rfl) (pk_I ?_)
        exact hend _ _ _ _ _ dX8_undo_67 (rfl) (⟨und_fin hI hcat hW0.1.2.1 hW0.1.2.2.1 (fun j hj => hf j (by omega)) rfl, rfl⟩)
      ·
        have hlt : k < 149 := lt_of_nle (b := 149) (by omega) c29
        refine r_aload_n C dX8_undo_32 1 rfl ?_
        refine r_getr (q2 := 108) C dX8_undo_33 0 f_X8_7 rfl rfl ?_
        refine r_iload_n C dX8_undo_36 0 rfl ?_
        refine r_aload_n C dX8_undo_37 1 rfl ?_
        refine r_getr (q2 := 109) C dX8_undo_38 1 f_X8_13 rfl rfl ?_
        refine r_sipush (v := 149) C dX8_undo_41 rfl ?_
        refine r_aload_n C dX8_undo_44 1 rfl ?_
        refine r_geti C dX8_undo_45 3 f_X8_41 rfl rfl ?_
        refine r_valI (y := nI Hs0.length) (by rw [mset_at, upd_at]) ?_
        refine r_imul C dX8_undo_48 ?_
        refine r_iload_n C dX8_undo_49 0 rfl ?_
        refine r_iadd C dX8_undo_50 ?_
        refine r_ialdN (j := 149 * Hs0.length + k) (v := M 109 (149 * Hs0.length + k)) C dX8_undo_51 rfl (ix149 _ _) (by omega) (by decide) (by rw [mset_ne (by decide), mrow_ne (by decide)]) ?_
        refine r_iastN (j := k) C dX8_undo_52 rfl (rfl) (by omega) (by decide) ?_
        refine r_mem (M' := mset (mrow M 108 (upd f k (M 109 (149 * Hs0.length + k)))) 107 3 (nI Hs0.length)) (mset_row_c (by decide)) ?_
        refine r_iinc (v := nI (k + 1)) (L' := [(1, .int (nI (k + 1))), (0, .ref (mA G 107))]) C dX8_undo_53 0 rfl (nI_inc _) (by decide) rfl ?_
        refine r_goto (tgt := 25) C dX8_undo_56 (by decide) ?_
        refine r_sub (L' := [(1, .int (nI (k + 1))), (0, .ref (mA G 107))]) [0, 1] rfl ?_
        exact ih25 (k + 1) _ (by omega) (fun j hj => by rcases Nat.lt_or_ge j k with q | q; (rw [upd_ne (by omega)]; exact hf j q); (have e9 : j = k := by omega); subst e9; rw [upd_at]) (by omega)
  refine r_mem (M' := mset (mrow M 108 (M 108)) 107 3 (nI Hs0.length)) (by rw [mrow_self]) ?_
  refine r_sub (L' := [(1, .int (nI 0)), (0, .ref (mA G 107))]) [0, 1] rfl ?_
  exact lp25 _ 0 (M 108) (by omega) (fun j hj => absurd hj (Nat.not_lt_zero j)) (Nat.lt_succ_self _)

set_option maxRecDepth 20000 in
set_option maxHeartbeats 1000000 in
theorem c_X8_saves (l : Launch) (G : mG) (hG : mInj G) (M : Mem) (g : Glo) (V : View) (Hs : List View) (len : Nat) (T : Nat → Int32) (hW : wfV V) (hI : rINV M V Hs len T) (n : Int32) : mcI l G yX8_saves cX8_saves 5 .int 5 [.ref (mA G 107), .int n] M g (fun r M' g' => mtP M M' V Hs len T V Hs len T (ePp V n) r (savF V n.toNatClampNeg) ∧ g' = g) := by
  refine mcI_of (L0 := [(0, .ref (mA G 107)), (1, .int n)]) hG (by decide) (Nat.le_of_ble_eq_true rfl) rfl ?_
  intro p e s m args below meth c Q C hend
  have hT := hW.1
  obtain ⟨hn1, hn16, hb4, ⟨hd0, hd3, hd5, hd6⟩, hpar⟩ := id hT
  have hV := hI.1
  refine r_aload_n C dX8_saves_0 0 rfl ?_
  refine r_iload_n C dX8_saves_1 1 rfl ?_
  refine r_callVI (As := [.int n]) (rest := []) C dX8_saves_2 s_X8_115 (c_X8_isPipe l G hG M g V hW hV n) (by decide) rfl rfl rfl rfl (Nat.le_of_ble_eq_true rfl) (Nat.le_of_ble_eq_true rfl) (Nat.le_of_ble_eq_true rfl) (fun r2 M2 g2 hp2 => ?_)
  obtain ⟨hy2, eM2, eg2⟩ := hp2
  rw [eg2]
  rw [eM2]
  refine r_if_ne (tgt := 14) C dX8_saves_5 (by decide) (fun c5 => ?_) (fun c5 => ?_)
  ·
    obtain ⟨j, hj0, hj, hnj⟩ := isPp_nI (by omega) (hy2.t c5)
    have e9 : n.toNatClampNeg = j := by rw [hnj]; exact nI_clamp (by omega)
    refine r_aload_n C dX8_saves_14 0 rfl ?_
    refine r_callVV (As := []) (rest := []) C dX8_saves_15 s_X8_126 (c_X8_works l G hG M g V hW hV) (by decide) rfl rfl rfl rfl (Nat.le_of_ble_eq_true rfl) (Nat.le_of_ble_eq_true rfl) (Nat.le_of_ble_eq_true rfl) (fun M15 g15 hp15 => ?_)
    obtain ⟨⟨o15, hR15⟩, eg15⟩ := hp15
    rw [eg15]
    have hV15 := (frW.of o15).rv hV
    refine r_aload_n C dX8_saves_18 0 rfl ?_
    refine r_callVI (As := []) (rest := []) C dX8_saves_19 s_X8_132 (c_X8_costs l G hG M15 g V hW hV15 hR15) (by decide) rfl rfl rfl rfl (Nat.le_of_ble_eq_true rfl) (Nat.le_of_ble_eq_true rfl) (Nat.le_of_ble_eq_true rfl) (fun r19 M19 g19 hp19 => ?_)
    obtain ⟨⟨e19, hc19⟩, eg19⟩ := hp19
    rw [eg19]
    have hV19 := hc19.fr.rv hV15
    have hR19 := hc19.ok hR15
    refine r_istore_n (L' := [(2, .int r19), (0, .ref (mA G 107)), (1, .int n)]) C dX8_saves_22 (by decide) rfl ?_
    refine r_aload_n C dX8_saves_23 1 rfl ?_
    refine r_iload_n C dX8_saves_24 2 rfl ?_
    refine r_valI (y := nI j) (hnj) ?_
    refine r_iconst (v := 5) C dX8_saves_25 rfl ?_
    refine r_callVI (As := [.int (nI j), .int 5]) (rest := []) C dX8_saves_26 s_X8_48 (c_X8_of l G hG M19 g V hW hV19 j hj 5 (by decide)) (by decide) rfl rfl rfl rfl (Nat.le_of_ble_eq_true rfl) (Nat.le_of_ble_eq_true rfl) (Nat.le_of_ble_eq_true rfl) (pk_I ?_)
    refine r_istore_n (L' := [(3, .int (vD V 5 j)), (2, .int r19), (0, .ref (mA G 107)), (1, .int n)]) C dX8_saves_29 (by decide) rfl ?_
    refine r_aload_n C dX8_saves_30 2 rfl ?_
    refine r_iload_n C dX8_saves_31 3 rfl ?_
    refine r_valI (y := nI j) (hnj) ?_
    refine r_iconst (v := 5) C dX8_saves_32 rfl ?_
    refine r_iconst (v := 0) C dX8_saves_33 rfl ?_
    refine r_callVV (As := [.int (nI j), .int 5, .int 0]) (rest := []) C dX8_saves_34 s_X8_87 (c_X8_puts l G hG M19 g j 5 (by omega) (by decide) 0) (by decide) rfl rfl rfl rfl (Nat.le_of_ble_eq_true rfl) (Nat.le_of_ble_eq_true rfl) (Nat.le_of_ble_eq_true rfl) (pk_V ?_)
    have hw2 : wfV (vSet V 5 j 0) := wf_set5 hW hj0 ⟨by decide, by decide⟩
    have hV2 : rV ((mset M19 108 (9 + 8 * j + 5) 0) 108) (vSet V 5 j 0) := by rw [mset_at]; exact rV_set hn16 hV19 (by decide) hj
    refine r_aload_n C dX8_saves_37 2 rfl ?_
    refine r_callVV (As := []) (rest := []) C dX8_saves_38 s_X8_126 (c_X8_works l G hG (mset M19 108 (9 + 8 * j + 5) 0) g (vSet V 5 j 0) hw2 hV2) (by decide) rfl rfl rfl rfl (Nat.le_of_ble_eq_true rfl) (Nat.le_of_ble_eq_true rfl) (Nat.le_of_ble_eq_true rfl) (fun M38 g38 hp38 => ?_)
    obtain ⟨⟨o38, hR38⟩, eg38⟩ := hp38
    rw [eg38]
    have hV38 := (frW.of o38).rv hV2
    refine r_aload_n C dX8_saves_41 2 rfl ?_
    refine r_callVI (As := []) (rest := []) C dX8_saves_42 s_X8_132 (c_X8_costs l G hG M38 g (vSet V 5 j 0) hw2 hV38 hR38) (by decide) rfl rfl rfl rfl (Nat.le_of_ble_eq_true rfl) (Nat.le_of_ble_eq_true rfl) (Nat.le_of_ble_eq_true rfl) (fun r42 M42 g42 hp42 => ?_)
    obtain ⟨⟨e42, hc42⟩, eg42⟩ := hp42
    rw [eg42]
    have hV42 := hc42.fr.rv hV38
    have hR42 := hc42.ok hR38
    refine r_istore (L' := [(4, .int r42), (3, .int (vD V 5 j)), (2, .int r19), (0, .ref (mA G 107)), (1, .int n)]) C dX8_saves_45 (by decide) rfl ?_
    refine r_aload_n C dX8_saves_47 3 rfl ?_
    refine r_iload_n C dX8_saves_48 4 rfl ?_
    refine r_valI (y := nI j) (hnj) ?_
    refine r_iconst (v := 5) C dX8_saves_49 rfl ?_
    refine r_iload_n C dX8_saves_50 1 rfl ?_
    refine r_callVV (As := [.int (nI j), .int 5, .int (vD V 5 j)]) (rest := []) C dX8_saves_51 s_X8_87 (c_X8_puts l G hG M42 g j 5 (by omega) (by decide) (vD V 5 j)) (by decide) rfl rfl rfl rfl (Nat.le_of_ble_eq_true rfl) (Nat.le_of_ble_eq_true rfl) (Nat.le_of_ble_eq_true rfl) (pk_V ?_)
    refine r_aload_n C dX8_saves_54 3 rfl ?_
    refine r_iload_n C dX8_saves_55 2 rfl ?_
    refine r_iload C dX8_saves_56 0 rfl ?_
    refine r_isub C dX8_saves_58 ?_
    refine r_callVI (As := [.int (r19 - r42)]) (rest := []) C dX8_saves_59 s_X8_44 (c_X8_tells l G hG (mset M42 108 (9 + 8 * j + 5) (vD V 5 j)) g (r19 - r42)) (by decide) rfl rfl rfl rfl (Nat.le_of_ble_eq_true rfl) (Nat.le_of_ble_eq_true rfl) (Nat.le_of_ble_eq_true rfl) (pk_I ?_)
    exact hend _ _ _ _ _ dX8_saves_62 (rfl) (by rw [e9]; exact ⟨mt_r hI (sav_fr ((frW.of o15).tr hc19.fr) (hV19.2.2.1 5 (by decide) j hj) ((frW.of o38).tr hc42.fr)).t (if_neg (not_of (hy2.t c5))) (by rw [e19, e42]; rfl), rfl⟩)
  ·
    refine r_aload_n C dX8_saves_8 0 rfl ?_
    refine r_iconst (v := 1) C dX8_saves_9 rfl ?_
    refine r_callVI (As := [.int 1]) (rest := []) C dX8_saves_10 s_X8_95 (c_X8_fails l G hG M g 1) (by decide) rfl rfl rfl rfl (Nat.le_of_ble_eq_true rfl) (Nat.le_of_ble_eq_true rfl) (Nat.le_of_ble_eq_true rfl) (pk_I ?_)
    exact hend _ _ _ _ _ dX8_saves_13 (rfl) (⟨mt_f 1 hI (frW.rf M).t (if_pos (hy2.f c5)) (by decide), rfl⟩)
