def grP (V : View) (W : Nat → Int32) (sup : Int32) : Prop := ∀ j, 0 < j → j < vN V → W j ≤ warmF V sup j
def lowP (V : View) (W : Nat → Int32) (r : Int32) : Prop := (r = -1 ∧ ∀ s : Nat, 400 ≤ s → s ≤ 1200 → ¬ grP V W (nI s)) ∨ ∃ s : Nat, 400 ≤ s ∧ s ≤ 1200 ∧ r = nI s ∧ grP V W (nI s) ∧ ∀ t : Nat, 400 ≤ t → t < s → ¬ grP V W (nI t)
def pw : Nat → Nat
  | 0 => 1
  | e + 1 => 2 * pw e
theorem pw_f : ∀ e, e ≤ 10 → pw e ≤ 1024 ∧ (0 < e → pw e = 2 * (pw e / 2) ∧ pw (e - 1) = pw e / 2 ∧ 0 < pw e / 2) := by decide
theorem inR_nI {s : Nat} (h : s ≤ 1200) : inR (nI s) (-200) 1200 := ⟨by rw [nI_toInt (by omega)]; omega, by rw [nI_toInt (by omega)]; omega⟩
theorem gr_mono {V : View} (hW : wfV V) {W : Nat → Int32} {a s : Nat} (h : grP V W (nI a)) (has : a ≤ s) (hs : s ≤ 1200) : grP V W (nI s) := fun j h0 hj => by
  have h1 := h j h0 hj
  have h2 := warm_mono hW (inR_nI (by omega : a ≤ 1200)) (inR_nI hs) ((nI_leI (by omega) (by omega)).mpr has) j j (Nat.le_refl _) hj
  rw [i32_le] at h1 h2 ⊢
  omega

set_option maxRecDepth 20000 in
set_option maxHeartbeats 1000000 in
theorem c_X7_grantsWishes (l : Launch) (G : mG) (hG : mInj G) (M : Mem) (g : Glo) (V : View) (hT : wfT V) (hS : cSt M 1 V) (hz : wfZ V) (W : Nat → Int32) (hfl : ∀ j, j < vN V → M (86 + 1) j = flowF V j) (hWi : ∀ j, j < vN V → M 106 j = W j) (sup : Int32) : mcI l G yX7_grantsWishes cX7_grantsWishes 3 .boolean 4 [.ref (mA G 0), .int sup] M g (fun r M' g' => ((r = 1 ∧ grP V W sup ∨ r = 0 ∧ ¬ grP V W sup) ∧ ∃ f, M' = mrow M (86 + 2) f) ∧ g' = g) := by
  refine mcI_of (L0 := [(0, .ref (mA G 0)), (1, .int sup)]) hG (by decide) (Nat.le_of_ble_eq_true rfl) rfl ?_
  intro p e s m args below meth c Q C hend
  obtain ⟨hn1, hn16, hb4, ⟨hd0, hd3, hd5, hd6⟩, hpar⟩ := id hT
  refine r_aload_n C dX7_grantsWishes_0 0 rfl ?_
  refine r_getr (q2 := 86) C dX7_grantsWishes_1 5 f_X7_44 rfl rfl ?_
  refine r_aload_n C dX7_grantsWishes_4 0 rfl ?_
  refine r_getr (q2 := 1) C dX7_grantsWishes_5 0 f_X7_10 rfl rfl ?_
  refine r_iload_n C dX7_grantsWishes_8 1 rfl ?_
  refine r_callVV (As := [.ref (mA G 1), .int sup]) (rest := []) C dX7_grantsWishes_9 s_X7_325 (c_X2_settleWarmth l G hG M g V hT hS.1 86 isHour_86 (by decide) sup hS.2.2.2.1 hfl hz) (by decide) rfl rfl rfl rfl (Nat.le_of_ble_eq_true rfl) (Nat.le_of_ble_eq_true rfl) (Nat.le_of_ble_eq_true rfl) (fun M9 g9 hp9 => ?_)
  obtain ⟨⟨f, rfl, hf⟩, eg9⟩ := hp9
  rw [eg9]
  refine r_iconst (v := nI 1) C dX7_grantsWishes_12 rfl ?_
  refine r_istore_n (L' := [(2, .int (nI 1)), (0, .ref (mA G 0)), (1, .int sup)]) C dX7_grantsWishes_13 (by decide) rfl ?_
  have lp14 : ∀ (fu : Nat) (k : Nat), (0 < k) → (k ≤ vN V) → (∀ j, 0 < j → j < k → W j ≤ warmF V sup j) → (vN V - k) < fu → At p l e (rmD 4 0 0) s m args below meth c G 3 0 0 Q (mrow M (86 + 2) f) g [(2, .int (nI k)), (0, .ref (mA G 0)), (1, .int sup)] 14 [] := by
    intro fu
    induction fu with
    | zero => intro k hk0 hkn hgr hfu; exact absurd hfu (Nat.not_lt_zero _)
    | succ fu ih14 =>
      intro k hk0 hkn hgr hfu14
      refine r_iload_n C dX7_grantsWishes_14 0 rfl ?_
      refine r_aload_n C dX7_grantsWishes_15 1 rfl ?_
      refine r_getr (q2 := 1) C dX7_grantsWishes_16 0 f_X7_10 rfl rfl ?_
      refine r_getr (q2 := 2) C dX7_grantsWishes_19 0 f_X7_72 rfl rfl ?_
      refine r_geti C dX7_grantsWishes_22 8 f_X7_75 rfl rfl ?_
      refine r_valI (y := nI (vN V)) (by rw [mrow_ne (by decide)]; exact hS.1.1) ?_
      refine r_icmp_ge (tgt := 54) C dX7_grantsWishes_25 (by decide) (fun c25 => ?_) (fun c25 => ?_)
      ·
        have hkn2 : k = vN V := by have := le_of_le (by omega) (by omega) c25; omega
        refine r_iconst (v := 1) C dX7_grantsWishes_54 rfl ?_
        exact hend _ _ _ _ _ dX7_grantsWishes_55 (rfl) (⟨⟨Or.inl ⟨rfl, fun j h1 h2 => hgr j h1 (by omega)⟩, _, rfl⟩, rfl⟩)
      ·
        have hlt : k < vN V := lt_of_nle (by omega) c25
        refine r_aload_n C dX7_grantsWishes_28 1 rfl ?_
        refine r_getr (q2 := 86) C dX7_grantsWishes_29 5 f_X7_44 rfl rfl ?_
        refine r_getr (q2 := 88) C dX7_grantsWishes_32 1 f_X7_278 rfl rfl ?_
        refine r_iload_n C dX7_grantsWishes_35 0 rfl ?_
        refine r_ialdN (j := k) (v := warmF V sup k) C dX7_grantsWishes_36 rfl (rfl) (by omega) (by decide) (by rw [mrow_at]; exact hf k hlt) ?_
        refine r_aload_n C dX7_grantsWishes_37 1 rfl ?_
        refine r_getr (q2 := 106) C dX7_grantsWishes_38 8 f_X7_57 rfl rfl ?_
        refine r_iload_n C dX7_grantsWishes_41 0 rfl ?_
        refine r_ialdN (j := k) (v := W k) C dX7_grantsWishes_42 rfl (rfl) (by omega) (by decide) (by rw [mrow_ne (by decide)]; exact hWi k hlt) ?_
        refine r_icmp_ge (tgt := 48) C dX7_grantsWishes_43 (by decide) (fun c43 => ?_) (fun c43 => ?_)
        ·
          refine r_iinc (v := nI (k + 1)) (L' := [(2, .int (nI (k + 1))), (0, .ref (mA G 0)), (1, .int sup)]) C dX7_grantsWishes_48 0 rfl (nI_inc _) (by decide) rfl ?_
          refine r_goto (tgt := 14) C dX7_grantsWishes_51 (by decide) ?_
          refine r_sub (L' := [(2, .int (nI (k + 1))), (0, .ref (mA G 0)), (1, .int sup)]) [0, 1, 2] rfl ?_
          exact ih14 (k + 1) (by omega) (by omega) (fun j h1 h2 => by rcases Nat.lt_or_ge j k with q | q; exact hgr j h1 q; (have e : j = k := by omega); subst e; exact c43) (by omega)
        ·
          refine r_iconst (v := 0) C dX7_grantsWishes_46 rfl ?_
          exact hend _ _ _ _ _ dX7_grantsWishes_47 (rfl) (⟨⟨Or.inr ⟨rfl, fun z => c43 (z k hk0 hlt)⟩, _, rfl⟩, rfl⟩)
  refine r_sub (L' := [(2, .int (nI 1)), (0, .ref (mA G 0)), (1, .int sup)]) [0, 1, 2] rfl ?_
  exact lp14 _ 1 (by omega) hn1 (fun j h1 h2 => absurd h1 (by omega)) (Nat.lt_succ_self _)

set_option maxRecDepth 20000 in
set_option maxHeartbeats 1000000 in
theorem c_X7_lowestSupplyForWishes (l : Launch) (G : mG) (hG : mInj G) (M : Mem) (g : Glo) (V : View) (hW : wfV V) (hS : cSt M 1 V) (W : Nat → Int32) (hWi : ∀ j, j < vN V → M 106 j = W j) : mcI l G yX7_lowestSupplyForWishes cX7_lowestSupplyForWishes 4 .int 5 [.ref (mA G 0)] M g (fun r M' g' => (lowP V W r ∧ offR M M' 86 88) ∧ g' = g) := by
  refine mcI_of (L0 := [(0, .ref (mA G 0))]) hG (by decide) (Nat.le_of_ble_eq_true rfl) rfl ?_
  intro p e s m args below meth c Q C hend
  have hT := hW.1
  refine r_aload_n C dX7_lowestSupplyForWishes_0 0 rfl ?_
  refine r_getr (q2 := 86) C dX7_lowestSupplyForWishes_1 5 f_X7_44 rfl rfl ?_
  refine r_aload_n C dX7_lowestSupplyForWishes_4 0 rfl ?_
  refine r_getr (q2 := 1) C dX7_lowestSupplyForWishes_5 0 f_X7_10 rfl rfl ?_
  refine r_getr (q2 := 2) C dX7_lowestSupplyForWishes_8 0 f_X7_72 rfl rfl ?_
  refine r_callVV (As := [.ref (mA G 2)]) (rest := []) C dX7_lowestSupplyForWishes_11 s_X7_318 (c_X2_settleFlows l G hG M g V hT hS.1 86 isHour_86 (by decide)) (by decide) rfl rfl rfl rfl (Nat.le_of_ble_eq_true rfl) (Nat.le_of_ble_eq_true rfl) (Nat.le_of_ble_eq_true rfl) (fun M11 g11 hp11 => ?_)
  obtain ⟨⟨f, rfl, hf⟩, eg11⟩ := hp11
  rw [eg11]
  refine r_sipush (v := nI 399) C dX7_lowestSupplyForWishes_14 rfl ?_
  refine r_istore_n (L' := [(1, .int (nI 399)), (0, .ref (mA G 0))]) C dX7_lowestSupplyForWishes_17 (by decide) rfl ?_
  refine r_sipush (v := nI 512) C dX7_lowestSupplyForWishes_18 rfl ?_
  refine r_istore_n (L' := [(2, .int (nI 512)), (1, .int (nI 399)), (0, .ref (mA G 0))]) C dX7_lowestSupplyForWishes_21 (by decide) rfl ?_
  have lp22 : ∀ (fu : Nat) (ee : Nat) (b : Nat) (M1 : Mem), (ee ≤ 10) → (399 ≤ b ∧ b ≤ 1200) → (∀ s : Nat, 400 ≤ s → s ≤ b → ¬ grP V W (nI s)) → (∀ s : Nat, b + pw ee ≤ s → s ≤ 1200 → grP V W (nI s)) → (offR M M1 86 88) → (∀ j, j < vN V → M1 (86 + 1) j = flowF V j) → ee < fu → At p l e (rmD 5 0 0) s m args below meth c G 4 0 0 Q M1 g [(2, .int (nI (pw ee / 2))), (1, .int (nI b)), (0, .ref (mA G 0))] 22 [] := by
    intro fu
    induction fu with
    | zero => intro ee b M1 he hb hlo hhi hM hf1 hfu; exact absurd hfu (Nat.not_lt_zero _)
    | succ fu ih22 =>
      intro ee b M1 he hb hlo hhi hM hf1 hfu22
      obtain ⟨hp1, hp2⟩ := pw_f ee he
      refine r_iload_n C dX7_lowestSupplyForWishes_22 0 rfl ?_
      refine r_if_le (tgt := 54) C dX7_lowestSupplyForWishes_23 (by decide) (fun c23 => ?_) (fun c23 => ?_)
      ·
        have he0 : ee = 0 := by rcases Nat.eq_zero_or_pos ee with q | q; exact q; exact absurd c23 (nI_nle (hp2 q).2.2 (by omega))
        refine r_iload_n C dX7_lowestSupplyForWishes_54 1 rfl ?_
        refine r_sipush (v := 1200) C dX7_lowestSupplyForWishes_55 rfl ?_
        refine r_icmp_ge (tgt := 67) C dX7_lowestSupplyForWishes_58 (by decide) (fun c58 => ?_) (fun c58 => ?_)
        ·
          have h12 : b = 1200 := by have := (nI_leI (a := 1200) (by decide) (by omega)).mp c58; omega
          refine r_iconst (v := (-1)) C dX7_lowestSupplyForWishes_67 rfl ?_
          exact hend _ _ _ _ _ dX7_lowestSupplyForWishes_68 (rfl) (⟨⟨Or.inl ⟨rfl, fun s h1 h2 => hlo s h1 (by omega)⟩, hM⟩, rfl⟩)
        ·
          have h12 : b < 1200 := by rcases Nat.lt_or_ge b 1200 with q | q; exact q; exact absurd ((nI_leI (a := 1200) (by decide) (by omega)).mpr q) c58
          refine r_iload_n C dX7_lowestSupplyForWishes_61 1 rfl ?_
          refine r_iconst (v := 1) C dX7_lowestSupplyForWishes_62 rfl ?_
          refine r_iadd C dX7_lowestSupplyForWishes_63 ?_
          refine r_valI (y := nI (b + 1)) (nI_1 _) ?_
          refine r_goto (tgt := 68) C dX7_lowestSupplyForWishes_64 (by decide) ?_
          exact hend _ _ _ _ _ dX7_lowestSupplyForWishes_68 (rfl) (⟨⟨Or.inr ⟨b + 1, by omega, by omega, rfl, hhi (b + 1) (by rw [he0, show pw 0 = 1 from rfl]; omega) (by omega), fun t h1 h2 => hlo t h1 (by omega)⟩, hM⟩, rfl⟩)
      ·
        have he1 : 0 < ee := by rcases Nat.eq_zero_or_pos ee with q | q; (subst q; exact absurd (by decide) c23); exact q
        obtain ⟨hp3, hp4, hp5⟩ := hp2 he1
        refine r_iload_n C dX7_lowestSupplyForWishes_26 1 rfl ?_
        refine r_iload_n C dX7_lowestSupplyForWishes_27 0 rfl ?_
        refine r_iadd C dX7_lowestSupplyForWishes_28 ?_
        refine r_valI (y := nI (b + pw ee / 2)) (nI_add _ _) ?_
        refine r_istore_n (L' := [(3, .int (nI (b + pw ee / 2))), (2, .int (nI (pw ee / 2))), (1, .int (nI b)), (0, .ref (mA G 0))]) C dX7_lowestSupplyForWishes_29 (by decide) rfl ?_
        refine r_iload_n C dX7_lowestSupplyForWishes_30 0 rfl ?_
        refine r_sipush (v := 1200) C dX7_lowestSupplyForWishes_31 rfl ?_
        refine r_icmp_gt (tgt := 47) C dX7_lowestSupplyForWishes_34 (by decide) (fun c34 => ?_) (fun c34 => ?_)
        ·
          have hx : 1200 < b + pw ee / 2 := (nI_ltI (a := 1200) (by decide) (by omega)).mp c34
          refine r_iload_n C dX7_lowestSupplyForWishes_47 1 rfl ?_
          refine r_iconst (v := 2) C dX7_lowestSupplyForWishes_48 rfl ?_
          refine r_idiv C dX7_lowestSupplyForWishes_49 (by decide) ?_
          refine r_valI (y := nI (pw (ee - 1) / 2)) (by rw [hp4]; exact pk_div (by omega) (by decide) (by decide)) ?_
          refine r_istore_n (L' := [(2, .int (nI (pw (ee - 1) / 2))), (3, .int (nI (b + pw ee / 2))), (1, .int (nI b)), (0, .ref (mA G 0))]) C dX7_lowestSupplyForWishes_50 (by decide) rfl ?_
          refine r_goto (tgt := 22) C dX7_lowestSupplyForWishes_51 (by decide) ?_
          refine r_sub (L' := [(2, .int (nI (pw (ee - 1) / 2))), (1, .int (nI b)), (0, .ref (mA G 0))]) [0, 2, 3] rfl ?_
          exact ih22 (ee - 1) b M1 (by omega) hb hlo (fun s h1 h2 => absurd hx (by omega)) hM hf1 (by omega)
        ·
          have hx : b + pw ee / 2 ≤ 1200 := by rcases Nat.lt_or_ge 1200 (b + pw ee / 2) with q | q; exact absurd ((nI_ltI (a := 1200) (by decide) (by omega)).mpr q) c34; exact q
          refine r_aload_n C dX7_lowestSupplyForWishes_37 3 rfl ?_
          refine r_iload_n C dX7_lowestSupplyForWishes_38 0 rfl ?_
          refine r_callVI (As := [.int (nI (b + pw ee / 2))]) (rest := []) C dX7_lowestSupplyForWishes_39 s_X7_321 (c_X7_grantsWishes l G hG M1 g V hT (hS.off hM (by omega)) (wfZ_of hW) W hf1 (fun j hj => by rw [hM 106 (by omega)]; exact hWi j hj) (nI (b + pw ee / 2))) (by decide) rfl rfl rfl rfl (Nat.le_of_ble_eq_true rfl) (Nat.le_of_ble_eq_true rfl) (Nat.le_of_ble_eq_true rfl) (fun r39 M39 g39 hp39 => ?_)
          obtain ⟨⟨hr39, f39, rfl⟩, eg39⟩ := hp39
          rw [eg39]
          refine r_if_ne (tgt := 47) C dX7_lowestSupplyForWishes_42 (by decide) (fun c42 => ?_) (fun c42 => ?_)
          ·
            have hgr : grP V W (nI (b + pw ee / 2)) := by rcases hr39 with q | q; exact q.2; exact absurd q.1 c42
            refine r_iload_n C dX7_lowestSupplyForWishes_47 1 rfl ?_
            refine r_iconst (v := 2) C dX7_lowestSupplyForWishes_48 rfl ?_
            refine r_idiv C dX7_lowestSupplyForWishes_49 (by decide) ?_
            refine r_valI (y := nI (pw (ee - 1) / 2)) (by rw [hp4]; exact pk_div (by omega) (by decide) (by decide)) ?_
            refine r_istore_n (L' := [(2, .int (nI (pw (ee - 1) / 2))), (3, .int (nI (b + pw ee / 2))), (1, .int (nI b)), (0, .ref (mA G 0))]) C dX7_lowestSupplyForWishes_50 (by decide) rfl ?_
            refine r_goto (tgt := 22) C dX7_lowestSupplyForWishes_51 (by decide) ?_
            refine r_sub (L' := [(2, .int (nI (pw (ee - 1) / 2))), (1, .int (nI b)), (0, .ref (mA G 0))]) [0, 2, 3] rfl ?_
            exact ih22 (ee - 1) b (mrow M1 (86 + 2) f39) (by omega) hb hlo (fun s h1 h2 => gr_mono hW hgr (by omega) h2) (hM.tr (offR.row f39 (by decide) (by decide) : offR M1 (mrow M1 (86 + 2) f39) 86 88) (by decide) (by decide) (by decide) (by decide)) (fun j hj => by rw [mrow_ne (by decide)]; exact hf1 j hj) (by omega)
          ·
            have hgr : ¬ grP V W (nI (b + pw ee / 2)) := by rcases hr39 with q | q; (rw [q.1] at c42; exact absurd c42 (by decide)); exact q.2
            refine r_iload_n C dX7_lowestSupplyForWishes_45 0 rfl ?_
            refine r_istore_n (L' := [(1, .int (nI (b + pw ee / 2))), (3, .int (nI (b + pw ee / 2))), (2, .int (nI (pw ee / 2))), (0, .ref (mA G 0))]) C dX7_lowestSupplyForWishes_46 (by decide) rfl ?_
            refine r_iload_n C dX7_lowestSupplyForWishes_47 2 rfl ?_
            refine r_iconst (v := 2) C dX7_lowestSupplyForWishes_48 rfl ?_
            refine r_idiv C dX7_lowestSupplyForWishes_49 (by decide) ?_
            refine r_valI (y := nI (pw (ee - 1) / 2)) (by rw [hp4]; exact pk_div (by omega) (by decide) (by decide)) ?_
            refine r_istore_n (L' := [(2, .int (nI (pw (ee - 1) / 2))), (1, .int (nI (b + pw ee / 2))), (3, .int (nI (b + pw ee / 2))), (0, .ref (mA G 0))]) C dX7_lowestSupplyForWishes_50 (by decide) rfl ?_
            refine r_goto (tgt := 22) C dX7_lowestSupplyForWishes_51 (by decide) ?_
            refine r_sub (L' := [(2, .int (nI (pw (ee - 1) / 2))), (1, .int (nI (b + pw ee / 2))), (0, .ref (mA G 0))]) [0, 1, 3] rfl ?_
            exact ih22 (ee - 1) (b + pw ee / 2) (mrow M1 (86 + 2) f39) (by omega) (by omega) (fun s h1 h2 z => hgr (gr_mono hW z h2 (by omega))) (fun s h1 h2 => hhi s (by omega) h2) (hM.tr (offR.row f39 (by decide) (by decide) : offR M1 (mrow M1 (86 + 2) f39) 86 88) (by decide) (by decide) (by decide) (by decide)) (fun j hj => by rw [mrow_ne (by decide)]; exact hf1 j hj) (by omega)
  refine r_sub (L' := [(2, .int (nI 512)), (1, .int (nI 399)), (0, .ref (mA G 0))]) [0, 1, 2] rfl ?_
  exact lp22 _ 10 399 (mrow M (86 + 1) f) (by omega) (by omega) (fun s h1 h2 => absurd h2 (by omega)) (fun s h1 h2 => absurd h1 (by rw [show pw 10 = 1024 from rfl]; omega)) (offR.row f (by decide) (by decide)) (fun j hj => by rw [mrow_at]; exact hf j hj) (Nat.lt_succ_self _)

def wisF (i : Nat) (x : Int32) (j : Nat) : Int32 := if j = i then x else -1000
def wchF (V : View) (j : Nat) : Int32 := if vD V 3 j ≤ 0 then -1000 else vD V 4 j + 100
set_option maxRecDepth 20000 in
set_option maxHeartbeats 1000000 in
theorem c_X7_supplyFor (l : Launch) (G : mG) (hG : mInj G) (M : Mem) (g : Glo) (hfl : l.stackTraces = false) (V : View) (Hs : List View) (len : Nat) (T : Nat → Int32) (hI : cINV M V Hs len T) (n w : Int32) : mcXI l G yX7_supplyFor cX7_supplyFor 4 7 2 12 [.ref (mA G 0), .int n, .int w] M g (fun r M' g' => (eSup V n w = 0 ∧ lowP V (wisF n.toNatClampNeg w) r ∧ cINV M' V Hs len T ∧ offC M M') ∧ g' = g) (fun E => (E = IOO ∧ eSup V n w = 1) ∨ (E = IAE ∧ eSup V n w = 2)) := by
  refine mcXI_of (L0 := [(0, .ref (mA G 0)), (1, .int n), (2, .int w)]) hG (by decide) (Nat.le_of_ble_eq_true rfl) rfl ?_
  intro p e s m args below meth c Q C hno hend hqw hqx
  obtain ⟨hC, hW, hH, hHs, hTx, hP0⟩ := id hI
  have hT := hW.1
  obtain ⟨hn1, hn16, hb4, ⟨hd0, hd3, hd5, hd6⟩, hpar⟩ := id hT
  refine r_aload_n C dX7_supplyFor_0 0 rfl ?_
  refine r_iload_n C dX7_supplyFor_1 1 rfl ?_
  refine r_xVV (As := [.int n]) (rest := []) C dX7_supplyFor_2 s_X7_94 (c_X7_requirePipe l G hG M g hfl V hn16 hC.net.1 n) (by decide) rfl rfl rfl rfl (Nat.le_of_ble_eq_true rfl) (Nat.le_of_ble_eq_true rfl) (Nat.le_of_ble_eq_true rfl) (fun E9 hE9 => r_outX hno hqx (Or.inl (⟨hE9.1, if_pos hE9.2⟩)) (Nat.le_of_ble_eq_true rfl) (Nat.le_of_ble_eq_true rfl)) (pk_VC (fun hc2 => ?_))
  obtain ⟨j, hj0, hj, hnj⟩ := isPp_nI (by omega) hc2
  have e9 : n.toNatClampNeg = j := by rw [hnj]; exact nI_clamp (by omega)
  refine r_iload_n C dX7_supplyFor_5 2 rfl ?_
  refine r_sipush (v := (-200)) C dX7_supplyFor_6 rfl ?_
  refine r_sipush (v := 1200) C dX7_supplyFor_9 rfl ?_
  refine r_xSV (As := [.int w, .int (-200), .int 1200]) (rest := []) C dX7_supplyFor_12 s_X7_68 (c_X7_requireWithin l G hG M g hfl w (-200) 1200) (by decide) rfl rfl (Nat.le_of_ble_eq_true rfl) (Nat.le_of_ble_eq_true rfl) (Nat.le_of_ble_eq_true rfl) (fun E9 hE9 => r_outX hno hqx (Or.inr (⟨hE9.1, (if_neg (not_of hc2)).trans (if_pos hE9.2)⟩)) (Nat.le_of_ble_eq_true rfl) (Nat.le_of_ble_eq_true rfl)) (pk_VC (fun hc12 => ?_))
  refine r_iconst (v := nI 0) C dX7_supplyFor_15 rfl ?_
  refine r_istore_n (L' := [(3, .int (nI 0)), (0, .ref (mA G 0)), (1, .int n), (2, .int w)]) C dX7_supplyFor_16 (by decide) rfl ?_
  have lp17 : ∀ (fu : Nat) (k : Nat) (f : Nat → Int32), (k ≤ vN V) → (∀ i, i < k → f i = -1000) → (vN V - k) < fu → At p l e (rmD 7 2 12) s m args below meth c G 4 2 12 Q (mrow M 106 f) g [(3, .int (nI k)), (0, .ref (mA G 0)), (1, .int n), (2, .int w)] 17 [] := by
    intro fu
    induction fu with
    | zero => intro k f hkn hf0 hfu; exact absurd hfu (Nat.not_lt_zero _)
    | succ fu ih17 =>
      intro k f hkn hf0 hfu17
      refine r_iload_n C dX7_supplyFor_17 0 rfl ?_
      refine r_aload_n C dX7_supplyFor_18 1 rfl ?_
      refine r_getr (q2 := 1) C dX7_supplyFor_19 0 f_X7_10 rfl rfl ?_
      refine r_getr (q2 := 2) C dX7_supplyFor_22 0 f_X7_72 rfl rfl ?_
      refine r_geti C dX7_supplyFor_25 8 f_X7_75 rfl rfl ?_
      refine r_valI (y := nI (vN V)) (by rw [mrow_ne (by decide)]; exact hC.net.1) ?_
      refine r_icmp_ge (tgt := 46) C dX7_supplyFor_28 (by decide) (fun c28 => ?_) (fun c28 => ?_)
      ·
        have hkn2 : k = vN V := by have := le_of_le (by omega) (by omega) c28; omega
        have hf : ∀ i, i < vN V → f i = -1000 := fun i hi => hf0 i (by omega)
        have hof : offR M (mset (mrow M 106 f) 106 j w) 106 106 := fun q hq => by rw [mset_ne (by omega), mrow_ne (by omega)]
        refine r_aload_n C dX7_supplyFor_46 1 rfl ?_
        refine r_getr (q2 := 106) C dX7_supplyFor_47 8 f_X7_57 rfl rfl ?_
        refine r_iload_n C dX7_supplyFor_50 2 rfl ?_
        refine r_iload_n C dX7_supplyFor_51 3 rfl ?_
        refine r_iastN (j := j) C dX7_supplyFor_52 rfl (hnj) (by omega) (by decide) ?_
        refine r_aload_n C dX7_supplyFor_53 1 rfl ?_
        refine r_callVI (As := []) (rest := []) C dX7_supplyFor_54 s_X7_207 (c_X7_lowestSupplyForWishes l G hG (mset (mrow M 106 f) 106 j w) g V hW (hC.1.off hof (by omega)) (wisF j w) (fun i hi => by rw [mset_at, mrow_at]; unfold wisF; by_cases e : i = j; (subst e; rw [upd_at, if_pos rfl]); (rw [upd_ne e, if_neg e]; exact hf i hi))) (by decide) rfl rfl rfl rfl (Nat.le_of_ble_eq_true rfl) (Nat.le_of_ble_eq_true rfl) (Nat.le_of_ble_eq_true rfl) (fun r54 M54 g54 hp54 => ?_)
        obtain ⟨⟨hl54, ol54⟩, eg54⟩ := hp54
        rw [eg54]
        exact hend _ _ _ _ _ _ _ (Nat.le_of_ble_eq_true rfl) (Nat.le_of_ble_eq_true rfl) dX7_supplyFor_57 (by rw [e9]; exact ⟨⟨(if_neg (not_of hc2)).trans (if_neg (not_of hc12)), hl54, (hI.off hof (Or.inr (by decide))).off ol54 (Or.inl ⟨by decide, by decide⟩), fun q hq => (ol54 q (by omega)).trans (hof q (by omega))⟩, rfl⟩)
      ·
        have hlt : k < vN V := lt_of_nle (by omega) c28
        refine r_aload_n C dX7_supplyFor_31 1 rfl ?_
        refine r_getr (q2 := 106) C dX7_supplyFor_32 8 f_X7_57 rfl rfl ?_
        refine r_iload_n C dX7_supplyFor_35 0 rfl ?_
        refine r_sipush (v := (-1000)) C dX7_supplyFor_36 rfl ?_
        refine r_iastN (j := k) C dX7_supplyFor_39 rfl (rfl) (by omega) (by decide) ?_
        refine r_mem (M' := mrow M 106 (upd f k (-1000))) (mset_row _ _ _ _ _) ?_
        refine r_iinc (v := nI (k + 1)) (L' := [(3, .int (nI (k + 1))), (0, .ref (mA G 0)), (1, .int n), (2, .int w)]) C dX7_supplyFor_40 0 rfl (nI_inc _) (by decide) rfl ?_
        refine r_goto (tgt := 17) C dX7_supplyFor_43 (by decide) ?_
        refine r_sub (L' := [(3, .int (nI (k + 1))), (0, .ref (mA G 0)), (1, .int n), (2, .int w)]) [0, 1, 2, 3] rfl ?_
        exact ih17 (k + 1) (upd f k (-1000)) (by omega) (fun i hi => by by_cases e : i = k; (subst e; rw [upd_at]); (rw [upd_ne e]; exact hf0 i (by omega))) (by omega)
  refine r_mem (M' := mrow M 106 (M 106)) (mrow_self _ _).symm ?_
  refine r_sub (L' := [(3, .int (nI 0)), (0, .ref (mA G 0)), (1, .int n), (2, .int w)]) [0, 1, 2, 3] rfl ?_
  exact lp17 _ 0 (M 106) (by omega) (fun i hi => absurd hi (by omega)) (Nat.lt_succ_self _)
