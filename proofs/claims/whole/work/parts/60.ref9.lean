-- the reference's object holds: the state V, the saved states Hs, the text T of len bytes
def rHis (M : Mem) (Hs : List View) : Prop := M 107 3 = nI Hs.length ∧ Hs.length ≤ 4 ∧ ∀ (i : Nat) (W : View), Hs[i]? = some W → rV (fun k => M 109 (149 * i + k)) W
def rTxt (M : Mem) (len : Nat) (T : Nat → Int32) : Prop := M 107 5 = nI len ∧ len ≤ 180 ∧ ∀ j, j < len → M 111 j = T j
def rINV (M : Mem) (V : View) (Hs : List View) (len : Nat) (T : Nat → Int32) : Prop := rV (M 108) V ∧ rHis M Hs ∧ rTxt M len T
/-- only what it works out, and what it says of throws, has changed -/
def frT (M M' : Mem) : Prop := (∀ q, q ≠ 107 → (q < 112 ∨ 116 < q) → M' q = M q) ∧ ∀ i, i ≠ 12 → i ≠ 6 → M' 107 i = M 107 i
theorem frW.t {M M' : Mem} (h : frW M M') : frT M M' := ⟨h.1, fun i a _ => h.2 i a⟩
theorem frT.th {M M' : Mem} (h : frT M M') (x : Int32) : frT M (mset M' 107 6 x) := ⟨fun q a b => by rw [mset_ne a]; exact h.1 q a b, fun i a b => by rw [mset_at, upd_ne b]; exact h.2 i a b⟩
theorem frT.off {M M' : Mem} (h : frT M M') : offR M M' 107 116 := fun q hq => h.1 q (by omega) (by omega)
theorem frT.inv {M M' : Mem} {V : View} {Hs : List View} {len : Nat} {T : Nat → Int32} (h : frT M M') (hI : rINV M V Hs len T) : rINV M' V Hs len T := by
  obtain ⟨h1, ⟨h2, h3, h4⟩, h5, h6, h7⟩ := hI
  refine ⟨by rw [h.1 108 (by omega) (by omega)]; exact h1, ⟨by rw [h.2 3 (by decide) (by decide)]; exact h2, h3, fun i W hi => by rw [h.1 109 (by omega) (by omega)]; exact h4 i W hi⟩, by rw [h.2 5 (by decide) (by decide)]; exact h5, h6, fun j hj => by rw [h.1 111 (by omega) (by omega)]; exact h7 j hj⟩
/-- how a call of the reference ends: e says what it throws; else it answers ans and holds V2, Hs2, T2 -/
def mtP (M M' : Mem) (V : View) (Hs : List View) (len : Nat) (T : Nat → Int32) (V2 : View) (Hs2 : List View) (len2 : Nat) (T2 : Nat → Int32) (e : Nat) (r ans : Int32) : Prop :=
  M' 107 6 = nI e ∧ offR M M' 107 116 ∧ (e = 0 → r = ans ∧ rINV M' V2 Hs2 len2 T2) ∧ (¬ e = 0 → rINV M' V Hs len T)
theorem mt_f {M M1 : Mem} {V V2 : View} {Hs Hs2 : List View} {len len2 : Nat} {T T2 : Nat → Int32} {e : Nat} {r ans : Int32} (k : Nat) (hI : rINV M V Hs len T) (hf : frT M M1) (he : e = k) (hk : 0 < k) : mtP M (mset M1 107 6 (nI k)) V Hs len T V2 Hs2 len2 T2 e r ans := by
  subst he
  exact ⟨by rw [mset_at, upd_at], (hf.th _).off, fun z => by omega, fun _ => (hf.th _).inv hI⟩
theorem mt_r {M M1 : Mem} {V : View} {Hs : List View} {len : Nat} {T : Nat → Int32} {e : Nat} {r ans : Int32} (hI : rINV M V Hs len T) (hf : frT M M1) (he : e = 0) (hr : r = ans) : mtP M (mset M1 107 6 0) V Hs len T V Hs len T e r ans := by
  subst he
  exact ⟨by rw [mset_at, upd_at]; rfl, (hf.th _).off, fun z => ⟨hr, (hf.th _).inv hI⟩, fun z => absurd rfl z⟩
def edP (M M' : Mem) (V : View) (Hs : List View) (len : Nat) (T : Nat → Int32) : Prop := rINV M' V Hs len T ∧ M' 107 6 = 0 ∧ offR M M' 107 116
theorem mt_e {M M1 M' : Mem} {V V2 : View} {Hs Hs2 : List View} {len len2 : Nat} {T T2 : Nat → Int32} {e : Nat} {r ans : Int32} (h : edP M1 M' V2 Hs2 len2 T2) (ho : offR M M1 107 116) (he : e = 0) (hr : r = ans) : mtP M M' V Hs len T V2 Hs2 len2 T2 e r ans := by
  subst he
  exact ⟨h.2.1, fun q hq => (h.2.2 q hq).trans (ho q hq), fun _ => ⟨hr, h.1⟩, fun z => absurd rfl z⟩
theorem rV_cong {f f' : Nat → Int32} {V : View} (hn : vN V ≤ 16) (hb : vB V ≤ 4) (h : ∀ k, k < 149 → f k = f' k) (hV : rV f V) : rV f' V := by
  obtain ⟨⟨a1, a2⟩, ⟨b0, b1, b2, b3, b4, b7, b8⟩, c, d⟩ := hV
  refine ⟨⟨?_, ?_⟩, ⟨?_, ?_, ?_, ?_, ?_, ?_, ?_⟩, fun w hw j hj => ?_, fun w hw b hb => ?_⟩
  · rw [← h 5 (by decide)]; exact a1
  · rw [← h 6 (by decide)]; exact a2
  · rw [← h 0 (by decide)]; exact b0
  · rw [← h 1 (by decide)]; exact b1
  · rw [← h 2 (by decide)]; exact b2
  · rw [← h 3 (by decide)]; exact b3
  · rw [← h 4 (by decide)]; exact b4
  · rw [← h 7 (by decide)]; exact b7
  · rw [← h 8 (by decide)]; exact b8
  · rw [← h _ (by omega)]; exact c w hw j hj
  · rw [← h _ (by omega)]; exact d w hw b hb
theorem rV_set {f : Nat → Int32} {V : View} {w j : Nat} {x : Int32} (hn : vN V ≤ 16) (h : rV f V) (hw : w < 8) (hj : j < vN V) : rV (upd f (9 + 8 * j + w) x) (vSet V w j x) := by
  obtain ⟨⟨a1, a2⟩, ⟨b0, b1, b2, b3, b4, b7, b8⟩, c, d⟩ := h
  refine ⟨⟨?_, ?_⟩, ⟨?_, ?_, ?_, ?_, ?_, ?_, ?_⟩, fun w' hw' j' hj' => ?_, fun w' hw' b hb => ?_⟩
  · rw [upd_ne (by omega)]; exact a1
  · rw [upd_ne (by omega)]; exact a2
  · rw [upd_ne (by omega)]; exact b0
  · rw [upd_ne (by omega)]; exact b1
  · rw [upd_ne (by omega)]; exact b2
  · rw [upd_ne (by omega)]; exact b3
  · rw [upd_ne (by omega)]; exact b4
  · rw [upd_ne (by omega)]; exact b7
  · rw [upd_ne (by omega)]; exact b8
  · have hj2 : j' < vN V := hj'
    show _ = if w' = w ∧ j' = j then x else vD V w' j'
    by_cases e : w' = w ∧ j' = j
    · obtain ⟨rfl, rfl⟩ := e
      rw [upd_at, if_pos ⟨rfl, rfl⟩]
    · rw [upd_ne (by omega), if_neg e]
      exact c w' hw' j' hj2
  · rw [upd_ne (by omega)]; exact d w' hw' b hb
theorem rV_bo {f : Nat → Int32} {V : View} {w j : Nat} {x : Int32} (hn : vN V ≤ 16) (h : rV f V) (hw : w < 3) (hj : j < vB V) : rV (upd f (137 + 3 * j + w) x) (vBo V w j x) := by
  obtain ⟨⟨a1, a2⟩, ⟨b0, b1, b2, b3, b4, b7, b8⟩, c, d⟩ := h
  refine ⟨⟨?_, ?_⟩, ⟨?_, ?_, ?_, ?_, ?_, ?_, ?_⟩, fun w' hw' j' hj' => ?_, fun w' hw' b hb => ?_⟩
  · rw [upd_ne (by omega)]; exact a1
  · rw [upd_ne (by omega)]; exact a2
  · rw [upd_ne (by omega)]; exact b0
  · rw [upd_ne (by omega)]; exact b1
  · rw [upd_ne (by omega)]; exact b2
  · rw [upd_ne (by omega)]; exact b3
  · rw [upd_ne (by omega)]; exact b4
  · rw [upd_ne (by omega)]; exact b7
  · rw [upd_ne (by omega)]; exact b8
  · have hj2 : j' < vN V := hj'
    rw [upd_ne (by omega)]; exact c w' hw' j' hj2
  · show _ = if w' = w ∧ b = j then x else vO V w' b
    by_cases e : w' = w ∧ b = j
    · obtain ⟨rfl, rfl⟩ := e
      rw [upd_at, if_pos ⟨rfl, rfl⟩]
    · rw [upd_ne (by omega), if_neg e]
      exact d w' hw' b hb
theorem rV_sc {f : Nat → Int32} {V : View} {x : Int32} (i : Nat) (hi : i < 5 ∨ i = 7 ∨ i = 8) (h : rV f V) : rV (upd f i x) (vSc V i x) := by
  obtain ⟨⟨a1, a2⟩, ⟨b0, b1, b2, b3, b4, b7, b8⟩, c, d⟩ := h
  have key : ∀ k, f k = vS V k → upd f i x k = (if k = i then x else vS V k) := fun k hk => by
    by_cases e : k = i
    · subst e; rw [upd_at, if_pos rfl]
    · rw [upd_ne e, if_neg e]; exact hk
  refine ⟨⟨?_, ?_⟩, ⟨key 0 b0, key 1 b1, key 2 b2, key 3 b3, key 4 b4, key 7 b7, key 8 b8⟩, fun w' hw' j' hj' => ?_, fun w' hw' b hb => ?_⟩
  · rw [upd_ne (by omega)]; exact a1
  · rw [upd_ne (by omega)]; exact a2
  · have hj2 : j' < vN V := hj'
    rw [upd_ne (by omega)]; exact c w' hw' j' hj2
  · rw [upd_ne (by omega)]; exact d w' hw' b hb
def ad8 (f : Nat → Int32) (n : Nat) (a l s d t : Int32) : Nat → Int32 := upd (upd (upd (upd (upd (upd (upd (upd (upd f (9 + 8 * n + 0) a) (9 + 8 * n + 1) l) (9 + 8 * n + 2) s) (9 + 8 * n + 3) d) (9 + 8 * n + 4) t) (9 + 8 * n + 5) 0) (9 + 8 * n + 6) 0) (9 + 8 * n + 7) 0) 5 (nI (n + 1))
theorem rV_add {f : Nat → Int32} {V : View} {a l s d t : Int32} (hn : vN V < 16) (h : rV f V) : rV (ad8 f (vN V) a l s d t) (vAdd V a l s d t) := by
  obtain ⟨⟨a1, a2⟩, ⟨b0, b1, b2, b3, b4, b7, b8⟩, c, e⟩ := h
  have ho : ∀ k, k ≠ 5 → (k < 9 + 8 * vN V ∨ 9 + 8 * vN V + 7 < k) → ad8 f (vN V) a l s d t k = f k := fun k h5 hk => by
    unfold ad8
    rw [upd_ne h5, upd_ne (by omega), upd_ne (by omega), upd_ne (by omega), upd_ne (by omega), upd_ne (by omega), upd_ne (by omega), upd_ne (by omega), upd_ne (by omega)]
  refine ⟨⟨?_, ?_⟩, ⟨?_, ?_, ?_, ?_, ?_, ?_, ?_⟩, fun w hw j hj => ?_, fun w hw b hb => ?_⟩
  · unfold ad8; rw [upd_at]; rfl
  · rw [ho 6 (by decide) (by omega)]; exact a2
  · rw [ho 0 (by decide) (by omega)]; exact b0
  · rw [ho 1 (by decide) (by omega)]; exact b1
  · rw [ho 2 (by decide) (by omega)]; exact b2
  · rw [ho 3 (by decide) (by omega)]; exact b3
  · rw [ho 4 (by decide) (by omega)]; exact b4
  · rw [ho 7 (by decide) (by omega)]; exact b7
  · rw [ho 8 (by decide) (by omega)]; exact b8
  · have hj2 : j < vN V + 1 := hj
    show _ = if j = vN V then (if w = 0 then a else if w = 1 then l else if w = 2 then s else if w = 3 then d else if w = 4 then t else 0) else vD V w j
    by_cases z : j = vN V
    · rw [if_pos z, z]
      have hc : w = 0 ∨ w = 1 ∨ w = 2 ∨ w = 3 ∨ w = 4 ∨ w = 5 ∨ w = 6 ∨ w = 7 := by omega
      unfold ad8
      rcases hc with rfl | rfl | rfl | rfl | rfl | rfl | rfl | rfl
      · rw [upd_ne (by omega), upd_ne (by omega), upd_ne (by omega), upd_ne (by omega), upd_ne (by omega), upd_ne (by omega), upd_ne (by omega), upd_ne (by omega), upd_at]; rfl
      · rw [upd_ne (by omega), upd_ne (by omega), upd_ne (by omega), upd_ne (by omega), upd_ne (by omega), upd_ne (by omega), upd_ne (by omega), upd_at]; rfl
      · rw [upd_ne (by omega), upd_ne (by omega), upd_ne (by omega), upd_ne (by omega), upd_ne (by omega), upd_ne (by omega), upd_at]; rfl
      · rw [upd_ne (by omega), upd_ne (by omega), upd_ne (by omega), upd_ne (by omega), upd_ne (by omega), upd_at]; rfl
      · rw [upd_ne (by omega), upd_ne (by omega), upd_ne (by omega), upd_ne (by omega), upd_at]; rfl
      · rw [upd_ne (by omega), upd_ne (by omega), upd_ne (by omega), upd_at]; rfl
      · rw [upd_ne (by omega), upd_ne (by omega), upd_at]; rfl
      · rw [upd_ne (by omega), upd_at]; rfl
    · rw [if_neg z, ho _ (by omega) (by omega)]
      exact c w hw j (by omega)
  · rw [ho _ (by omega) (by omega)]; exact e w hw b hb
def bo3 (f : Nat → Int32) (n : Nat) (a l s : Int32) : Nat → Int32 := upd (upd (upd (upd f (137 + 3 * n) a) (137 + 3 * n + 1) l) (137 + 3 * n + 2) s) 6 (nI (n + 1))
theorem rV_boi {f : Nat → Int32} {V : View} {a l s : Int32} (hn : vN V ≤ 16) (h : rV f V) : rV (bo3 f (vB V) a l s) (vBoi V a l s) := by
  obtain ⟨⟨a1, a2⟩, ⟨b0, b1, b2, b3, b4, b7, b8⟩, c, e⟩ := h
  have ho : ∀ k, k ≠ 6 → (k < 137 + 3 * vB V ∨ 137 + 3 * vB V + 2 < k) → bo3 f (vB V) a l s k = f k := fun k h5 hk => by
    unfold bo3
    rw [upd_ne h5, upd_ne (by omega), upd_ne (by omega), upd_ne (by omega)]
  refine ⟨⟨?_, ?_⟩, ⟨?_, ?_, ?_, ?_, ?_, ?_, ?_⟩, fun w hw j hj => ?_, fun w hw b hb => ?_⟩
  · rw [ho 5 (by decide) (by omega)]; exact a1
  · unfold bo3; rw [upd_at]; rfl
  · rw [ho 0 (by decide) (by omega)]; exact b0
  · rw [ho 1 (by decide) (by omega)]; exact b1
  · rw [ho 2 (by decide) (by omega)]; exact b2
  · rw [ho 3 (by decide) (by omega)]; exact b3
  · rw [ho 4 (by decide) (by omega)]; exact b4
  · rw [ho 7 (by decide) (by omega)]; exact b7
  · rw [ho 8 (by decide) (by omega)]; exact b8
  · have hj2 : j < vN V := hj
    rw [ho _ (by omega) (by omega)]; exact c w hw j hj2
  · have hb2 : b < vB V + 1 := hb
    show _ = if b = vB V then (if w = 0 then a else if w = 1 then l else s) else vO V w b
    by_cases z : b = vB V
    · rw [if_pos z, z]
      have hc : w = 0 ∨ w = 1 ∨ w = 2 := by omega
      unfold bo3
      rcases hc with rfl | rfl | rfl
      · rw [upd_ne (by omega), upd_ne (by omega), upd_ne (by omega), Nat.add_zero, upd_at]; rfl
      · rw [upd_ne (by omega), upd_ne (by omega), upd_at]; rfl
      · rw [upd_ne (by omega), upd_at]; rfl
    · rw [if_neg z, ho _ (by omega) (by omega)]
      exact e w hw b (by omega)
/-- where the saved states stand before the newest one is laid behind them -/
def enH (F : Nat → Int32) (n : Nat) (Hs : List View) (V : View) : Prop := n ≤ 3 ∧ (hPush Hs V).length = n + 1 ∧ (hPush Hs V)[n]? = some V ∧ ∀ (i : Nat) (W : View), i < n → (hPush Hs V)[i]? = some W → rV (fun k => F (149 * i + k)) W ∧ vN W ≤ 16 ∧ vB W ≤ 4
theorem en_a {M : Mem} {Hs : List View} {V : View} (h : rHis M Hs) (hH : ∀ W, W ∈ Hs → wfV W) (hc : ¬ M 107 3 = 4) : ∃ n0 F0, M = mset (mrow M 109 F0) 107 3 (nI n0) ∧ enH F0 n0 Hs V := by
  obtain ⟨h1, h2, h3⟩ := h
  have hl : Hs.length < 4 := by
    rcases Nat.lt_or_ge Hs.length 4 with q | q
    · exact q
    · have : Hs.length = 4 := by omega
      rw [h1, this] at hc
      exact absurd rfl hc
  have e : hPush Hs V = Hs ++ [V] := if_pos hl
  refine ⟨Hs.length, M 109, ?_, by omega, by rw [e]; simp, by rw [e]; simp, fun i W hi hW => ?_⟩
  · rw [mrow_self, mset_id h1]
  · rw [e, List.getElem?_append_left hi] at hW
    have hw := hH W (List.mem_of_getElem? hW)
    exact ⟨h3 i W hW, hw.1.2.1, hw.1.2.2.1⟩
theorem en_b {M : Mem} {Hs : List View} {V : View} {f : Nat → Int32} (h : rHis M Hs) (hH : ∀ W, W ∈ Hs → wfV W) (hl : Hs.length = 4) (hf : ∀ j, j < 447 → f j = M 109 (j + 149)) : ∃ n0 F0, mset (mrow M 109 f) 107 3 (nI (Hs.length - 1)) = mset (mrow M 109 F0) 107 3 (nI n0) ∧ enH F0 n0 Hs V := by
  obtain ⟨h1, h2, h3⟩ := h
  have e : hPush Hs V = Hs.tail ++ [V] := if_neg (by omega)
  have et : Hs.tail.length = 3 := by rw [List.length_tail]; omega
  refine ⟨3, f, by rw [hl], by omega, by rw [e]; simp; omega, by rw [e, List.getElem?_append_right (by omega), et]; rfl, fun i W hi hW => ?_⟩
  rw [e, List.getElem?_append_left (by omega), List.getElem?_tail] at hW
  have hw := hH W (List.mem_of_getElem? hW)
  refine ⟨rV_cong hw.1.2.1 hw.1.2.2.1 (fun k hk => ?_) (h3 (i + 1) W hW), hw.1.2.1, hw.1.2.2.1⟩
  rw [hf _ (by omega)]
  congr 1
  omega
theorem en_fin {M : Mem} {Hs : List View} {V V2 : View} {len : Nat} {T : Nat → Int32} {F0 f : Nat → Int32} {n0 : Nat} (hE : enH F0 n0 Hs V) (hA : rV (M 110) V) (hn : vN V ≤ 16) (hb : vB V ≤ 4) (hV2 : rV (M 108) V2) (hT : rTxt M len T) (h1 : ∀ j, j < 149 * n0 → f j = F0 j) (h2 : ∀ j, j < 149 → f (149 * n0 + j) = M 110 j) : edP M (mset (mset (mrow M 109 f) 107 3 (nI (n0 + 1))) 107 6 0) V2 (hPush Hs V) len T := by
  obtain ⟨a1, a2, a3, a4⟩ := hE
  refine ⟨⟨by rw [mset_ne (by omega), mset_ne (by omega), mrow_ne (by omega)]; exact hV2, ⟨?_, by omega, fun i W hi => ?_⟩, ?_, hT.2.1, fun j hj => by rw [mset_ne (by omega), mset_ne (by omega), mrow_ne (by omega)]; exact hT.2.2 j hj⟩, by rw [mset_at, upd_at], fun q hq => by rw [mset_ne (by omega), mset_ne (by omega), mrow_ne (by omega)]⟩
  · rw [mset_at, upd_ne (by decide), mset_at, upd_at, a2]
  · have e9 : (mset (mset (mrow M 109 f) 107 3 (nI (n0 + 1))) 107 6 0) 109 = f := by rw [mset_ne (by omega), mset_ne (by omega), mrow_at]
    rw [e9]
    have hlt : i < n0 + 1 := by
      have := (List.getElem?_eq_some_iff.mp hi).1
      omega
    by_cases z : i = n0
    · subst z
      rw [a3] at hi
      cases hi
      exact rV_cong hn hb (fun k hk => (h2 k hk).symm) hA
    · obtain ⟨b1, b2, b3⟩ := a4 i W (by omega) hi
      exact rV_cong b2 b3 (fun k hk => (h1 _ (by omega)).symm) b1
  · rw [mset_at, upd_ne (by decide), mset_at, upd_ne (by decide), mrow_ne (by omega)]; exact hT.1
theorem ix149 (n k : Nat) : (149 : Int32) * nI n + nI k = nI (149 * n + k) := by
  rw [show (149 : Int32) = nI 149 from rfl, nI_mulN, nI_add]
set_option maxRecDepth 20000 in
set_option maxHeartbeats 1000000 in
theorem c_X8_thrown (l : Launch) (G : mG) (hG : mInj G) (M : Mem) (g : Glo)  : mcI l G yX8_thrown cX8_thrown 1 .int 1 [.ref (mA G 107)] M g (fun r M' g' => r = M 107 6 ∧ M' = M ∧ g' = g) := by
  refine mcI_of (L0 := [(0, .ref (mA G 107))]) hG (by decide) (Nat.le_of_ble_eq_true rfl) rfl ?_
  intro p e s m args below meth c Q C hend
  refine r_aload_n C dX8_thrown_0 0 rfl ?_
  refine r_geti C dX8_thrown_1 6 f_X8_37 rfl rfl ?_
  exact hend _ _ _ _ _ dX8_thrown_4 (rfl) (⟨rfl, rfl, rfl⟩)

set_option maxRecDepth 20000 in
set_option maxHeartbeats 1000000 in
theorem c_X8_fails (l : Launch) (G : mG) (hG : mInj G) (M : Mem) (g : Glo) (x : Int32) : mcI l G yX8_fails cX8_fails 2 .int 1 [.ref (mA G 107), .int x] M g (fun r M' g' => r = 0 ∧ M' = mset M 107 6 x ∧ g' = g) := by
  refine mcI_of (L0 := [(0, .ref (mA G 107)), (1, .int x)]) hG (by decide) (Nat.le_of_ble_eq_true rfl) rfl ?_
  intro p e s m args below meth c Q C hend
  refine r_aload_n C dX8_fails_0 0 rfl ?_
  refine r_iload_n C dX8_fails_1 1 rfl ?_
  refine r_puti C dX8_fails_2 6 fi_X8_37 rfl rfl ?_
  refine r_iconst (v := 0) C dX8_fails_5 rfl ?_
  exact hend _ _ _ _ _ dX8_fails_6 (rfl) (⟨rfl, rfl, rfl⟩)

set_option maxRecDepth 20000 in
set_option maxHeartbeats 1000000 in
theorem c_X8_tells (l : Launch) (G : mG) (hG : mInj G) (M : Mem) (g : Glo) (x : Int32) : mcI l G yX8_tells cX8_tells 2 .int 1 [.ref (mA G 107), .int x] M g (fun r M' g' => r = x ∧ M' = mset M 107 6 0 ∧ g' = g) := by
  refine mcI_of (L0 := [(0, .ref (mA G 107)), (1, .int x)]) hG (by decide) (Nat.le_of_ble_eq_true rfl) rfl ?_
  intro p e s m args below meth c Q C hend
  refine r_aload_n C dX8_tells_0 0 rfl ?_
  refine r_iconst (v := 0) C dX8_tells_1 rfl ?_
  refine r_puti C dX8_tells_2 6 fi_X8_37 rfl rfl ?_
  refine r_iload_n C dX8_tells_5 1 rfl ?_
  exact hend _ _ _ _ _ dX8_tells_6 (rfl) (⟨rfl, rfl, rfl⟩)

set_option maxRecDepth 20000 in
set_option maxHeartbeats 1000000 in
theorem c_X8_hold (l : Launch) (G : mG) (hG : mInj G) (M : Mem) (g : Glo)  : mcV l G yX8_hold cX8_hold 2 1 [.ref (mA G 107)] M g (fun M' g' => (∃ f, M' = mrow M 110 f ∧ ∀ k, k < 149 → f k = M 108 k) ∧ g' = g) := by
  refine mcV_of (L0 := [(0, .ref (mA G 107))]) hG (by decide) (Nat.le_of_ble_eq_true rfl) rfl ?_
  intro p e s m args below meth c Q C hend
  refine r_iconst (v := nI 0) C dX8_hold_0 rfl ?_
  refine r_istore_n (L' := [(1, .int (nI 0)), (0, .ref (mA G 107))]) C dX8_hold_1 (by decide) rfl ?_
  have lp2 : ∀ (fu : Nat) (k : Nat) (f : Nat → Int32), (k ≤ 149) → (∀ j, j < k → f j = M 108 j) → (149 - k) < fu → At p l e (rmD 1 0 0) s m args below meth c G 2 0 0 Q (mrow M 110 f) g [(1, .int (nI k)), (0, .ref (mA G 107))] 2 [] := by
    intro fu
    induction fu with
    | zero => intro k f hkn hf hfu; exact absurd hfu (Nat.not_lt_zero _)
    | succ fu ih2 =>
      intro k f hkn hf hfu2
      refine r_iload_n C dX8_hold_2 0 rfl ?_
      refine r_sipush (v := 149) C dX8_hold_3 rfl ?_
      refine r_icmp_ge (tgt := 27) C dX8_hold_6 (by decide) (fun c6 => ?_) (fun c6 => ?_)
      ·
        have hkn2 : k = 149 := by have := le_of_le (a := 149) (by decide) (by omega) c6; omega
        exact hend _ _ _ _ dX8_hold_27 (⟨⟨f, rfl, fun k2 h2 => hf k2 (by omega)⟩, rfl⟩)
      ·
        have hlt : k < 149 := lt_of_nle (b := 149) (by omega) c6
        refine r_aload_n C dX8_hold_9 1 rfl ?_
        refine r_getr (q2 := 110) C dX8_hold_10 2 f_X8_16 rfl rfl ?_
        refine r_iload_n C dX8_hold_13 0 rfl ?_
        refine r_aload_n C dX8_hold_14 1 rfl ?_
        refine r_getr (q2 := 108) C dX8_hold_15 0 f_X8_7 rfl rfl ?_
        refine r_iload_n C dX8_hold_18 0 rfl ?_
        refine r_ialdN (j := k) (v := M 108 k) C dX8_hold_19 rfl (rfl) (by omega) (by decide) (congrFun (mrow_ne (by omega) f) k) ?_
        refine r_iastN (j := k) C dX8_hold_20 rfl (rfl) (by omega) (by decide) ?_
        refine r_mem (M' := mrow M 110 (upd f k (M 108 k))) (mset_row _ _ _ _ _) ?_
        refine r_iinc (v := nI (k + 1)) (L' := [(1, .int (nI (k + 1))), (0, .ref (mA G 107))]) C dX8_hold_21 0 rfl (nI_inc _) (by decide) rfl ?_
        refine r_goto (tgt := 2) C dX8_hold_24 (by decide) ?_
        refine r_sub (L' := [(1, .int (nI (k + 1))), (0, .ref (mA G 107))]) [0, 1] rfl ?_
        exact ih2 (k + 1) _ (by omega) (fun j hj => by rcases Nat.lt_or_ge j k with q | q; (rw [upd_ne (by omega)]; exact hf j q); (have e9 : j = k := by omega); subst e9; rw [upd_at]) (by omega)
  refine r_mem (M' := mrow M 110 (M 110)) (mrow_self M 110).symm ?_
  refine r_sub (L' := [(1, .int (nI 0)), (0, .ref (mA G 107))]) [0, 1] rfl ?_
  exact lp2 _ 0 (M 110) (by omega) (fun j hj => absurd hj (Nat.not_lt_zero j)) (Nat.lt_succ_self _)

set_option maxRecDepth 20000 in
set_option maxHeartbeats 1000000 in
theorem c_X8_ends (l : Launch) (G : mG) (hG : mInj G) (M : Mem) (g : Glo) (V V2 : View) (Hs : List View) (len : Nat) (T : Nat → Int32) (hHs : ∀ W, W ∈ Hs → wfV W) (hHi : rHis M Hs) (hTx : rTxt M len T) (hA : rV (M 110) V) (hn : vN V ≤ 16) (hb : vB V ≤ 4) (hV2 : rV (M 108) V2) (a : Int32) : mcI l G yX8_ends cX8_ends 3 .int 2 [.ref (mA G 107), .int a] M g (fun r M' g' => (r = a ∧ edP M M' V2 (hPush Hs V) len T) ∧ g' = g) := by
  refine mcI_of (L0 := [(0, .ref (mA G 107)), (1, .int a)]) hG (by decide) (Nat.le_of_ble_eq_true rfl) rfl ?_
  intro p e s m args below meth c Q C hend
  refine r_aload_n C dX8_ends_0 0 rfl ?_
  refine r_geti C dX8_ends_1 3 f_X8_41 rfl rfl ?_
  refine r_iconst (v := 4) C dX8_ends_4 rfl ?_
  refine r_icmp_ne (tgt := 49) C dX8_ends_5 (by decide) (fun c5 => ?_) (fun c5 => ?_)
  ·
    obtain ⟨n0, F0, hM0, hE⟩ := en_a (V := V) hHi hHs c5
    refine r_mem (M' := mset (mrow M 109 F0) 107 3 (nI n0)) (hM0) ?_
    refine r_iconst (v := nI 0) C dX8_ends_49 rfl ?_
    refine r_istore_n (L' := [(2, .int (nI 0)), (0, .ref (mA G 107)), (1, .int a)]) C dX8_ends_50 (by decide) rfl ?_
    have lp51 : ∀ (fu : Nat) (k : Nat) (f : Nat → Int32), (k ≤ 149) → ((∀ j, j < 149 * n0 → f j = F0 j) ∧ ∀ j, j < k → f (149 * n0 + j) = M 110 j) → (149 - k) < fu → At p l e (rmD 2 0 0) s m args below meth c G 3 0 0 Q (mset (mrow M 109 f) 107 3 (nI n0)) g [(2, .int (nI k)), (0, .ref (mA G 107)), (1, .int a)] 51 [] := by
      intro fu
      induction fu with
      | zero => intro k f hkn hf2 hfu; exact absurd hfu (Nat.not_lt_zero _)
      | succ fu ih51 =>
        intro k f hkn hf2 hfu51
        refine r_iload_n C dX8_ends_51 0 rfl ?_
        refine r_sipush (v := 149) C dX8_ends_52 rfl ?_
        refine r_icmp_ge (tgt := 85) C dX8_ends_55 (by decide) (fun c55 => ?_) (fun c55 => ?_)
        ·
          have hkn2 : k = 149 := by have := le_of_le (a := 149) (by decide) (by omega) c55; omega
          refine r_aload_n C dX8_ends_85 1 rfl ?_
          refine r_dup C dX8_ends_86 rfl ?_
          refine r_geti C dX8_ends_87 3 f_X8_41 rfl rfl ?_
          refine r_valI (y := nI n0) (by rw [mset_at, upd_at]) ?_
          refine r_iconst (v := 1) C dX8_ends_90 rfl ?_
          refine r_iadd C dX8_ends_91 ?_
          refine r_valI (y := nI (n0 + 1)) (nI_1 n0) ?_
          refine r_puti C dX8_ends_92 3 fi_X8_41 rfl rfl ?_
          refine r_mem (M' := mset (mrow M 109 f) 107 3 (nI (n0 + 1))) (mset_again _ _ _ _ _) ?_
          refine r_aload_n C dX8_ends_95 1 rfl ?_
          refine r_iload_n C dX8_ends_96 2 rfl ?_
          refine r_callVI (As := [.int a]) (rest := []) C dX8_ends_97 s_X8_44 (c_X8_tells l G hG (mset (mrow M 109 f) 107 3 (nI (n0 + 1))) g a) (by decide) rfl rfl rfl rfl (Nat.le_of_ble_eq_true rfl) (Nat.le_of_ble_eq_true rfl) (Nat.le_of_ble_eq_true rfl) (pk_I ?_)
          exact hend _ _ _ _ _ dX8_ends_100 (rfl) (⟨⟨rfl, en_fin hE hA hn hb hV2 hTx hf2.1 (fun j hj => hf2.2 j (by omega))⟩, rfl⟩)
        ·
          have hlt : k < 149 := lt_of_nle (b := 149) (by omega) c55
          refine r_aload_n C dX8_ends_58 1 rfl ?_
          refine r_getr (q2 := 109) C dX8_ends_59 1 f_X8_13 rfl rfl ?_
          refine r_sipush (v := 149) C dX8_ends_62 rfl ?_
          refine r_aload_n C dX8_ends_65 1 rfl ?_
          refine r_geti C dX8_ends_66 3 f_X8_41 rfl rfl ?_
          refine r_valI (y := nI n0) (by rw [mset_at, upd_at]) ?_
          refine r_imul C dX8_ends_69 ?_
          refine r_iload_n C dX8_ends_70 0 rfl ?_
          refine r_iadd C dX8_ends_71 ?_
          refine r_aload_n C dX8_ends_72 1 rfl ?_
          refine r_getr (q2 := 110) C dX8_ends_73 2 f_X8_16 rfl rfl ?_
          refine r_iload_n C dX8_ends_76 0 rfl ?_
          refine r_ialdN (j := k) (v := M 110 k) C dX8_ends_77 rfl (rfl) (by omega) (by decide) (by rw [mset_ne (by omega), mrow_ne (by omega)]) ?_
          refine r_iastN (j := 149 * n0 + k) C dX8_ends_78 rfl (ix149 n0 k) (by have := hE.1; omega) (by decide) ?_
          refine r_mem (M' := mset (mrow M 109 (upd f (149 * n0 + k) (M 110 k))) 107 3 (nI n0)) (mset_row_c (by omega)) ?_
          refine r_iinc (v := nI (k + 1)) (L' := [(2, .int (nI (k + 1))), (0, .ref (mA G 107)), (1, .int a)]) C dX8_ends_79 0 rfl (nI_inc _) (by decide) rfl ?_
          refine r_goto (tgt := 51) C dX8_ends_82 (by decide) ?_
          refine r_sub (L' := [(2, .int (nI (k + 1))), (0, .ref (mA G 107)), (1, .int a)]) [0, 1, 2] rfl ?_
          exact ih51 (k + 1) _ (by omega) ⟨fun j hj => by rw [upd_ne (by omega)]; exact hf2.1 j hj, fun j hj => by rcases Nat.lt_or_ge j k with q | q; (rw [upd_ne (by omega)]; exact hf2.2 j q); (have e9 : j = k := by omega); subst e9; rw [upd_at]⟩ (by omega)
    refine r_sub (L' := [(2, .int (nI 0)), (0, .ref (mA G 107)), (1, .int a)]) [0, 1, 2] rfl ?_
    exact lp51 _ 0 F0 (by omega) ⟨fun j _ => rfl, fun j hj => absurd hj (Nat.not_lt_zero j)⟩ (Nat.lt_succ_self _)
  ·
    have hl4 : Hs.length = 4 := by rw [hHi.1] at c5; exact (nI_eq (b := 4) (by have := hHi.2.1; omega) (by decide)).mp c5
    refine r_iconst (v := nI 0) C dX8_ends_8 rfl ?_
    refine r_istore_n (L' := [(2, .int (nI 0)), (0, .ref (mA G 107)), (1, .int a)]) C dX8_ends_9 (by decide) rfl ?_
    have lp10 : ∀ (fu : Nat) (k : Nat) (f : Nat → Int32), (k ≤ 447) → ((∀ j, j < k → f j = M 109 (j + 149)) ∧ ∀ j, k ≤ j → f j = M 109 j) → (447 - k) < fu → At p l e (rmD 2 0 0) s m args below meth c G 3 0 0 Q (mrow M 109 f) g [(2, .int (nI k)), (0, .ref (mA G 107)), (1, .int a)] 10 [] := by
      intro fu
      induction fu with
      | zero => intro k f hkn hf hfu; exact absurd hfu (Nat.not_lt_zero _)
      | succ fu ih10 =>
        intro k f hkn hf hfu10
        refine r_iload_n C dX8_ends_10 0 rfl ?_
        refine r_sipush (v := 447) C dX8_ends_11 rfl ?_
        refine r_icmp_ge (tgt := 39) C dX8_ends_14 (by decide) (fun c14 => ?_) (fun c14 => ?_)
        ·
          have hkn2 : k = 447 := by have := le_of_le (a := 447) (by decide) (by omega) c14; omega
          refine r_aload_n C dX8_ends_39 1 rfl ?_
          refine r_dup C dX8_ends_40 rfl ?_
          refine r_geti C dX8_ends_41 3 f_X8_41 rfl rfl ?_
          refine r_valI (y := nI Hs.length) ((congrFun (mrow_ne (by omega) f) 3).trans hHi.1) ?_
          refine r_iconst (v := 1) C dX8_ends_44 rfl ?_
          refine r_isub C dX8_ends_45 ?_
          refine r_valI (y := nI (Hs.length - 1)) (pk_sub (b := 1) (by omega)) ?_
          refine r_puti C dX8_ends_46 3 fi_X8_41 rfl rfl ?_
          obtain ⟨n0, F0, hM0, hE⟩ := en_b (V := V) hHi hHs hl4 (fun j hj => hf.1 j (by omega))
          refine r_mem (M' := mset (mrow M 109 F0) 107 3 (nI n0)) (hM0) ?_
          refine r_iconst (v := nI 0) C dX8_ends_49 rfl ?_
          refine r_istore_n (L' := [(2, .int (nI 0)), (0, .ref (mA G 107)), (1, .int a)]) C dX8_ends_50 (by decide) rfl ?_
          have lp51 : ∀ (fu : Nat) (k : Nat) (f : Nat → Int32), (k ≤ 149) → ((∀ j, j < 149 * n0 → f j = F0 j) ∧ ∀ j, j < k → f (149 * n0 + j) = M 110 j) → (149 - k) < fu → At p l e (rmD 2 0 0) s m args below meth c G 3 0 0 Q (mset (mrow M 109 f) 107 3 (nI n0)) g [(2, .int (nI k)), (0, .ref (mA G 107)), (1, .int a)] 51 [] := by
            intro fu
            induction fu with
            | zero => intro k f hkn hf2 hfu; exact absurd hfu (Nat.not_lt_zero _)
            | succ fu ih51 =>
              intro k f hkn hf2 hfu51
              refine r_iload_n C dX8_ends_51 0 rfl ?_
              refine r_sipush (v := 149) C dX8_ends_52 rfl ?_
              refine r_icmp_ge (tgt := 85) C dX8_ends_55 (by decide) (fun c55 => ?_) (fun c55 => ?_)
              ·
                have hkn2 : k = 149 := by have := le_of_le (a := 149) (by decide) (by omega) c55; omega
                refine r_aload_n C dX8_ends_85 1 rfl ?_
                refine r_dup C dX8_ends_86 rfl ?_
                refine r_geti C dX8_ends_87 3 f_X8_41 rfl rfl ?_
                refine r_valI (y := nI n0) (by rw [mset_at, upd_at]) ?_
                refine r_iconst (v := 1) C dX8_ends_90 rfl ?_
                refine r_iadd C dX8_ends_91 ?_
                refine r_valI (y := nI (n0 + 1)) (nI_1 n0) ?_
                refine r_puti C dX8_ends_92 3 fi_X8_41 rfl rfl ?_
                refine r_mem (M' := mset (mrow M 109 f) 107 3 (nI (n0 + 1))) (mset_again _ _ _ _ _) ?_
                refine r_aload_n C dX8_ends_95 1 rfl ?_
                refine r_iload_n C dX8_ends_96 2 rfl ?_
                refine r_callVI (As := [.int a]) (rest := []) C dX8_ends_97 s_X8_44 (c_X8_tells l G hG (mset (mrow M 109 f) 107 3 (nI (n0 + 1))) g a) (by decide) rfl rfl rfl rfl (Nat.le_of_ble_eq_true rfl) (Nat.le_of_ble_eq_true rfl) (Nat.le_of_ble_eq_true rfl) (pk_I ?_)
                exact hend _ _ _ _ _ dX8_ends_100 (rfl) (⟨⟨rfl, en_fin hE hA hn hb hV2 hTx hf2.1 (fun j hj => hf2.2 j (by omega))⟩, rfl⟩)
              ·
                have hlt : k < 149 := lt_of_nle (b := 149) (by omega) c55
                refine r_aload_n C dX8_ends_58 1 rfl ?_
                refine r_getr (q2 := 109) C dX8_ends_59 1 f_X8_13 rfl rfl ?_
                refine r_sipush (v := 149) C dX8_ends_62 rfl ?_
                refine r_aload_n C dX8_ends_65 1 rfl ?_
                refine r_geti C dX8_ends_66 3 f_X8_41 rfl rfl ?_
                refine r_valI (y := nI n0) (by rw [mset_at, upd_at]) ?_
                refine r_imul C dX8_ends_69 ?_
                refine r_iload_n C dX8_ends_70 0 rfl ?_
                refine r_iadd C dX8_ends_71 ?_
                refine r_aload_n C dX8_ends_72 1 rfl ?_
                refine r_getr (q2 := 110) C dX8_ends_73 2 f_X8_16 rfl rfl ?_
                refine r_iload_n C dX8_ends_76 0 rfl ?_
                refine r_ialdN (j := k) (v := M 110 k) C dX8_ends_77 rfl (rfl) (by omega) (by decide) (by rw [mset_ne (by omega), mrow_ne (by omega)]) ?_
                refine r_iastN (j := 149 * n0 + k) C dX8_ends_78 rfl (ix149 n0 k) (by have := hE.1; omega) (by decide) ?_
                refine r_mem (M' := mset (mrow M 109 (upd f (149 * n0 + k) (M 110 k))) 107 3 (nI n0)) (mset_row_c (by omega)) ?_
                refine r_iinc (v := nI (k + 1)) (L' := [(2, .int (nI (k + 1))), (0, .ref (mA G 107)), (1, .int a)]) C dX8_ends_79 0 rfl (nI_inc _) (by decide) rfl ?_
                refine r_goto (tgt := 51) C dX8_ends_82 (by decide) ?_
                refine r_sub (L' := [(2, .int (nI (k + 1))), (0, .ref (mA G 107)), (1, .int a)]) [0, 1, 2] rfl ?_
                exact ih51 (k + 1) _ (by omega) ⟨fun j hj => by rw [upd_ne (by omega)]; exact hf2.1 j hj, fun j hj => by rcases Nat.lt_or_ge j k with q | q; (rw [upd_ne (by omega)]; exact hf2.2 j q); (have e9 : j = k := by omega); subst e9; rw [upd_at]⟩ (by omega)
          refine r_sub (L' := [(2, .int (nI 0)), (0, .ref (mA G 107)), (1, .int a)]) [0, 1, 2] rfl ?_
          exact lp51 _ 0 F0 (by omega) ⟨fun j _ => rfl, fun j hj => absurd hj (Nat.not_lt_zero j)⟩ (Nat.lt_succ_self _)
        ·
          have hlt : k < 447 := lt_of_nle (b := 447) (by omega) c14
          refine r_aload_n C dX8_ends_17 1 rfl ?_
          refine r_getr (q2 := 109) C dX8_ends_18 1 f_X8_13 rfl rfl ?_
          refine r_iload_n C dX8_ends_21 0 rfl ?_
          refine r_aload_n C dX8_ends_22 1 rfl ?_
          refine r_getr (q2 := 109) C dX8_ends_23 1 f_X8_13 rfl rfl ?_
          refine r_iload_n C dX8_ends_26 0 rfl ?_
          refine r_sipush (v := 149) C dX8_ends_27 rfl ?_
          refine r_iadd C dX8_ends_30 ?_
          refine r_valI (y := nI (k + 149)) (nI_add k 149) ?_
          refine r_ialdN (j := k + 149) (v := M 109 (k + 149)) C dX8_ends_31 rfl (rfl) (by omega) (by decide) ((congrFun (mrow_at M 109 f) (k + 149)).trans (hf.2 _ (by omega))) ?_
          refine r_iastN (j := k) C dX8_ends_32 rfl (rfl) (by omega) (by decide) ?_
          refine r_mem (M' := mrow M 109 (upd f k (M 109 (k + 149)))) (mset_row _ _ _ _ _) ?_
          refine r_iinc (v := nI (k + 1)) (L' := [(2, .int (nI (k + 1))), (0, .ref (mA G 107)), (1, .int a)]) C dX8_ends_33 0 rfl (nI_inc _) (by decide) rfl ?_
          refine r_goto (tgt := 10) C dX8_ends_36 (by decide) ?_
          refine r_sub (L' := [(2, .int (nI (k + 1))), (0, .ref (mA G 107)), (1, .int a)]) [0, 1, 2] rfl ?_
          exact ih10 (k + 1) _ (by omega) ⟨(fun j hj => by rcases Nat.lt_or_ge j k with q | q; (rw [upd_ne (by omega)]; exact hf.1 j q); (have e9 : j = k := by omega); subst e9; rw [upd_at]), fun j hj => by rw [upd_ne (by omega)]; exact hf.2 j (by omega)⟩ (by omega)
    refine r_mem (M' := mrow M 109 (M 109)) (mrow_self M 109).symm ?_
    refine r_sub (L' := [(2, .int (nI 0)), (0, .ref (mA G 107)), (1, .int a)]) [0, 1, 2] rfl ?_
    exact lp10 _ 0 (M 109) (by omega) ⟨fun j hj => absurd hj (Nat.not_lt_zero j), fun j _ => rfl⟩ (Nat.lt_succ_self _)

set_option maxRecDepth 20000 in
set_option maxHeartbeats 1000000 in
theorem c_X8_puts (l : Launch) (G : mG) (hG : mInj G) (M : Mem) (g : Glo) (j w : Nat) (hj : j < 16) (hw : w < 8) (x : Int32) : mcV l G yX8_puts cX8_puts 4 1 [.ref (mA G 107), .int (nI j), .int (nI w), .int x] M g (fun M' g' => M' = mset M 108 (9 + 8 * j + w) x ∧ g' = g) := by
  refine mcV_of (L0 := [(0, .ref (mA G 107)), (1, .int (nI j)), (2, .int (nI w)), (3, .int x)]) hG (by decide) (Nat.le_of_ble_eq_true rfl) rfl ?_
  intro p e s m args below meth c Q C hend
  refine r_aload_n C dX8_puts_0 0 rfl ?_
  refine r_getr (q2 := 108) C dX8_puts_1 0 f_X8_7 rfl rfl ?_
  refine r_bipush (v := 9) C dX8_puts_4 rfl ?_
  refine r_bipush (v := 8) C dX8_puts_6 rfl ?_
  refine r_iload_n C dX8_puts_8 1 rfl ?_
  refine r_imul C dX8_puts_9 ?_
  refine r_iadd C dX8_puts_10 ?_
  refine r_iload_n C dX8_puts_11 2 rfl ?_
  refine r_iadd C dX8_puts_12 ?_
  refine r_iload_n C dX8_puts_13 3 rfl ?_
  refine r_iastN (j := 9 + 8 * j + w) C dX8_puts_14 rfl (ix8 j w) (by omega) (by decide) ?_
  exact hend _ _ _ _ dX8_puts_15 (⟨rfl, rfl⟩)

set_option maxRecDepth 20000 in
set_option maxHeartbeats 1000000 in
theorem c_X8_adds (l : Launch) (G : mG) (hG : mInj G) (M : Mem) (g : Glo) (V : View) (hV : rV (M 108) V) (hn : vN V < 16) (a l9 s9 d t : Int32) : mcV l G yX8_adds cX8_adds 7 2 [.ref (mA G 107), .int a, .int l9, .int s9, .int d, .int t] M g (fun M' g' => M' = mrow M 108 (ad8 (M 108) (vN V) a l9 s9 d t) ∧ g' = g) := by
  refine mcV_of (L0 := [(0, .ref (mA G 107)), (1, .int a), (2, .int l9), (3, .int s9), (4, .int d), (5, .int t)]) hG (by decide) (Nat.le_of_ble_eq_true rfl) rfl ?_
  intro p e s m args below meth c Q C hend
  refine r_aload_n C dX8_adds_0 0 rfl ?_
  refine r_getr (q2 := 108) C dX8_adds_1 0 f_X8_7 rfl rfl ?_
  refine r_iconst (v := 5) C dX8_adds_4 rfl ?_
  refine r_ialdN (j := 5) (v := nI (vN V)) C dX8_adds_5 rfl (rfl) (by omega) (by decide) (hV.1.1) ?_
  refine r_istore (L' := [(6, .int (nI (vN V))), (0, .ref (mA G 107)), (1, .int a), (2, .int l9), (3, .int s9), (4, .int d), (5, .int t)]) C dX8_adds_6 (by decide) rfl ?_
  refine r_aload_n C dX8_adds_8 1 rfl ?_
  refine r_iload C dX8_adds_9 0 rfl ?_
  refine r_iconst (v := 0) C dX8_adds_11 rfl ?_
  refine r_iload_n C dX8_adds_12 2 rfl ?_
  refine r_callVV (As := [.int (nI (vN V)), .int 0, .int a]) (rest := []) C dX8_adds_13 s_X8_87 (c_X8_puts l G hG M g (vN V) 0 hn (by decide) a) (by decide) rfl rfl rfl rfl (Nat.le_of_ble_eq_true rfl) (Nat.le_of_ble_eq_true rfl) (Nat.le_of_ble_eq_true rfl) (pk_V ?_)
  refine r_aload_n C dX8_adds_16 1 rfl ?_
  refine r_iload C dX8_adds_17 0 rfl ?_
  refine r_iconst (v := 1) C dX8_adds_19 rfl ?_
  refine r_iload_n C dX8_adds_20 3 rfl ?_
  refine r_callVV (As := [.int (nI (vN V)), .int 1, .int l9]) (rest := []) C dX8_adds_21 s_X8_87 (c_X8_puts l G hG (mset M 108 (9 + 8 * vN V + 0) a) g (vN V) 1 hn (by decide) l9) (by decide) rfl rfl rfl rfl (Nat.le_of_ble_eq_true rfl) (Nat.le_of_ble_eq_true rfl) (Nat.le_of_ble_eq_true rfl) (pk_V ?_)
  refine r_aload_n C dX8_adds_24 1 rfl ?_
  refine r_iload C dX8_adds_25 0 rfl ?_
  refine r_iconst (v := 2) C dX8_adds_27 rfl ?_
  refine r_iload_n C dX8_adds_28 4 rfl ?_
  refine r_callVV (As := [.int (nI (vN V)), .int 2, .int s9]) (rest := []) C dX8_adds_29 s_X8_87 (c_X8_puts l G hG (mset (mset M 108 (9 + 8 * vN V + 0) a) 108 (9 + 8 * vN V + 1) l9) g (vN V) 2 hn (by decide) s9) (by decide) rfl rfl rfl rfl (Nat.le_of_ble_eq_true rfl) (Nat.le_of_ble_eq_true rfl) (Nat.le_of_ble_eq_true rfl) (pk_V ?_)
  refine r_aload_n C dX8_adds_32 1 rfl ?_
  refine r_iload C dX8_adds_33 0 rfl ?_
  refine r_iconst (v := 3) C dX8_adds_35 rfl ?_
  refine r_iload C dX8_adds_36 5 rfl ?_
  refine r_callVV (As := [.int (nI (vN V)), .int 3, .int d]) (rest := []) C dX8_adds_38 s_X8_87 (c_X8_puts l G hG (mset (mset (mset M 108 (9 + 8 * vN V + 0) a) 108 (9 + 8 * vN V + 1) l9) 108 (9 + 8 * vN V + 2) s9) g (vN V) 3 hn (by decide) d) (by decide) rfl rfl rfl rfl (Nat.le_of_ble_eq_true rfl) (Nat.le_of_ble_eq_true rfl) (Nat.le_of_ble_eq_true rfl) (pk_V ?_)
  refine r_aload_n C dX8_adds_41 1 rfl ?_
  refine r_iload C dX8_adds_42 0 rfl ?_
  refine r_iconst (v := 4) C dX8_adds_44 rfl ?_
  refine r_iload C dX8_adds_45 6 rfl ?_
  refine r_callVV (As := [.int (nI (vN V)), .int 4, .int t]) (rest := []) C dX8_adds_47 s_X8_87 (c_X8_puts l G hG (mset (mset (mset (mset M 108 (9 + 8 * vN V + 0) a) 108 (9 + 8 * vN V + 1) l9) 108 (9 + 8 * vN V + 2) s9) 108 (9 + 8 * vN V + 3) d) g (vN V) 4 hn (by decide) t) (by decide) rfl rfl rfl rfl (Nat.le_of_ble_eq_true rfl) (Nat.le_of_ble_eq_true rfl) (Nat.le_of_ble_eq_true rfl) (pk_V ?_)
  refine r_aload_n C dX8_adds_50 1 rfl ?_
  refine r_iload C dX8_adds_51 0 rfl ?_
  refine r_iconst (v := 5) C dX8_adds_53 rfl ?_
  refine r_iconst (v := 0) C dX8_adds_54 rfl ?_
  refine r_callVV (As := [.int (nI (vN V)), .int 5, .int 0]) (rest := []) C dX8_adds_55 s_X8_87 (c_X8_puts l G hG (mset (mset (mset (mset (mset M 108 (9 + 8 * vN V + 0) a) 108 (9 + 8 * vN V + 1) l9) 108 (9 + 8 * vN V + 2) s9) 108 (9 + 8 * vN V + 3) d) 108 (9 + 8 * vN V + 4) t) g (vN V) 5 hn (by decide) 0) (by decide) rfl rfl rfl rfl (Nat.le_of_ble_eq_true rfl) (Nat.le_of_ble_eq_true rfl) (Nat.le_of_ble_eq_true rfl) (pk_V ?_)
  refine r_aload_n C dX8_adds_58 1 rfl ?_
  refine r_iload C dX8_adds_59 0 rfl ?_
  refine r_bipush (v := 6) C dX8_adds_61 rfl ?_
  refine r_iconst (v := 0) C dX8_adds_63 rfl ?_
  refine r_callVV (As := [.int (nI (vN V)), .int 6, .int 0]) (rest := []) C dX8_adds_64 s_X8_87 (c_X8_puts l G hG (mset (mset (mset (mset (mset (mset M 108 (9 + 8 * vN V + 0) a) 108 (9 + 8 * vN V + 1) l9) 108 (9 + 8 * vN V + 2) s9) 108 (9 + 8 * vN V + 3) d) 108 (9 + 8 * vN V + 4) t) 108 (9 + 8 * vN V + 5) 0) g (vN V) 6 hn (by decide) 0) (by decide) rfl rfl rfl rfl (Nat.le_of_ble_eq_true rfl) (Nat.le_of_ble_eq_true rfl) (Nat.le_of_ble_eq_true rfl) (pk_V ?_)
  refine r_aload_n C dX8_adds_67 1 rfl ?_
  refine r_iload C dX8_adds_68 0 rfl ?_
  refine r_bipush (v := 7) C dX8_adds_70 rfl ?_
  refine r_iconst (v := 0) C dX8_adds_72 rfl ?_
  refine r_callVV (As := [.int (nI (vN V)), .int 7, .int 0]) (rest := []) C dX8_adds_73 s_X8_87 (c_X8_puts l G hG (mset (mset (mset (mset (mset (mset (mset M 108 (9 + 8 * vN V + 0) a) 108 (9 + 8 * vN V + 1) l9) 108 (9 + 8 * vN V + 2) s9) 108 (9 + 8 * vN V + 3) d) 108 (9 + 8 * vN V + 4) t) 108 (9 + 8 * vN V + 5) 0) 108 (9 + 8 * vN V + 6) 0) g (vN V) 7 hn (by decide) 0) (by decide) rfl rfl rfl rfl (Nat.le_of_ble_eq_true rfl) (Nat.le_of_ble_eq_true rfl) (Nat.le_of_ble_eq_true rfl) (pk_V ?_)
  refine r_aload_n C dX8_adds_76 1 rfl ?_
  refine r_getr (q2 := 108) C dX8_adds_77 0 f_X8_7 rfl rfl ?_
  refine r_iconst (v := 5) C dX8_adds_80 rfl ?_
  refine r_dup2 C dX8_adds_81 rfl rfl ?_
  refine r_ialdN (j := 5) (v := nI (vN V)) C dX8_adds_82 rfl (rfl) (by omega) (by decide) (by rw [mset_at, upd_ne (by omega), mset_at, upd_ne (by omega), mset_at, upd_ne (by omega), mset_at, upd_ne (by omega), mset_at, upd_ne (by omega), mset_at, upd_ne (by omega), mset_at, upd_ne (by omega), mset_at, upd_ne (by omega)]; exact hV.1.1) ?_
  refine r_iconst (v := 1) C dX8_adds_83 rfl ?_
  refine r_iadd C dX8_adds_84 ?_
  refine r_valI (y := nI (vN V + 1)) (nI_1 _) ?_
  refine r_iastN (j := 5) C dX8_adds_85 rfl (rfl) (by omega) (by decide) ?_
  exact hend _ _ _ _ dX8_adds_86 (⟨by unfold ad8; simp only [mset_eq, mrow_at, mrow_mrow], rfl⟩)
