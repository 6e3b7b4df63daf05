/-! more about passing hours, texts, saved states, what-if -/
theorem pas_cOK {M : Mem} {V : View} {h : Int32} {k : Nat} {f : Nat → Int32} (hC : cOK M V) (hf : ∀ j, j < vN V → f j = vD (vPasK V h k) 7 j) : cOK (mrow M 10 f) (vPasK V h k) := by
  obtain ⟨⟨c1, c2, c3⟩, h2, h3⟩ := hC
  have ho : offR M (mrow M 10 f) 10 10 := offR.row f (Nat.le_refl _) (Nat.le_refl _)
  have hs := sameW_pasK V h k
  refine ⟨⟨⟨?_, fun w hw j hj => ?_⟩, (c2.off ho (by omega) : cBoi _ 11 V), ?_⟩, hs.hour (h2.off ho (by omega)), ?_⟩
  · rw [mrow_ne (by decide)]; exact c1.1
  · by_cases e : w = 7
    · subst e
      rw [mrow_at]
      exact hf j hj
    · rw [mrow_ne (by omega)]
      show _ = if w = 7 ∧ j ≠ 0 ∧ j < k then _ else vD V w j
      rw [if_neg (fun z => e z.1)]
      exact c1.2 w hw j hj
  · rw [ho 1 (by decide)]; exact c3
  · have e : vD (vPasK V h k) 6 = vD V 6 := by
      funext j
      show (if 6 = 7 ∧ j ≠ 0 ∧ j < k then vD V 7 j + h * billF V j else vD V 6 j) = _
      rw [if_neg (fun z => absurd z.1 (by decide))]
    rw [e]
    exact hs.regs (h3.off ho (by omega))
theorem pas_wfT {V : View} {h : Int32} {k : Nat} (hT : wfT V) : wfT (vPasK V h k) := by
  obtain ⟨t1, t2, t3, t4, t5⟩ := hT
  have e : ∀ w j, w ≠ 7 ∨ j = 0 → vD (vPasK V h k) w j = vD V w j := fun w j hw => by
    show (if w = 7 ∧ j ≠ 0 ∧ j < k then _ else vD V w j) = _
    rw [if_neg (fun z => by rcases hw with q | q; exact q z.1; exact z.2.1 q)]
  exact ⟨t1, t2, t3, by rw [e 0 0 (Or.inr rfl), e 3 0 (Or.inr rfl), e 5 0 (Or.inr rfl), e 6 0 (Or.inr rfl)]; exact t4, fun j a b => by rw [e 0 j (Or.inl (by decide))]; exact t5 j a b⟩
theorem pas_bill {V : View} {h : Int32} {k j : Nat} : billF (vPasK V h k) j = billF V j := congrFun ((sameW_pasK V h k).bill rfl rfl rfl rfl).symm j
theorem pas_fin {M : Mem} {V : View} {h : Int32} {f : Nat → Int32} (hC : cOK M V) (hf : ∀ j, j < vN V → f j = vD (vPasK V h (vN V)) 7 j) : cOK (mset (mset (mrow M 10 f) 1 8 (vS V 7 + h * costF V (needF V (vSup V)))) 1 7 (vS V 8 + h)) (vPass V h) := by
  have hk := pas_cOK hC hf
  have hs : sameW V (vPass V h) := by
    refine ⟨rfl, rfl, rfl, rfl, fun w hw => ?_, rfl⟩
    funext j
    show vD V w j = if w = 7 ∧ j ≠ 0 then _ else vD V w j
    rw [if_neg (fun z => by omega)]
  have ho : offR (mrow M 10 f) (mset (mset (mrow M 10 f) 1 8 (vS V 7 + h * costF V (needF V (vSup V)))) 1 7 (vS V 8 + h)) 1 1 := fun q hq => by rw [mset_ne (by omega), mset_ne (by omega)]
  have ho2 : offR M (mrow M 10 f) 10 10 := offR.row f (Nat.le_refl _) (Nat.le_refl _)
  obtain ⟨⟨c1, c2, c3, c4, c5, c6, c7, c8, c9⟩, h2, h3⟩ := hC
  obtain ⟨⟨d1, d2, d3⟩, g2, g3⟩ := hk
  have e1 : (mrow M 10 f) 1 = M 1 := mrow_ne (by decide) f
  refine ⟨⟨⟨?_, fun w hw j hj => ?_⟩, (d2.off ho (by omega) : cBoi _ 11 V), ?_⟩, hs.hour ((h2.off ho2 (by omega)).off ho (by omega)), ?_⟩
  · rw [ho 2 (by decide)]; exact d1.1
  · rw [ho (1 + 1 + 1 + w) (by omega)]
    have := d1.2 w hw j hj
    rw [this]
    show (if w = 7 ∧ j ≠ 0 ∧ j < vN V then _ else vD V w j) = if w = 7 ∧ j ≠ 0 then _ else vD V w j
    have hj2 : j < vN V := hj
    by_cases e : w = 7 ∧ j ≠ 0
    · rw [if_pos e, if_pos ⟨e.1, e.2, hj2⟩]
    · rw [if_neg e, if_neg (fun z => e ⟨z.1, z.2.1⟩)]
  · rw [mset_at, mset_at, e1]
    refine ⟨?_, ?_, ?_, ?_, ?_, ?_, ?_⟩
    · rw [upd_ne (by decide), upd_ne (by decide)]; exact c3
    · rw [upd_ne (by decide), upd_ne (by decide)]; exact c4
    · rw [upd_ne (by decide), upd_ne (by decide)]; exact c5
    · rw [upd_ne (by decide), upd_ne (by decide)]; exact c6
    · rw [upd_ne (by decide), upd_ne (by decide)]; exact c7
    · rw [upd_at]; rfl
    · rw [upd_ne (by decide), upd_at]; rfl
  · have e : vD (vPass V h) 6 = vD V 6 := by
      funext j
      show (if 6 = 7 ∧ j ≠ 0 then vD V 7 j + h * billF V j else vD V 6 j) = _
      rw [if_neg (fun z => absurd z.1 (by decide))]
    rw [e]
    exact hs.regs ((h3.off ho2 (by omega)).off ho (by omega))
theorem wf_pass {V : View} {h : Int32} (hW : wfV V) (h1 : inR h 1 100) (h2 : ¬ 200 < vS V 8 + h) : wfV (vPass V h) := by
  obtain ⟨s0, s1, s2, s3, s4, s8⟩ := hW.2.2.2.1
  have e : (vS V 8 + h).toInt = (vS V 8).toInt + h.toInt := i32_add (by have := s8.1; have := h1.1; omega) (by have := s8.2; have := h1.2; omega)
  refine wf_sameD hW rfl rfl rfl rfl (fun w j hw => ?_) ⟨s0, s1, s2, s3, s4, ?_⟩
  · show (if w = 7 ∧ j ≠ 0 then _ else vD V w j) = _
    rw [if_neg (fun z => by rcases hw with q | q; exact q z.1; exact z.2 q)]
  · show inR (vS V 8 + h) 0 200
    have h3 := i32_le.mp (i32_nlt.mp h2)
    have h4 : (200 : Int32).toInt = 200 := by decide
    refine ⟨?_, ?_⟩
    · rw [e]; have := s8.1; have := h1.1; omega
    · omega
theorem cOK_sc3 {M : Mem} {V : View} {a b d : Int32} (hC : cOK M V) : cOK (mset (mset (mset M 1 4 a) 1 5 b) 1 6 d) (vSc (vSc (vSc V 2 a) 3 b) 4 d) := by
  have ho : offR M (mset (mset (mset M 1 4 a) 1 5 b) 1 6 d) 1 1 := fun q hq => by rw [mset_ne (by omega), mset_ne (by omega), mset_ne (by omega)]
  have w1 := sameW_sc V 2 a (by decide)
  have w2 := sameW_sc (vSc V 2 a) 3 b (by decide)
  have w3 := sameW_sc (vSc (vSc V 2 a) 3 b) 4 d (by decide)
  exact ⟨cSt_sc 4 (by decide) (cSt_sc 3 (by decide) (cSt_sc 2 (by decide) hC.1)), w3.hour (w2.hour (w1.hour (hC.2.1.off ho (by decide)))), w3.regs (w2.regs (w1.regs (hC.2.2.off ho (by decide))))⟩
theorem cINV_app {M : Mem} {V : View} {Hs : List View} {len : Nat} {T : Nat → Int32} {x : Int32} (h : cINV M V Hs len T) (hl : len < 180) : cINV (mset (mset M 74 len x) 73 1 (nI (len + 1))) V Hs (len + 1) (upd T len x) := by
  obtain ⟨a1, a2, a3, a4, a5, a6⟩ := h
  have ho : offR M (mset (mset M 74 len x) 73 1 (nI (len + 1))) 73 74 := fun q hq => by rw [mset_ne (by omega), mset_ne (by omega)]
  refine ⟨⟨a1.1.off ho (by omega), a1.2.1.off ho (by omega), a1.2.2.off ho (by omega)⟩, a2, a3.off ho (by omega), a4, ⟨by rw [mset_at, upd_at], by omega, fun j hj => ?_⟩, fun w hw => by rw [ho _ (by omega)]; exact a6 w hw⟩
  rw [mset_ne (by decide), mset_at]
  by_cases e : j = len
  · subst e; rw [upd_at, upd_at]
  · rw [upd_ne e, upd_ne e]; exact a5.2.2 j (by omega)
theorem cINV_clr {M : Mem} {V : View} {Hs : List View} {len : Nat} {T : Nat → Int32} (h : cINV M V Hs len T) : cINV (mset M 73 1 0) V Hs 0 T := by
  obtain ⟨a1, a2, a3, a4, a5, a6⟩ := h
  have ho : offR M (mset M 73 1 0) 73 74 := fun q hq => by rw [mset_ne (by omega)]
  exact ⟨⟨a1.1.off ho (by omega), a1.2.1.off ho (by omega), a1.2.2.off ho (by omega)⟩, a2, a3.off ho (by omega), a4, ⟨by rw [mset_at, upd_at]; rfl, by omega, fun j hj => by omega⟩, fun w hw => by rw [ho _ (by omega)]; exact a6 w hw⟩
/-- what a mended leak saves -/
def savF (V : View) (j : Nat) : Int32 := costF V (needF V (vSup V)) - costF (vSet V 5 j 0) (needF (vSet V 5 j 0) (vSup V))
/-- how many meters a search would set -/
def mfF (V : View) : Nat → (Nat → Int32) → Nat
  | 0, _ => 0
  | f + 1, mt => if fnF V mt = -1 then 0 else 1 + mfF V f (upd mt (fnF V mt).toNatClampNeg 1)
theorem nxS_sp (hd : Nat → Nat) (mt ib sz : Nat → Int32) (node : Nat) : ∀ k, (nxS hd mt ib sz node k).1 = -1 ∨ ∃ i, 0 < i ∧ i < k ∧ mt i = 0 ∧ hd i = node ∧ (nxS hd mt ib sz node k).1 = nI i
  | 0 => Or.inl rfl
  | k + 1 => by
    rw [nxS]
    by_cases h0 : k = 0
    · rw [if_pos h0]; exact Or.inl rfl
    · rw [if_neg h0]
      have ih := nxS_sp hd mt ib sz node k
      have keep : (nxS hd mt ib sz node k).1 = -1 ∨ ∃ i, 0 < i ∧ i < k + 1 ∧ mt i = 0 ∧ hd i = node ∧ (nxS hd mt ib sz node k).1 = nI i := by
        rcases ih with q | ⟨i, a, b, c, d, e⟩
        · exact Or.inl q
        · exact Or.inr ⟨i, a, by omega, c, d, e⟩
      by_cases h1 : hd k = node ∧ mt k = 0
      · rw [if_pos h1]
        split
        · exact Or.inr ⟨k, by omega, by omega, h1.2, h1.1, rfl⟩
        · exact keep
      · rw [if_neg h1]; exact keep
theorem nextF_sp (V : View) (mt : Nat → Int32) (node : Nat) : nextF V mt node = -1 ∨ ∃ i, 0 < i ∧ i < vN V ∧ mt i = 0 ∧ hdF V mt i = node ∧ nextF V mt node = nI i := by
  unfold nextF nextR
  split
  · exact Or.inl rfl
  · exact nxS_sp _ _ _ _ node (vN V)
theorem fnS_sp {nx : Nat → Int32} {P : Int32 → Prop} (h : ∀ j, nx j = -1 ∨ P (nx j)) : ∀ f k, fnS nx f k = -1 ∨ P (fnS nx f k)
  | 0, _ => Or.inl rfl
  | f + 1, k => by
    rw [fnS]
    split
    · exact fnS_sp h f (k + 1)
    · exact h k
theorem fnF_sp (V : View) (mt : Nat → Int32) : fnF V mt = -1 ∨ ∃ i, 0 < i ∧ i < vN V ∧ mt i = 0 ∧ fnF V mt = nI i := by
  have := fnS_sp (nx := nextF V mt) (P := fun x => ∃ i, 0 < i ∧ i < vN V ∧ mt i = 0 ∧ x = nI i) (fun j => by
    rcases nextF_sp V mt j with q | ⟨i, a, b, c, d, e⟩
    · exact Or.inl q
    · exact Or.inr ⟨i, a, b, c, e⟩) (vN V) 0
  exact this
