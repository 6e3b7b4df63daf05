/-- two states that differ only in what no flow, temperature, load or region reads -/
def sameW (V V' : View) : Prop := vN V = vN V' ∧ vB V = vB V' ∧ vP V = vP V' ∧ vO V = vO V' ∧ (∀ w, w < 6 → vD V w = vD V' w) ∧ vS V 1 = vS V' 1
theorem sameW.flow {V V' : View} (h : sameW V V') : flowF V = flowF V' := by
  obtain ⟨h1, h2, h3, h4, h5, h6⟩ := h
  unfold flowF
  rw [h1, h3, h5 3 (by decide), h5 5 (by decide)]
theorem sameW.wrow {V V' : View} (h : sameW V V') (sup : Int32) : ∀ k, wRow V sup k = wRow V' sup k
  | 0 => rfl
  | k + 1 => by
    have r := h.wrow sup k
    have hf := h.flow
    obtain ⟨h1, h2, h3, h4, h5, h6⟩ := h
    rw [wRow, wRow, r, h3]
    simp only [wStep, hf, h6, h5 1 (by decide), h5 2 (by decide)]
theorem sameW.warm {V V' : View} (h : sameW V V') (sup : Int32) : warmF V sup = warmF V' sup := by
  funext j
  unfold warmF
  rw [h.wrow]
theorem sameW.ret {V V' : View} (h : sameW V V') (sup : Int32) : rF V sup = rF V' sup := by
  funext j
  unfold rF
  rw [h.warm, h.2.2.2.2.1 4 (by decide)]
theorem sameW.back {V V' : View} (h : sameW V V') (sup : Int32) : backF V sup = backF V' sup := by
  unfold backF
  rw [h.ret, h.1, h.2.2.1, h.2.2.2.2.1 3 (by decide)]
theorem sameW.need {V V' : View} (h : sameW V V') (sup : Int32) : needF V sup = needF V' sup := by
  unfold needF
  rw [h.flow, h.back]
theorem sameB.place {V V' : View} (h2 : vB V = vB V') (h4 : vO V = vO V') : placeN V = placeN V' := by
  funext b
  unfold placeN
  have : (fun o => bef V o b) = (fun o => bef V' o b) := by
    funext o
    simp only [bef, h4]
  rw [h2, this]
theorem sameB.at {V V' : View} (h2 : vB V = vB V') (h4 : vO V = vO V') : boilAt V = boilAt V' := by
  funext k
  unfold boilAt
  rw [sameB.place h2 h4, h2]
theorem sameB.lf {V V' : View} (h2 : vB V = vB V') (h4 : vO V = vO V') (nd : Int32) : ∀ k, lfF V nd k = lfF V' nd k
  | 0 => rfl
  | k + 1 => by
    rw [lfF, lfF, sameB.lf h2 h4 nd k, sameB.at h2 h4]
    simp only [nxL, h4]
theorem sameB.cs {V V' : View} (h2 : vB V = vB V') (h4 : vO V = vO V') (nd : Int32) : ∀ k, csF V nd k = csF V' nd k
  | 0 => rfl
  | k + 1 => by
    rw [csF, csF, sameB.cs h2 h4 nd k, sameB.at h2 h4, sameB.lf h2 h4]
    simp only [ldV, h4]
theorem sameW.hour {V V' : View} (h : sameW V V') {M : Mem} {H : Nat} {sup : Int32} (hh : hourOK M H V sup) : hourOK M H V' sup := by
  have h2 := h.2.1
  have h4 := h.2.2.2.1
  obtain ⟨a1, a2, a3, a4, a5⟩ := hh
  rw [h.need] at a2 a3 a4 a5
  refine ⟨fun j hj => ?_, fun b hb => ?_, a3, ?_, ?_⟩
  · rw [← h.flow, ← h.warm, ← h.back]
    exact a1 j (by rw [h.1]; exact hj)
  · have := a2 b (by rw [h2]; exact hb)
    rw [this]
    unfold loadF
    rw [sameB.place h2 h4, sameB.lf h2 h4]
    simp only [ldV, h4]
  · rw [a4]; unfold unmetF; rw [sameB.lf h2 h4, h2]
  · rw [a5]; unfold costF; rw [sameB.cs h2 h4, h2]
theorem sameW.hd {V V' : View} (h : sameW V V') (mt : Nat → Int32) : hdF V mt = hdF V' mt := by
  have key : ∀ k, hRow V mt k = hRow V' mt k := by
    intro k
    induction k with
    | zero => rfl
    | succ k ih => unfold hRow; rw [ih, h.2.2.1]
  funext j
  unfold hdF
  rw [key]
theorem sameW.regs {V V' : View} (h : sameW V V') {M : Mem} {Z : Nat} {mt : Nat → Int32} (hh : rgOK M Z V mt) : rgOK M Z V' mt := by
  obtain ⟨a1, a2, a3⟩ := hh
  refine ⟨by rw [← h.1]; exact a1, fun j hj => a2 j (by rw [h.1]; exact hj), fun j hj => ?_⟩
  obtain ⟨b1, b2, b3, b4⟩ := a3 j (by rw [h.1]; exact hj)
  refine ⟨by rw [b1, h.hd], by rw [b2]; unfold ibF; rw [h.1, h.2.2.1], ?_, ?_⟩
  · rw [b3]; unfold szF szR; rw [h.hd, h.1]
  · rw [b4]; unfold lkF lkR; rw [h.hd, h.1, h.2.2.2.2.1 5 (by decide)]
theorem sameW_sc (V : View) (i : Nat) (x : Int32) (hi : i ≠ 1) : sameW V (vSc V i x) := ⟨rfl, rfl, rfl, rfl, fun _ _ => rfl, by show vS V 1 = if 1 = i then x else vS V 1; rw [if_neg (fun e => hi e.symm)]⟩
theorem sameW.del {V V' : View} (h : sameW V V') (hs : vS V 0 = vS V' 0) : delF V = delF V' := by
  funext j
  unfold delF vSup
  rw [hs, h.warm, h.ret, h.2.2.2.2.1 3 (by decide)]
theorem sameW.bill {V V' : View} (h : sameW V V') (h0 : vS V 0 = vS V' 0) (h2 : vS V 2 = vS V' 2) (h3 : vS V 3 = vS V' 3) (h4 : vS V 4 = vS V' 4) : billF V = billF V' := by
  funext j
  unfold billF vSup
  rw [h.del h0, h0, h2, h3, h4, h.ret, h.2.2.2.2.1 3 (by decide)]
theorem wf_sc0 {V : View} {x : Int32} (h : wfV V) (hx : inR x 400 1200) : wfV (vSc V 0 x) := wf_sc h (fun z => ⟨hx, z.2.1, z.2.2.1, z.2.2.2.1, z.2.2.2.2.1, z.2.2.2.2.2⟩)
theorem wf_sc1 {V : View} {x : Int32} (h : wfV V) (hx : inR x (-200) 300) : wfV (vSc V 1 x) := wf_sc h (fun z => ⟨z.1, hx, z.2.2.1, z.2.2.2.1, z.2.2.2.2.1, z.2.2.2.2.2⟩)
theorem wf_sc2 {V : View} {x : Int32} (h : wfV V) (hx : inR x 0 999) : wfV (vSc V 2 x) := wf_sc h (fun z => ⟨z.1, z.2.1, hx, z.2.2.2.1, z.2.2.2.2.1, z.2.2.2.2.2⟩)
theorem wf_sc3 {V : View} {x : Int32} (h : wfV V) (hx : inR x 0 1200) : wfV (vSc V 3 x) := wf_sc h (fun z => ⟨z.1, z.2.1, z.2.2.1, hx, z.2.2.2.2.1, z.2.2.2.2.2⟩)
theorem wf_sc4 {V : View} {x : Int32} (h : wfV V) (hx : inR x 0 99) : wfV (vSc V 4 x) := wf_sc h (fun z => ⟨z.1, z.2.1, z.2.2.1, z.2.2.2.1, hx, z.2.2.2.2.2⟩)
theorem wf_sc7 {V : View} {x : Int32} (h : wfV V) : wfV (vSc V 7 x) := wf_sc h (fun z => z)
theorem wf_sc8 {V : View} {x : Int32} (h : wfV V) (hx : inR x 0 200) : wfV (vSc V 8 x) := wf_sc h (fun z => ⟨z.1, z.2.1, z.2.2.1, z.2.2.2.1, z.2.2.2.2.1, hx⟩)
theorem cSt_boi {M1 M2 : Mem} {V : View} {a l s : Int32} (h : cSt M1 1 V) (hb : cBoi M2 11 (vBoi V a l s)) (o : offR M1 M2 11 14) : cSt M2 1 (vBoi V a l s) := by
  obtain ⟨h1, h2, h3⟩ := h
  refine ⟨(h1.off o (by omega) : cNet M2 2 V), hb, ?_⟩
  rw [o 1 (by omega)]
  exact h3
theorem cSt_add {M1 M2 : Mem} {V : View} {a l s d t : Int32} (h : cSt M1 1 V) (hb : cNet M2 2 (vAdd V a l s d t)) (o : offR M1 M2 2 (2 + 8)) : cSt M2 1 (vAdd V a l s d t) := by
  obtain ⟨h1, h2, h3⟩ := h
  refine ⟨hb, (h2.off o (by omega) : cBoi M2 11 V), ?_⟩
  rw [o 1 (by omega)]
  exact h3
theorem cSt_net {M1 M2 : Mem} {V P : View} (h : cSt M1 1 V) (hb : cNet M2 2 P) (o : offR M1 M2 2 (2 + 8)) : cSt M2 1 (vNet V P) := by
  obtain ⟨h1, h2, h3⟩ := h
  refine ⟨hb, (h2.off o (by omega) : cBoi M2 11 V), ?_⟩
  rw [o 1 (by omega)]
  exact h3
theorem rg_bal {M : Mem} {V : View} {mt : Nat → Int32} (h : rgOK M 80 V mt) {j : Nat} (hj : j < vN V) : balF (M (80 + 1)) (M (80 + 5)) j = balF mt (lkF V mt) j := by
  unfold balF
  rw [h.2.1 j hj, (h.2.2 j hj).2.2.2]
theorem rg_siz {M : Mem} {V : View} {mt : Nat → Int32} (h : rgOK M 80 V mt) {j : Nat} (hj : j < vN V) : balF (M (80 + 1)) (M (80 + 4)) j = balF mt (szF V mt) j := by
  unfold balF
  rw [h.2.1 j hj, (h.2.2 j hj).2.2.1]
theorem rg_next {M : Mem} {Z : Nat} {V : View} {mt : Nat → Int32} (h : rgOK M Z V mt) {j : Nat} (hj : j < vN V) : nextR (vN V) (hdF V mt) (M (Z + 1)) (M (Z + 3)) (M (Z + 4)) (M (Z + 5)) j = nextF V mt j := by
  have hb : balF (M (Z + 1)) (M (Z + 5)) j = balF mt (lkF V mt) j := by
    unfold balF
    rw [h.2.1 j hj, (h.2.2 j hj).2.2.2]
  unfold nextF nextR
  rw [hb, (h.2.2 j hj).2.2.1, nxS_cong (hd' := hdF V mt) (mt' := mt) (ib' := ibF V mt) (sz' := szF V mt) (vN V) (fun i hi => ⟨rfl, h.2.1 i hi, (h.2.2 i hi).2.1⟩) (h.2.2 j hj).2.2.1]
theorem rg_hd {M : Mem} {Z : Nat} {V : View} {mt : Nat → Int32} (hT : wfT V) (h : rgOK M Z V mt) : ∀ k, k < vN V → M (Z + 2) k = nI (hdF V mt k) ∧ hdF V mt k ≤ k := fun k hk => ⟨(h.2.2 k hk).1, hdF_le hT mt k k (Nat.le_refl k) hk⟩
theorem rg_sus {M : Mem} {V : View} {mt : Nat → Int32} (h : rgOK M 80 V mt) : sumA (fun j => b2i (decide (0 < balF (M (80 + 1)) (M (80 + 5)) j))) (vN V) = susF V mt := sumA_cong (fun j hj => by rw [rg_bal h hj])
/-- an hour's passing -/
def vPass (V : View) (h : Int32) : View := ((vN V, vB V), vP V, (fun i => if i = 7 then vS V 7 + h * costF V (needF V (vSup V)) else if i = 8 then vS V 8 + h else vS V i), (fun w j => if w = 7 ∧ j ≠ 0 then vD V 7 j + h * billF V j else vD V w j), vO V)
/-- .. with the accounts below k -/
def vPasK (V : View) (h : Int32) (k : Nat) : View := ((vN V, vB V), vP V, vS V, (fun w j => if w = 7 ∧ j ≠ 0 ∧ j < k then vD V 7 j + h * billF V j else vD V w j), vO V)
theorem sameW_pasK (V : View) (h : Int32) (k : Nat) : sameW V (vPasK V h k) := by
  refine ⟨rfl, rfl, rfl, rfl, fun w hw => ?_, rfl⟩
  funext j
  show vD V w j = if w = 7 ∧ j ≠ 0 ∧ j < k then _ else vD V w j
  rw [if_neg (fun z => by omega)]
theorem wf_sameD {V V' : View} (h : wfV V) (h1 : vN V' = vN V) (h2 : vB V' = vB V) (h3 : vP V' = vP V) (h4 : vO V' = vO V) (hD : ∀ w j, w ≠ 7 ∨ j = 0 → vD V' w j = vD V w j) (hS : wfS V') : wfV V' := by
  obtain ⟨⟨t1, t2, t3, t4, t5⟩, h5, h6, h7, h8⟩ := h
  refine ⟨⟨by rw [h1]; exact t1, by rw [h1]; exact t2, by rw [h2]; exact t3, by rw [hD 0 0 (Or.inr rfl), hD 3 0 (Or.inr rfl), hD 5 0 (Or.inr rfl), hD 6 0 (Or.inr rfl)]; exact t4, fun j a b => by rw [hD 0 j (Or.inl (by decide)), h3]; exact t5 j a (by rw [← h1]; exact b)⟩, fun w hw => by rw [hD w 0 (Or.inr rfl)]; exact h5 w hw, fun j a b => ?_, hS, fun b hb => ?_⟩
  · have := h6 j a (by rw [← h1]; exact b)
    unfold wfC at this ⊢
    rw [hD 1 j (Or.inl (by decide)), hD 2 j (Or.inl (by decide)), hD 3 j (Or.inl (by decide)), hD 4 j (Or.inl (by decide)), hD 5 j (Or.inl (by decide)), hD 6 j (Or.inl (by decide))]
    exact this
  · have := h8 b (by rw [← h2]; exact hb)
    unfold wfB at this ⊢
    rw [h4]
    exact this
/-- the shape of a network alone -/
def wfN (P : View) : Prop := wfT P ∧ isV0 P ∧ ∀ j, 0 < j → j < vN P → wfC P j
theorem wf_net2 {V P : View} (h : wfV V) (hP : wfN P) : wfV (vNet V P) := by
  obtain ⟨⟨t1, t2, t3, t4, t5⟩, h5, h6, h7, h8⟩ := h
  obtain ⟨⟨u1, u2, u3, u4, u5⟩, g5, g6⟩ := hP
  exact ⟨⟨u1, u2, t3, u4, u5⟩, g5, g6, h7, h8⟩
theorem wf_addN {V : View} {a l s d t : Int32} {p : Nat} (h : wfN V) (hn : vN V < 16) (hp : a = nI p) (hp2 : p < vN V) (h1 : inR l 1 500) (h2 : inR s 0 50) (h3 : inR d 0 500) (h4 : inR t 0 1200) : wfN (vAdd V a l s d t) := by
  obtain ⟨⟨t1, t2, t3, t4, t5⟩, h5, h6⟩ := h
  have e0 : ∀ w, vD (vAdd V a l s d t) w 0 = vD V w 0 := fun w => by show (if 0 = vN V then _ else vD V w 0) = _; rw [if_neg (by omega)]
  have ne : ∀ w j, j ≠ vN V → vD (vAdd V a l s d t) w j = vD V w j := fun w j hj => by show (if j = vN V then _ else vD V w j) = _; rw [if_neg hj]
  refine ⟨⟨(show 1 ≤ vN V + 1 by omega), (show vN V + 1 ≤ 16 by omega), t3, by rw [e0, e0, e0, e0]; exact t4, fun j h9 hj => ?_⟩, fun w hw => by rw [e0]; exact h5 w hw, fun j h9 hj => ?_⟩
  · have hj2 : j < vN V + 1 := hj
    by_cases e : j = vN V
    · subst e
      have e1 : vD (vAdd V a l s d t) 0 (vN V) = a := by simp [vAdd, vD]
      have e2 : vP (vAdd V a l s d t) (vN V) = a.toNatClampNeg := by simp [vAdd, vP]
      rw [e1, e2, hp, nI_clamp (by omega)]
      exact ⟨rfl, hp2⟩
    · have e2 : vP (vAdd V a l s d t) j = vP V j := by show (if j = vN V then _ else vP V j) = _; rw [if_neg e]
      rw [ne 0 j e, e2]
      exact t5 j h9 (by omega)
  · have hj2 : j < vN V + 1 := hj
    by_cases e : j = vN V
    · subst e
      simp [wfC, vAdd, vD]
      exact ⟨h1, h2, h3, h4, ⟨by decide, by decide⟩⟩
    · have := h6 j h9 (by omega)
      unfold wfC at this ⊢
      rw [ne 1 j e, ne 2 j e, ne 3 j e, ne 4 j e, ne 5 j e, ne 6 j e]
      exact this
