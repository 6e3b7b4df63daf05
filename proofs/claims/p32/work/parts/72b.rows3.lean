/-! rows of this law: methods that make cells, and the row of sums that stands while one of them runs -/
section MP
variable {p : Program} {l : Launch} {e : Env} {R : Room} {s : State} {m : MethodId} {args : Array Value} {below : List Frame} {meth : Method} {c : Code} {G : mG} {nL kk nn : Nat} {Q : State → Prop} {M : Mem} {g : Glo} {L : List (Nat × Value)} {pc : Nat} {st : List Value} {cc : ByteArray} {own : String}
/-- a method of the law that may make cells (those of what is thrown and caught in it) -/
def mcA (l : Launch) (G : mG) (y : MethodName) (cc : ByteArray) (nL : Nat) (ret : FieldType) (d mc ms : Nat) (vs : List Value) (M : Mem) (g : Glo) (post : Int32 → Mem → Glo → Prop) : Prop :=
  ∀ sz, Met l y (.code y cc nL (some ret) :: gd) (rmD d mc ms) (mPc G sz vs M g) (va_Qi (fun r (u : Mem × Glo) => post r u.1 u.2) (mB G) (mAq G sz)) mc ms (mAq G sz)
theorem mcA_of {y : MethodName} {ret : FieldType} {d mc ms : Nat} {vs : List Value} {post : Int32 → Mem → Glo → Prop} {L0 : List (Nat × Value)} (hG : mInj G) (hy : plainName y.cls = true) (hvs : (lg_sl vs).length ≤ nL) (hL : lv_args 0 vs = L0)
    (body : ∀ (p : Program) (e : Env) (s : State) (m : MethodId) (args : Array Value) (below : List Frame) (meth : Method) (c : Code) (Q : State → Prop), mCx p s m args c cc nL y.cls G →
      (∀ (r : Int32) (M' : Mem) (g' : Glo) (L' : List (Nat × Value)) (pc kk nn : Nat), kk ≤ mc → nn ≤ ms → decode cc pc = .ok (.ireturn, 1) → narrow ret (.int r) = .int r → post r M' g' → At p l e (rmD d mc ms) s m args below meth c G nL kk nn Q M' g' L' pc [.int r]) →
      At p l e (rmD d mc ms) s m args below meth c G nL 0 0 Q M g L0 0 []) : mcA l G y cc nL ret d mc ms vs M g post := by
  intro sz
  refine Met.ofW (cc := cc) (maxL := nL) (ret := some ret) hy rfl ?_
  intro p e s m args below meth c s₁ B hml hv
  obtain ⟨rfl, hsz, hP, hS⟩ := hv
  subst hsz
  subst hL
  rw [lg_entry_eq]
  exact body p e s m _ below meth c _ ⟨B.exec, B.bytes, hml, findClass_of_methodNamed B.named, fun w hw => atoms_spec B.pre w (List.mem_cons_of_mem _ hw), hS, hG⟩
    (fun r M' g' L' pc kk nn hk hn hd hr hp H locs ls hP hS hl => W.widen hk hn (W.zret B.exec B.bytes B.returns hr (fun t ht hW => ⟨⟨r, (M', g'), rfl, hp, by unfold mB; rw [ht]; exact hP⟩, hS.F ht⟩) hS.2.2 hd B.notSynchronized))
    s.heap [] _ hP va_S.rf (lv_entry vs hvs)
/-- a static method of the law is called, over any room -/
theorem r_lA {idx maxL n d mc ms : Nat} {y : MethodName} {bytes : ByteArray} {ret : FieldType} {As rest st0 : List Value} {post : Int32 → Mem → Glo → Prop} (C : mCx p s m args c cc nL own G) (hd : decode cc pc = .ok (.invokestatic idx, 3)) (hs : mSs own idx y bytes maxL (some ret) n) (hM : mcA l G y bytes maxL ret d mc ms As M g post) (hr1 : 1 + d + 1 ≤ R.frames) (hr2 : 8 + (maxL + 11) + (40 + 40 * d) ≤ R.locals) (hn : As.length = n) (hst : st0 = As.reverse ++ rest) (hr : (rest.map fun v => v.category).sum ≤ 8) (h1 : kk + mc ≤ R.cells) (h2 : nn + ms ≤ R.slots)
    (k : ∀ (r : Int32) (M' : Mem) (g' : Glo), post r M' g' → At p l e R s m args below meth c G nL (kk + mc) (nn + ms) Q M' g' L (pc + 3) (.int r :: rest)) : At p l e R s m args below meth c G nL kk nn Q M g L pc st0 := by
  intro H locs ls hP hS hl
  subst hst
  refine va_calli (va_runS (As := As) (rest := rest) (m_fix C) (hM H.size) ⟨m_cbR C hs.1 hr1 hr2, C.2.2.2.2.1 _ hs.2⟩ (m_ps C hP hS) rfl hn hl.1 rfl (lv_room hr) hd ⟨h1, h2⟩) hS (fun _ _ h => mAq_le hS.1 h) (fun _ h => mAq_le hS.1 h) (fun r u t H1 locs1 ht hvm hw hB hz1 hk1 hS1 => ?_)
  unfold mB at hB
  rw [ht] at hB
  exact k r u.1 u.2 hw H1 locs1 ls hB hS1 hl
theorem r_lV0 {idx maxL n d : Nat} {y : MethodName} {bytes : ByteArray} {As rest st0 : List Value} {post : Mem → Glo → Prop} (C : mCx p s m args c cc nL own G) (hd : decode cc pc = .ok (.invokestatic idx, 3)) (hs : mSs own idx y bytes maxL none n) (hM : mcV l G y bytes maxL d As M g post) (hr1 : 1 + d + 1 ≤ R.frames) (hr2 : 8 + (maxL + 11) + (40 + 40 * d) ≤ R.locals) (hn : As.length = n) (hst : st0 = As.reverse ++ rest) (hr : (rest.map fun v => v.category).sum ≤ 8) (h1 : kk ≤ R.cells) (h2 : nn ≤ R.slots)
    (k : ∀ (M' : Mem) (g' : Glo), post M' g' → At p l e R s m args below meth c G nL kk nn Q M' g' L (pc + 3) rest) : At p l e R s m args below meth c G nL kk nn Q M g L pc st0 := by
  intro H locs ls hP hS hl
  subst hst
  refine va_callv (va_runS (As := As) (rest := rest) (m_fix C) (hM H.size) ⟨m_cbR C hs.1 hr1 hr2, C.2.2.2.2.1 _ hs.2⟩ (m_ps C hP hS) rfl hn hl.1 rfl (lv_room hr) hd ⟨h1, h2⟩) hS (fun _ _ h => mAq_le hS.1 h) (fun _ h => mAq_le hS.1 h) (fun u t H1 locs1 ht hvm hw hB hz1 hk1 hS1 => ?_)
  unfold mB at hB
  rw [ht] at hB
  exact k u.1 u.2 hw H1 locs1 ls hB hS1 hl
theorem r_lI0 {idx maxL n d : Nat} {y : MethodName} {bytes : ByteArray} {ret : FieldType} {As rest st0 : List Value} {post : Int32 → Mem → Glo → Prop} (C : mCx p s m args c cc nL own G) (hd : decode cc pc = .ok (.invokestatic idx, 3)) (hs : mSs own idx y bytes maxL (some ret) n) (hM : mcI l G y bytes maxL ret d As M g post) (hr1 : 1 + d + 1 ≤ R.frames) (hr2 : 8 + (maxL + 11) + (40 + 40 * d) ≤ R.locals) (hn : As.length = n) (hst : st0 = As.reverse ++ rest) (hr : (rest.map fun v => v.category).sum ≤ 8) (h1 : kk ≤ R.cells) (h2 : nn ≤ R.slots)
    (k : ∀ (r : Int32) (M' : Mem) (g' : Glo), post r M' g' → At p l e R s m args below meth c G nL kk nn Q M' g' L (pc + 3) (.int r :: rest)) : At p l e R s m args below meth c G nL kk nn Q M g L pc st0 := by
  intro H locs ls hP hS hl
  subst hst
  refine va_calli (va_runS (As := As) (rest := rest) (m_fix C) (hM H.size) ⟨m_cbR C hs.1 hr1 hr2, C.2.2.2.2.1 _ hs.2⟩ (m_ps C hP hS) rfl hn hl.1 rfl (lv_room hr) hd ⟨h1, h2⟩) hS (fun _ _ h => mAq_le hS.1 h) (fun _ h => mAq_le hS.1 h) (fun r u t H1 locs1 ht hvm hw hB hz1 hk1 hS1 => ?_)
  unfold mB at hB
  rw [ht] at hB
  exact k r u.1 u.2 hw H1 locs1 ls hB hS1 hl
/-- the world with the row of sums at q -/
def addS (G : mG) (q : Nat) : mG := (G.1, G.2.1, fun i => if i = 111 then q else if i = 112 then 1 else mA G i)
theorem addS_n (G : mG) (q : Nat) : nP (addS G q) = 112 := rfl
theorem addS_A {G : mG} {q k : Nat} (h : k < 111) : mA (addS G q) k = mA G k := by
  show (if k = 111 then q else if k = 112 then 1 else mA G k) = mA G k
  rw [if_neg (by omega), if_neg (by omega)]
theorem addS_q (G : mG) (q : Nat) : mA (addS G q) 111 = q := rfl
theorem nP_off {G : mG} (h : mA G 112 = 0) : nP G = 111 := if_pos h
theorem m_fs_ad {ad ad' : Nat → Nat} {f : Nat → Int32} {gl : Nat → Int64} : ∀ (fs : List Nat) (j : Nat), (∀ q, q + 2 ∈ fs → ad q = ad' q) → m_fs ad f gl j fs = m_fs ad' f gl j fs
  | [], _, _ => rfl
  | 0 :: t, j, h => by rw [m_fs, m_fs, m_fs_ad t (j + 1) (fun q hq => h q (List.mem_cons_of_mem _ hq))]
  | 1 :: t, j, h => by rw [m_fs, m_fs, m_fs_ad t (j + 1) (fun q hq => h q (List.mem_cons_of_mem _ hq))]
  | (q + 2) :: t, j, h => by rw [m_fs, m_fs, m_fs_ad t (j + 1) (fun q hq => h q (List.mem_cons_of_mem _ hq)), h q List.mem_cons_self]
/-- no place speaks of a place behind the 111 -/
def layGood (le : LE) : Bool := match le with
  | (1, _ :: fs) => fs.all (fun x => decide (x < 113))
  | (2, ps) => ps.all (fun x => decide (x < 111))
  | _ => true
theorem lay_all : layL.all layGood = true := by decide +kernel
theorem m_ctL_ad {G : mG} {q : Nat} {f : Nat → Int32} {gl : Nat → Int64} {le : LE} (h : layGood le = true) : m_ctL (addS G q) f gl le = m_ctL G f gl le := by
  obtain ⟨a, b⟩ := le
  match a, b, h with
  | 0, [], _ => rfl
  | 0, n :: t, _ => rfl
  | 1, [], _ => rfl
  | 1, ci :: fs, h =>
    have h2 : fs.all (fun x => decide (x < 113)) = true := h
    show (Sum.inr (ci, m_fs (mA (addS G q)) f gl 0 fs) : va_E) = Sum.inr (ci, m_fs (mA G) f gl 0 fs)
    rw [m_fs_ad fs 0 (fun z hz => addS_A (by
      have := List.all_eq_true.mp h2 _ hz
      have := of_decide_eq_true this
      omega))]
  | 2, ps, h =>
    have h2 : ps.all (fun x => decide (x < 111)) = true := h
    have e : (fun i : Nat => (ps[i]?).map (mA (addS G q))) = (fun i : Nat => (ps[i]?).map (mA G)) := by
      funext i
      cases hi : ps[i]? with
      | none => rfl
      | some z =>
        have hz : z ∈ ps := List.mem_of_getElem? hi
        have := of_decide_eq_true (List.all_eq_true.mp h2 _ hz)
        show some _ = some _
        rw [addS_A this]
    show (Sum.inl (G.2.1.2.1, ps.length, .inr (.inr (.inr (.inr (fun i => (ps[i]?).map (mA (addS G q))))))) : va_E) = _
    rw [e]
    rfl
  | 3, [], _ => rfl
  | 3, n :: t, _ => rfl
  | a + 4, b, _ => rfl
theorem m_ct_ad {G : mG} {q k : Nat} {M : Mem} {g : Glo} (hk : k < 111) : m_ct (addS G q) M g k = m_ct G M g k := by
  unfold m_ct
  refine m_ctL_ad ?_
  have e : layX k = layL[k]'hk := by
    unfold layX
    rw [List.getD_eq_getElem?_getD, List.getElem?_append_left hk, List.getElem?_eq_getElem hk]
    rfl
  rw [e]
  exact List.all_eq_true.mp lay_all _ (List.getElem_mem hk)
theorem m_ws_ad {G : mG} {q : Nat} {M : Mem} {g : Glo} {f : Nat → Int32} (h0 : mA G 112 = 0) : m_ws G M g ++ [(q, .inl (G.2.1.1, 3, .inl f))] = m_ws (addS G q) (mrow M 111 f) g := by
  apply List.ext_getElem?
  intro i
  have hn := nP_off h0
  have hl : (m_ws G M g).length = 111 := by simp [m_ws, hn]
  by_cases hi : i < 111
  · rw [List.getElem?_append_left (by omega), m_ws_at (by omega), m_ws_at (by rw [addS_n]; omega), addS_A hi, m_ct_ad hi]
    unfold m_ct
    rw [mrow_ne (by omega)]
  · by_cases e : i = 111
    · subst e
      rw [List.getElem?_append_right (by omega), hl, m_ws_at (by rw [addS_n]; omega), addS_q]
      unfold m_ct
      rw [mrow_at]
      rfl
    · rw [List.getElem?_eq_none (by simp [hl]; omega), List.getElem?_eq_none (by simp [m_ws, addS_n]; omega)]
theorem m_ws_sub {G : mG} {q : Nat} {M : Mem} {g : Glo} (h0 : mA G 112 = 0) {k : Nat} {x : Nat × va_E} (h : (m_ws G M g)[k]? = some x) : (m_ws (addS G q) M g)[k]? = some x := by
  have hk := (m_ws_inv h).1
  rw [nP_off h0] at hk
  rw [m_ws_at (by rw [nP_off h0]; exact hk)] at h
  rw [m_ws_at (by rw [addS_n]; omega), addS_A hk, m_ct_ad hk]
  exact h
/-- a row of three is made -/
theorem r_newS {n : Int32} (h0 : mA G 112 = 0) (C : mCx p s m args c cc nL own G) (hd : decode cc pc = .ok (.newarray .int, 2)) (hn : n = 3) (h1 : kk + 1 ≤ R.cells) (h2 : nn + 3 ≤ R.slots)
    (k : ∀ q : Nat, s.heap.size ≤ q → mInj (addS G q) → mCx p s m args c cc nL own (addS G q) → At p l e R s m args below meth c (addS G q) nL (kk + 1) (nn + 3) Q (mrow M 111 (fun _ => 0)) g L (pc + 2) (.ref (mA (addS G q) 111) :: st)) : At p l e R s m args below meth c G nL kk nn Q M g L pc (.int n :: st) := by
  intro H locs ls hP hS hl
  subst hn
  have hS0 := C.2.2.2.2.2.1
  refine va_newa C.1 C.2.1 (C.2.2.2.2.1 _ (gd_t 86 (by decide +kernel) rfl)) (ty := .int) rfl hS0.1 hP (m_D C.2.2.2.2.2.2) hS (fun z hz => Or.inr hz) (N' := 3) (a0 := (3, .inl (fun _ => 0))) (fun cA => by rw [vp_cell_i]; rfl) (by decide) (by decide) (by decide) h1 h2 hd (fun q cA H1 hK1 hP1 hD1 hS1 => ?_)
  have e1 : s.vm.findClass ("[" ++ FieldType.int.toString) = some cA := (hK1.2 2 _ rfl).2
  have e2 : s.vm.findClass ("[" ++ FieldType.int.toString) = some G.2.1.1 := (hS0.1.2 0 _ rfl).2
  rw [e1] at e2
  cases e2
  have hnP := nP_off h0
  have hl0 : (m_ws G M g).length = 111 := by simp [m_ws, hnP]
  have hqat : (m_ws G M g ++ [(q, .inl (G.2.1.1, 3, .inl (fun _ => 0)))])[111]? = some (q, (.inl (G.2.1.1, 3, .inl (fun _ => 0)) : va_E)) := by
    rw [List.getElem?_append_right (by omega), hl0]
    rfl
  have hpl : ∀ k, k < 111 → (m_ws G M g ++ [(q, .inl (G.2.1.1, 3, .inl (fun _ => 0)))])[k]? = some (mA G k, m_ct G M g k) := fun k hk => by
    rw [List.getElem?_append_left (by omega), m_ws_at (by omega)]
  have hIn : mInj (addS G q) := by
    intro i j hi hj hij
    rw [addS_n] at hi hj
    by_cases a : i = 111
    · by_cases b : j = 111
      · omega
      · subst a
        rw [addS_q, addS_A (by omega)] at hij
        exact absurd (hD1.1 111 j _ _ hqat (hpl j (by omega)) hij) (by omega)
    · by_cases b : j = 111
      · subst b
        rw [addS_q, addS_A (by omega)] at hij
        exact absurd (hD1.1 i 111 _ _ (hpl i (by omega)) hqat hij) (by omega)
      · rw [addS_A (by omega), addS_A (by omega)] at hij
        exact C.2.2.2.2.2.2 i j (by omega) (by omega) hij
  have hq : s.heap.size ≤ q := by
    rcases hD1.2 111 _ hqat with ⟨k, hk, hkq⟩ | hz
    · have := hD1.1 k 111 _ _ (hpl k (by omega)) hqat hkq
      omega
    · exact hz
  have hAB : ∀ z, mAq (addS G q) s.heap.size z → mAq G s.heap.size z := by
    intro z hz
    rcases hz with ⟨k, hk, rfl⟩ | hz
    · rw [addS_n] at hk
      by_cases a : k = 111
      · subst a
        exact Or.inr hq
      · rw [addS_A (by omega)]
        exact Or.inl ⟨k, by omega, rfl⟩
    · exact Or.inr hz
  have hBA : ∀ z, mAq G s.heap.size z → mAq (addS G q) s.heap.size z := by
    intro z hz
    rcases hz with ⟨k, hk, rfl⟩ | hz
    · exact Or.inl ⟨k, by rw [addS_n]; omega, addS_A (by omega)⟩
    · exact Or.inr hz
  obtain ⟨b1, b2, b3, b4, b5, b6, b7, b8⟩ := hS0
  refine k q hq hIn ⟨C.1, C.2.1, C.2.2.1, C.2.2.2.1, C.2.2.2.2.1, ⟨b1, b2, b3.narrow hAB, b4.narrow hAB, b5, b6, b7, b8⟩, hIn⟩ H1 locs ls ?_ ⟨hS1.1, fun z h1 h2 => hS1.2.1 z h1 (fun y => h2 (hBA z y)), fun z hz => hBA _ (hS1.2.2 z hz)⟩ hl
  rw [m_ws_ad h0] at hP1
  exact hP1
/-- .. and is forgotten -/
theorem r_dropS {q : Nat} (h0 : mA G 112 = 0) (hq : s.heap.size ≤ q) (k : At p l e R s m args below meth c G nL kk nn Q M g L pc st) : At p l e R s m args below meth c (addS G q) nL kk nn Q M g L pc st := by
  intro H locs ls hP hS hl
  have hAB : ∀ z, mAq (addS G q) s.heap.size z → mAq G s.heap.size z := by
    intro z hz
    rcases hz with ⟨k, hk, rfl⟩ | hz
    · rw [addS_n] at hk
      by_cases a : k = 111
      · subst a
        exact Or.inr hq
      · rw [addS_A (by omega)]
        exact Or.inl ⟨k, by rw [nP_off h0]; omega, rfl⟩
    · exact Or.inr hz
  exact k H locs ls (fun i x hx => hP i x (m_ws_sub h0 hx)) ⟨hS.1, fun z h1 h2 => hS.2.1 z h1 (fun y => h2 (hAB z y)), fun z hz => hAB _ (hS.2.2 z hz)⟩ hl
theorem m_arS {G : mG} {M : Mem} {g : Glo} (h : nP G = 112) : (m_ws G M g)[111]? = some (mA G 111, .inl (G.2.1.1, 3, .inl (M 111))) := by
  rw [m_ws_at (by rw [h]; omega)]
  rfl
theorem r_ialdS {j : Nat} {i v : Int32} (h : nP G = 112) (C : mCx p s m args c cc nL own G) (hd : decode cc pc = .ok (.iaload, 1)) (hi : i = nI j) (hj : j < 3) (hv : M 111 j = v) (k : At p l e R s m args below meth c G nL kk nn Q M g L (pc + 1) (.int v :: st)) : At p l e R s m args below meth c G nL kk nn Q M g L pc (.int i :: .ref (mA G 111) :: st) := by
  subst hi
  intro H locs ls hP hS hl
  refine va_iald (D := mD G) C.1 C.2.1 C.2.2.2.2.2.1.1 hP 111 0 (m_arS h) rfl (vp_in_nI hj (by decide)) hd ?_
  rw [nI_clamp (by omega), hv]
  exact k H locs ls hP hS hl
theorem r_iastS {j : Nat} {i x : Int32} (h : nP G = 112) (C : mCx p s m args c cc nL own G) (hd : decode cc pc = .ok (.iastore, 1)) (hi : i = nI j) (hj : j < 3) (k : At p l e R s m args below meth c G nL kk nn Q (mset M 111 j x) g L (pc + 1) st) : At p l e R s m args below meth c G nL kk nn Q M g L pc (.int x :: .int i :: .ref (mA G 111) :: st) := by
  subst hi
  intro H locs ls hP hS hl
  refine va_iast (D := mD G) C.1 C.2.1 C.2.2.2.2.2.1.1 hP (m_D C.2.2.2.2.2.2) hS 111 0 (m_arS h) rfl (vp_in_nI hj (by decide)) hd (fun H locs hP _ hS => ?_)
  rw [nI_clamp (by omega)] at hP
  refine k H locs ls ?_ hS hl
  rw [← m_ct_set (G := G) (M := M) (g := g) (q := 111) (i := j) (x := x) (e := .inl (G.2.1.1, 3, .inl (upd (M 111) j x)))]
  · exact hP
  · show _ = (Sum.inl (G.2.1.1, 3, .inl (mset M 111 j x 111)) : va_E)
    rw [mset_at]
theorem r_ixor {x y : Int32} (C : mCx p s m args c cc nL own G) (hd : decode cc pc = .ok (.ixor, 1)) (k : At p l e R s m args below meth c G nL kk nn Q M g L (pc + 1) (.int (x ^^^ y) :: st)) : At p l e R s m args below meth c G nL kk nn Q M g L pc (.int y :: .int x :: st) :=
  fun H locs ls hP hS hl => lv_ixor C.1 C.2.1 hd (k H locs ls hP hS hl)
theorem r_valD {x y : UInt64} (h : x = y) (k : At p l e R s m args below meth c G nL kk nn Q M g L pc (.double y :: st)) : At p l e R s m args below meth c G nL kk nn Q M g L pc (.double x :: st) := h ▸ k
end MP
