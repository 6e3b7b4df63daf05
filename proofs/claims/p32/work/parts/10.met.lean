section MC
variable {p : Program} {l : Launch} {e : Env} {s : State} {m : MethodId} {args : Array Value} {below : List Frame} {meth : Method} {c : Code} {G : mG} {nL kk nn : Nat} {Q : State → Prop} {M : Mem} {g : Glo} {L : List (Nat × Value)} {pc : Nat} {st : List Value} {cc : ByteArray} {own : String}
def mPc (G : mG) (sz : Nat) (vs : List Value) (M : Mem) (g : Glo) : Array Value → State → Prop := va_Pc vs (fun U => U.heap.size = sz ∧ va_P (mD G) vwC (m_ws G M g) U.heap ∧ mS G sz U U.heap)
theorem mPc_blind {sz : Nat} {vs : List Value} : FrameBlind (mPc G sz vs M g) := fun a U g9 mk q => ⟨q.1, q.2.1, q.2.2.1, mS.same (u := U) (U := U.calling g9 mk a) rfl q.2.2.2⟩
theorem mPc_pre {U : State} {H : Heap} {locs : List Loc} {vs : List Value} (C : mCx p s m args c cc nL own G) (hP : va_P (mD G) vwC (m_ws G M g) H) (hS : va_S (mAq G s.heap.size) s.heap H locs) (hU : U.heap = H) (hW : s.WarmedH U.vm) : mPc G H.size vs M g vs.toArray U := by
  subst hU
  exact ⟨rfl, rfl, hP, mS.call hW hS C.2.2.2.2.2.1⟩
def mB (G : mG) : Mem × Glo → State → Prop := fun u t => va_P (mD G) vwC (m_ws G u.1 u.2) t.heap
/-- a method of ours that neither makes nor throws: its answer and the memory behind it -/
def mcI (l : Launch) (G : mG) (y : MethodName) (cc : ByteArray) (nL : Nat) (ret : FieldType) (d : Nat) (vs : List Value) (M : Mem) (g : Glo) (post : Int32 → Mem → Glo → Prop) : Prop :=
  ∀ sz, Met l y (.code y cc nL (some ret) :: gd) (rmD d 0 0) (mPc G sz vs M g) (va_Qi (fun r (u : Mem × Glo) => post r u.1 u.2) (mB G) (mAq G sz)) 0 0 (mAq G sz)
def mcL (l : Launch) (G : mG) (y : MethodName) (cc : ByteArray) (nL : Nat) (d : Nat) (vs : List Value) (M : Mem) (g : Glo) (post : Int64 → Mem → Glo → Prop) : Prop :=
  ∀ sz, Met l y (.code y cc nL (some .long) :: gd) (rmD d 0 0) (mPc G sz vs M g) (va_Ql (fun r (u : Mem × Glo) => post r u.1 u.2) (mB G) (mAq G sz)) 0 0 (mAq G sz)
def mcV (l : Launch) (G : mG) (y : MethodName) (cc : ByteArray) (nL : Nat) (d : Nat) (vs : List Value) (M : Mem) (g : Glo) (post : Mem → Glo → Prop) : Prop :=
  ∀ sz, Met l y (.code y cc nL none :: gd) (rmD d 0 0) (mPc G sz vs M g) (va_Qv (fun (u : Mem × Glo) => post u.1 u.2) (mB G) (mAq G sz)) 0 0 (mAq G sz)
def mcR (l : Launch) (G : mG) (y : MethodName) (cc : ByteArray) (nL : Nat) (ret : FieldType) (d : Nat) (vs : List Value) (M : Mem) (g : Glo) (a0 : Nat) : Prop :=
  ∀ sz, Met l y (.code y cc nL (some ret) :: gd) (rmD d 0 0) (mPc G sz vs M g) (va_Qr (fun (_ : Unit) => True) (fun _ a t => a = mA G a0 ∧ mB G (M, g) t) (mAq G sz)) 0 0 (mAq G sz)
theorem mcI_of {y : MethodName} {ret : FieldType} {d : Nat} {vs : List Value} {post : Int32 → Mem → Glo → Prop} {L0 : List (Nat × Value)} (hG : mInj G) (hy : plainName y.cls = true) (hvs : (lg_sl vs).length ≤ nL) (hL : lv_args 0 vs = L0)
    (body : ∀ (p : Program) (e : Env) (s : State) (m : MethodId) (args : Array Value) (below : List Frame) (meth : Method) (c : Code) (Q : State → Prop), mCx p s m args c cc nL y.cls G →
      (∀ (r : Int32) (M' : Mem) (g' : Glo) (L' : List (Nat × Value)) (pc : Nat), decode cc pc = .ok (.ireturn, 1) → narrow ret (.int r) = .int r → post r M' g' → At p l e (rmD d 0 0) s m args below meth c G nL 0 0 Q M' g' L' pc [.int r]) →
      At p l e (rmD d 0 0) s m args below meth c G nL 0 0 Q M g L0 0 []) : mcI l G y cc nL ret d vs M g post := by
  intro sz
  refine Met.ofW (cc := cc) (maxL := nL) (ret := some ret) hy rfl ?_
  intro p e s m args below meth c s₁ B hml hv
  obtain ⟨rfl, hsz, hP, hS⟩ := hv
  subst hsz
  subst hL
  rw [lg_entry_eq]
  exact body p e s m _ below meth c _ ⟨B.exec, B.bytes, hml, findClass_of_methodNamed B.named, fun w hw => atoms_spec B.pre w (List.mem_cons_of_mem _ hw), hS, hG⟩
    (fun r M' g' L' pc hd hn hp H locs ls hP hS hl => W.zret B.exec B.bytes B.returns hn (fun t ht hW => ⟨⟨r, (M', g'), rfl, hp, by unfold mB; rw [ht]; exact hP⟩, hS.F ht⟩) hS.2.2 hd B.notSynchronized)
    s.heap [] _ hP va_S.rf (lv_entry vs hvs)
theorem mcL_of {y : MethodName} {d : Nat} {vs : List Value} {post : Int64 → Mem → Glo → Prop} {L0 : List (Nat × Value)} (hG : mInj G) (hy : plainName y.cls = true) (hvs : (lg_sl vs).length ≤ nL) (hL : lv_args 0 vs = L0)
    (body : ∀ (p : Program) (e : Env) (s : State) (m : MethodId) (args : Array Value) (below : List Frame) (meth : Method) (c : Code) (Q : State → Prop), mCx p s m args c cc nL y.cls G →
      (∀ (r : Int64) (M' : Mem) (g' : Glo) (L' : List (Nat × Value)) (pc : Nat), decode cc pc = .ok (.lreturn, 1) → post r M' g' → At p l e (rmD d 0 0) s m args below meth c G nL 0 0 Q M' g' L' pc [.long r]) →
      At p l e (rmD d 0 0) s m args below meth c G nL 0 0 Q M g L0 0 []) : mcL l G y cc nL d vs M g post := by
  intro sz
  refine Met.ofW (cc := cc) (maxL := nL) (ret := some .long) hy rfl ?_
  intro p e s m args below meth c s₁ B hml hv
  obtain ⟨rfl, hsz, hP, hS⟩ := hv
  subst hsz
  subst hL
  rw [lg_entry_eq]
  exact body p e s m _ below meth c _ ⟨B.exec, B.bytes, hml, findClass_of_methodNamed B.named, fun w hw => atoms_spec B.pre w (List.mem_cons_of_mem _ hw), hS, hG⟩
    (fun r M' g' L' pc hd hp H locs ls hP hS hl => W.lret B.exec B.bytes B.returns (fun t ht hW => ⟨⟨r, (M', g'), rfl, hp, by unfold mB; rw [ht]; exact hP⟩, hS.F ht⟩) hS.2.2 hd B.notSynchronized)
    s.heap [] _ hP va_S.rf (lv_entry vs hvs)
theorem mcV_of {y : MethodName} {d : Nat} {vs : List Value} {post : Mem → Glo → Prop} {L0 : List (Nat × Value)} (hG : mInj G) (hy : plainName y.cls = true) (hvs : (lg_sl vs).length ≤ nL) (hL : lv_args 0 vs = L0)
    (body : ∀ (p : Program) (e : Env) (s : State) (m : MethodId) (args : Array Value) (below : List Frame) (meth : Method) (c : Code) (Q : State → Prop), mCx p s m args c cc nL y.cls G →
      (∀ (M' : Mem) (g' : Glo) (L' : List (Nat × Value)) (pc : Nat), decode cc pc = .ok (.return_, 1) → post M' g' → At p l e (rmD d 0 0) s m args below meth c G nL 0 0 Q M' g' L' pc []) →
      At p l e (rmD d 0 0) s m args below meth c G nL 0 0 Q M g L0 0 []) : mcV l G y cc nL d vs M g post := by
  intro sz
  refine Met.ofW (cc := cc) (maxL := nL) (ret := none) hy rfl ?_
  intro p e s m args below meth c s₁ B hml hv
  obtain ⟨rfl, hsz, hP, hS⟩ := hv
  subst hsz
  subst hL
  rw [lg_entry_eq]
  exact body p e s m _ below meth c _ ⟨B.exec, B.bytes, hml, findClass_of_methodNamed B.named, fun w hw => atoms_spec B.pre w (List.mem_cons_of_mem _ hw), hS, hG⟩
    (fun M' g' L' pc hd hp H locs ls hP hS hl => W.vret B.exec B.bytes B.returns (fun t ht hW => ⟨⟨(M', g'), rfl, hp, by unfold mB; rw [ht]; exact hP⟩, hS.F ht⟩) hS.2.2 hd B.notSynchronized)
    s.heap [] _ hP va_S.rf (lv_entry vs hvs)
theorem mcR_of {y : MethodName} {cn : String} {d : Nat} {vs : List Value} {a0 : Nat} {L0 : List (Nat × Value)} (hG : mInj G) (hy : plainName y.cls = true) (hvs : (lg_sl vs).length ≤ nL) (hL : lv_args 0 vs = L0)
    (body : ∀ (p : Program) (e : Env) (s : State) (m : MethodId) (args : Array Value) (below : List Frame) (meth : Method) (c : Code) (Q : State → Prop), mCx p s m args c cc nL y.cls G →
      (∀ (L' : List (Nat × Value)) (pc : Nat), decode cc pc = .ok (.areturn, 1) → At p l e (rmD d 0 0) s m args below meth c G nL 0 0 Q M g L' pc [.ref (mA G a0)]) →
      At p l e (rmD d 0 0) s m args below meth c G nL 0 0 Q M g L0 0 []) : mcR l G y cc nL (.object cn) d vs M g a0 := by
  intro sz
  refine Met.ofW (cc := cc) (maxL := nL) (ret := some (.object cn)) hy rfl ?_
  intro p e s m args below meth c s₁ B hml hv
  obtain ⟨rfl, hsz, hP, hS⟩ := hv
  subst hsz
  subst hL
  rw [lg_entry_eq]
  exact body p e s m _ below meth c _ ⟨B.exec, B.bytes, hml, findClass_of_methodNamed B.named, fun w hw => atoms_spec B.pre w (List.mem_cons_of_mem _ hw), hS, hG⟩
    (fun L' pc hd H locs ls hP hS hl => W.aret B.exec B.bytes B.returns (Or.inl ⟨_, rfl⟩) (Or.inr ⟨_, rfl⟩) (fun t ht hW => ⟨⟨(), mA G a0, rfl, trivial, rfl, by unfold mB; rw [ht]; exact hP⟩, hS.F ht⟩) hS.2.2 hd B.notSynchronized)
    s.heap [] _ hP va_S.rf (lv_entry vs hvs)
/-- a place where a method of ours is called on an object (mV), or without one (mT0), or a constructor (mI) -/
def mSi (own : String) (idx : Nat) (y : MethodName) (bytes : ByteArray) (maxL : Nat) (ret : Option FieldType) (n : Nat) : Prop :=
  Cond.methodLink own idx y ∈ gd ∧ Cond.initialized y.cls ∈ gd ∧ Cond.code y bytes maxL ret ∈ gd ∧ y.cls ≠ "java/lang/invoke/MethodHandle" ∧ y.cls ≠ "java/lang/invoke/VarHandle" ∧ (parseMethodDescriptor y.desc).map (fun d => d.parameters.length) = some n ∧ maxL ≤ 20
def mSv (own : String) (idx : Nat) (Cn : String) (y : MethodName) (bytes : ByteArray) (maxL : Nat) (ret : Option FieldType) (n : Nat) : Prop :=
  mSi own idx y bytes maxL ret n ∧ Cond.instanceMethod y ∈ gd ∧ Cond.selects Cn y y ∈ gd ∧ y.cls = Cn
def mSs (own : String) (idx : Nat) (y : MethodName) (bytes : ByteArray) (maxL : Nat) (ret : Option FieldType) (n : Nat) : Prop :=
  mSi own idx y bytes maxL ret n ∧ Cond.static y ∈ gd
theorem m_fix (C : mCx p s m args c cc nL own G) : CallFix p m c cc nL s args gd own := ⟨C.1, C.2.1, C.2.2.1, C.2.2.2.1, C.2.2.2.2.1⟩
theorem m_cb {idx maxL n d D mc ms mc' ms' : Nat} {y : MethodName} {bytes : ByteArray} {ret : Option FieldType} (C : mCx p s m args c cc nL own G) (h : mSi own idx y bytes maxL ret n) (hd : d < D) : CallB (rmD D mc' ms') s args own idx y bytes maxL ret (.code y bytes maxL ret :: gd) (rmD d mc ms) mc ms n := by
  obtain ⟨h1, h2, h3, h4, h5, h6, h7⟩ := h
  have ht := C.2.2.2.2.1
  exact callB_of n ht (gd_in h3) rfl rfl rfl (ht _ h2) (ht _ h1) ⟨h4, h5, h6⟩ ⟨by show 1 + d + 1 ≤ 1 + D; omega, by show 8 + (maxL + 11) + (40 + 40 * d) ≤ 40 + 40 * D; omega⟩
theorem m_cw {idx maxL n d D mc ms mc' ms' : Nat} {Cn : String} {y : MethodName} {bytes : ByteArray} {ret : Option FieldType} (C : mCx p s m args c cc nL own G) (h : mSv own idx Cn y bytes maxL ret n) (hd : d < D) : CallW (rmD D mc' ms') s args own Cn idx y bytes maxL ret (.code y bytes maxL ret :: gd) (rmD d mc ms) mc ms n := by
  obtain ⟨h1, h2, h3, h4⟩ := h
  exact ⟨m_cb C h1 hd, C.2.2.2.2.1 _ h2, C.2.2.2.2.1 _ h3⟩
theorem m_pv {q ci n : Nat} {fs : List Nat} {C0 : String} {T : u_T} {H : Heap} {locs : List Loc} {As : List Value} (C : mCx p s m args c cc nL own G) (hq : lay q = (1, ci :: fs)) (hc : vwC[ci]? = some (C0, T, n)) (hP : va_P (mD G) vwC (m_ws G M g) H) (hS : va_S (mAq G s.heap.size) s.heap H locs) : PreV s H C0 (mA G q) (mPc G H.size (.ref (mA G q) :: As) M g) As :=
  ⟨mPc_blind, va_recv C.2.2.2.2.2.1.1 hP hc (m_obj hq), fun _ hU hW => mPc_pre C hP hS hU hW⟩
theorem m_ps {H : Heap} {locs : List Loc} {As : List Value} (C : mCx p s m args c cc nL own G) (hP : va_P (mD G) vwC (m_ws G M g) H) (hS : va_S (mAq G s.heap.size) s.heap H locs) : PreS s H (mPc G H.size As M g) As :=
  ⟨mPc_blind, fun _ hU hW => mPc_pre C hP hS hU hW⟩
theorem r_callVI {idx maxL n d D q ci N mc ms : Nat} {fs : List Nat} {C0 : String} {T : u_T} {y : MethodName} {bytes : ByteArray} {ret : FieldType} {As rest st0 : List Value} {post : Int32 → Mem → Glo → Prop} (C : mCx p s m args c cc nL own G) (hd : decode cc pc = .ok (.invokevirtual idx, 3)) (hs : mSv own idx C0 y bytes maxL (some ret) n) (hM : mcI l G y bytes maxL ret d (.ref (mA G q) :: As) M g post) (hdD : d < D) (hq : lay q = (1, ci :: fs)) (hc : vwC[ci]? = some (C0, T, N)) (hn : As.length = n) (hst : st0 = As.reverse ++ .ref (mA G q) :: rest) (hr : (rest.map fun v => v.category).sum ≤ 8) (h1 : kk ≤ mc) (h2 : nn ≤ ms)
    (k : ∀ (r : Int32) (M' : Mem) (g' : Glo), post r M' g' → At p l e (rmD D mc ms) s m args below meth c G nL kk nn Q M' g' L (pc + 3) (.int r :: rest)) : At p l e (rmD D mc ms) s m args below meth c G nL kk nn Q M g L pc st0 := by
  intro H locs ls hP hS hl
  subst hst
  refine va_calli (va_runV (As := As) (rest := rest) (m_fix C) (hM H.size) (m_cw C hs hdD) (m_pv C hq hc hP hS) rfl hn hl.1 rfl (lv_room hr) hd ⟨h1, h2⟩) hS (fun _ _ h => mAq_le hS.1 h) (fun _ h => mAq_le hS.1 h) (fun r u t H1 locs1 ht hvm hw hB hz1 hk1 hS1 => ?_)
  unfold mB at hB
  rw [ht] at hB
  exact k r u.1 u.2 hw H1 locs1 ls hB hS1 hl
theorem r_callVL {idx maxL n d D q ci N mc ms : Nat} {fs : List Nat} {C0 : String} {T : u_T} {y : MethodName} {bytes : ByteArray} {As rest st0 : List Value} {post : Int64 → Mem → Glo → Prop} (C : mCx p s m args c cc nL own G) (hd : decode cc pc = .ok (.invokevirtual idx, 3)) (hs : mSv own idx C0 y bytes maxL (some .long) n) (hM : mcL l G y bytes maxL d (.ref (mA G q) :: As) M g post) (hdD : d < D) (hq : lay q = (1, ci :: fs)) (hc : vwC[ci]? = some (C0, T, N)) (hn : As.length = n) (hst : st0 = As.reverse ++ .ref (mA G q) :: rest) (hr : (rest.map fun v => v.category).sum ≤ 8) (h1 : kk ≤ mc) (h2 : nn ≤ ms)
    (k : ∀ (r : Int64) (M' : Mem) (g' : Glo), post r M' g' → At p l e (rmD D mc ms) s m args below meth c G nL kk nn Q M' g' L (pc + 3) (.long r :: rest)) : At p l e (rmD D mc ms) s m args below meth c G nL kk nn Q M g L pc st0 := by
  intro H locs ls hP hS hl
  subst hst
  refine va_calll (va_runV (As := As) (rest := rest) (m_fix C) (hM H.size) (m_cw C hs hdD) (m_pv C hq hc hP hS) rfl hn hl.1 rfl (lv_room hr) hd ⟨h1, h2⟩) hS (fun _ _ h => mAq_le hS.1 h) (fun _ h => mAq_le hS.1 h) (fun r u t H1 locs1 ht hvm hw hB hz1 hk1 hS1 => ?_)
  unfold mB at hB
  rw [ht] at hB
  exact k r u.1 u.2 hw H1 locs1 ls hB hS1 hl
theorem r_callVV {idx maxL n d D q ci N mc ms : Nat} {fs : List Nat} {C0 : String} {T : u_T} {y : MethodName} {bytes : ByteArray} {As rest st0 : List Value} {post : Mem → Glo → Prop} (C : mCx p s m args c cc nL own G) (hd : decode cc pc = .ok (.invokevirtual idx, 3)) (hs : mSv own idx C0 y bytes maxL none n) (hM : mcV l G y bytes maxL d (.ref (mA G q) :: As) M g post) (hdD : d < D) (hq : lay q = (1, ci :: fs)) (hc : vwC[ci]? = some (C0, T, N)) (hn : As.length = n) (hst : st0 = As.reverse ++ .ref (mA G q) :: rest) (hr : (rest.map fun v => v.category).sum ≤ 8) (h1 : kk ≤ mc) (h2 : nn ≤ ms)
    (k : ∀ (M' : Mem) (g' : Glo), post M' g' → At p l e (rmD D mc ms) s m args below meth c G nL kk nn Q M' g' L (pc + 3) rest) : At p l e (rmD D mc ms) s m args below meth c G nL kk nn Q M g L pc st0 := by
  intro H locs ls hP hS hl
  subst hst
  refine va_callv (va_runV (As := As) (rest := rest) (m_fix C) (hM H.size) (m_cw C hs hdD) (m_pv C hq hc hP hS) rfl hn hl.1 rfl (lv_room hr) hd ⟨h1, h2⟩) hS (fun _ _ h => mAq_le hS.1 h) (fun _ h => mAq_le hS.1 h) (fun u t H1 locs1 ht hvm hw hB hz1 hk1 hS1 => ?_)
  unfold mB at hB
  rw [ht] at hB
  exact k u.1 u.2 hw H1 locs1 ls hB hS1 hl
theorem r_callVR {idx maxL n d D q ci N mc ms a0 : Nat} {fs : List Nat} {C0 : String} {T : u_T} {y : MethodName} {bytes : ByteArray} {ret : FieldType} {As rest st0 : List Value} (C : mCx p s m args c cc nL own G) (hd : decode cc pc = .ok (.invokevirtual idx, 3)) (hs : mSv own idx C0 y bytes maxL (some ret) n) (hM : mcR l G y bytes maxL ret d (.ref (mA G q) :: As) M g a0) (hdD : d < D) (hq : lay q = (1, ci :: fs)) (hc : vwC[ci]? = some (C0, T, N)) (hn : As.length = n) (hst : st0 = As.reverse ++ .ref (mA G q) :: rest) (hr : (rest.map fun v => v.category).sum ≤ 8) (h1 : kk ≤ mc) (h2 : nn ≤ ms)
    (k : At p l e (rmD D mc ms) s m args below meth c G nL kk nn Q M g L (pc + 3) (.ref (mA G a0) :: rest)) : At p l e (rmD D mc ms) s m args below meth c G nL kk nn Q M g L pc st0 := by
  intro H locs ls hP hS hl
  subst hst
  refine va_callr (va_runV (As := As) (rest := rest) (m_fix C) (hM H.size) (m_cw C hs hdD) (m_pv C hq hc hP hS) rfl hn hl.1 rfl (lv_room hr) hd ⟨h1, h2⟩) hS (fun _ _ h => mAq_le hS.1 h) (fun _ h => mAq_le hS.1 h) (fun u ra t H1 locs1 ht hvm hw hB hz1 hk1 hS1 => ?_)
  obtain ⟨rfl, hB⟩ := hB
  unfold mB at hB
  rw [ht] at hB
  exact k H1 locs1 ls hB hS1 hl
theorem r_callSI {idx maxL n d D mc ms : Nat} {y : MethodName} {bytes : ByteArray} {ret : FieldType} {As rest st0 : List Value} {post : Int32 → Mem → Glo → Prop} (C : mCx p s m args c cc nL own G) (hd : decode cc pc = .ok (.invokestatic idx, 3)) (hs : mSs own idx y bytes maxL (some ret) n) (hM : mcI l G y bytes maxL ret d As M g post) (hdD : d < D) (hn : As.length = n) (hst : st0 = As.reverse ++ rest) (hr : (rest.map fun v => v.category).sum ≤ 8) (h1 : kk ≤ mc) (h2 : nn ≤ ms)
    (k : ∀ (r : Int32) (M' : Mem) (g' : Glo), post r M' g' → At p l e (rmD D mc ms) s m args below meth c G nL kk nn Q M' g' L (pc + 3) (.int r :: rest)) : At p l e (rmD D mc ms) s m args below meth c G nL kk nn Q M g L pc st0 := by
  intro H locs ls hP hS hl
  subst hst
  refine va_calli (va_runS (As := As) (rest := rest) (m_fix C) (hM H.size) ⟨m_cb C hs.1 hdD, C.2.2.2.2.1 _ hs.2⟩ (m_ps C hP hS) rfl hn hl.1 rfl (lv_room hr) hd ⟨h1, h2⟩) hS (fun _ _ h => mAq_le hS.1 h) (fun _ h => mAq_le hS.1 h) (fun r u t H1 locs1 ht hvm hw hB hz1 hk1 hS1 => ?_)
  unfold mB at hB
  rw [ht] at hB
  exact k r u.1 u.2 hw H1 locs1 ls hB hS1 hl
theorem r_callSL {idx maxL n d D mc ms : Nat} {y : MethodName} {bytes : ByteArray} {As rest st0 : List Value} {post : Int64 → Mem → Glo → Prop} (C : mCx p s m args c cc nL own G) (hd : decode cc pc = .ok (.invokestatic idx, 3)) (hs : mSs own idx y bytes maxL (some .long) n) (hM : mcL l G y bytes maxL d As M g post) (hdD : d < D) (hn : As.length = n) (hst : st0 = As.reverse ++ rest) (hr : (rest.map fun v => v.category).sum ≤ 8) (h1 : kk ≤ mc) (h2 : nn ≤ ms)
    (k : ∀ (r : Int64) (M' : Mem) (g' : Glo), post r M' g' → At p l e (rmD D mc ms) s m args below meth c G nL kk nn Q M' g' L (pc + 3) (.long r :: rest)) : At p l e (rmD D mc ms) s m args below meth c G nL kk nn Q M g L pc st0 := by
  intro H locs ls hP hS hl
  subst hst
  refine va_calll (va_runS (As := As) (rest := rest) (m_fix C) (hM H.size) ⟨m_cb C hs.1 hdD, C.2.2.2.2.1 _ hs.2⟩ (m_ps C hP hS) rfl hn hl.1 rfl (lv_room hr) hd ⟨h1, h2⟩) hS (fun _ _ h => mAq_le hS.1 h) (fun _ h => mAq_le hS.1 h) (fun r u t H1 locs1 ht hvm hw hB hz1 hk1 hS1 => ?_)
  unfold mB at hB
  rw [ht] at hB
  exact k r u.1 u.2 hw H1 locs1 ls hB hS1 hl
theorem r_callSV {idx maxL n d D mc ms : Nat} {y : MethodName} {bytes : ByteArray} {As rest st0 : List Value} {post : Mem → Glo → Prop} (C : mCx p s m args c cc nL own G) (hd : decode cc pc = .ok (.invokestatic idx, 3)) (hs : mSs own idx y bytes maxL none n) (hM : mcV l G y bytes maxL d As M g post) (hdD : d < D) (hn : As.length = n) (hst : st0 = As.reverse ++ rest) (hr : (rest.map fun v => v.category).sum ≤ 8) (h1 : kk ≤ mc) (h2 : nn ≤ ms)
    (k : ∀ (M' : Mem) (g' : Glo), post M' g' → At p l e (rmD D mc ms) s m args below meth c G nL kk nn Q M' g' L (pc + 3) rest) : At p l e (rmD D mc ms) s m args below meth c G nL kk nn Q M g L pc st0 := by
  intro H locs ls hP hS hl
  subst hst
  refine va_callv (va_runS (As := As) (rest := rest) (m_fix C) (hM H.size) ⟨m_cb C hs.1 hdD, C.2.2.2.2.1 _ hs.2⟩ (m_ps C hP hS) rfl hn hl.1 rfl (lv_room hr) hd ⟨h1, h2⟩) hS (fun _ _ h => mAq_le hS.1 h) (fun _ h => mAq_le hS.1 h) (fun u t H1 locs1 ht hvm hw hB hz1 hk1 hS1 => ?_)
  unfold mB at hB
  rw [ht] at hB
  exact k u.1 u.2 hw H1 locs1 ls hB hS1 hl
/-- a private static of a nest mate -/
def mSn (own : String) (idx : Nat) (y : MethodName) (host : String) (bytes : ByteArray) (maxL : Nat) (ret : Option FieldType) (n : Nat) : Prop :=
  (own, idx, y, host) ∈ nwL ∧ Cond.initialized y.cls ∈ gd ∧ Cond.code y bytes maxL ret ∈ gd ∧ y.cls ≠ "java/lang/invoke/MethodHandle" ∧ y.cls ≠ "java/lang/invoke/VarHandle" ∧ (parseMethodDescriptor y.desc).map (fun d => d.parameters.length) = some n ∧ maxL ≤ 20 ∧ Cond.static y ∈ gd
theorem r_callNV {idx maxL n d D mc ms : Nat} {y : MethodName} {host : String} {bytes : ByteArray} {As rest st0 : List Value} {post : Mem → Glo → Prop} (C : mCx p s m args c cc nL own G) (hd : decode cc pc = .ok (.invokestatic idx, 3)) (hs : mSn own idx y host bytes maxL none n) (hM : mcV l G y bytes maxL d As M g post) (hdD : d < D) (hn : As.length = n) (hst : st0 = As.reverse ++ rest) (hr : (rest.map fun v => v.category).sum ≤ 8) (h1 : kk ≤ mc) (h2 : nn ≤ ms)
    (k : ∀ (M' : Mem) (g' : Glo), post M' g' → At p l e (rmD D mc ms) s m args below meth c G nL kk nn Q M' g' L (pc + 3) rest) : At p l e (rmD D mc ms) s m args below meth c G nL kk nn Q M g L pc st0 := by
  intro H locs ls hP hS hl
  subst hst
  obtain ⟨a1, a2, a3, a4, a5, a6, a7, a8⟩ := hs
  have ht := C.2.2.2.2.1
  refine va_callv (va_runSN (As := As) (rest := rest) (m_fix C) (hM H.size) ⟨va_cnB n ht (gd_in a3) rfl rfl rfl (C.2.2.2.2.2.1.2.1 _ a1) (ht _ a2) ⟨a4, a5, a6⟩ ⟨by show 1 + d + 1 ≤ 1 + D; omega, by show 8 + (maxL + 11) + (40 + 40 * d) ≤ 40 + 40 * D; omega⟩, ht _ a8, trivial⟩ (m_ps C hP hS) rfl hn hl.1 rfl (lv_room hr) hd ⟨h1, h2⟩) hS (fun _ _ h => mAq_le hS.1 h) (fun _ h => mAq_le hS.1 h) (fun u t H1 locs1 ht hvm hw hB hz1 hk1 hS1 => ?_)
  unfold mB at hB
  rw [ht] at hB
  exact k u.1 u.2 hw H1 locs1 ls hB hS1 hl
end MC
