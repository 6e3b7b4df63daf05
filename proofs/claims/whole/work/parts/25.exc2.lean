/-! methods that may throw: the memory stays when they do -/
section MX
variable {p : Program} {l : Launch} {e : Env} {s : State} {m : MethodId} {args : Array Value} {below : List Frame} {meth : Method} {c : Code} {G : mG} {nL kk nn : Nat} {Q : State → Prop} {M : Mem} {g : Glo} {L : List (Nat × Value)} {pc : Nat} {st : List Value} {cc : ByteArray} {own : String}
/-- what is said of an exception that leaves: px of its class, the memory as it was -/
def xC (G : mG) (px : String → Prop) (M : Mem) (g : Glo) (sz : Nat) : String → State → State → Prop := vx_X (fun _ : Unit => True) (fun E _ t => px E ∧ mB G (M, g) t) (mAq G sz)
def mcXV (l : Launch) (G : mG) (y : MethodName) (cc : ByteArray) (nL d mc ms : Nat) (vs : List Value) (M : Mem) (g : Glo) (post : Mem → Glo → Prop) (px : String → Prop) : Prop :=
  ∀ sz, vx_Met l y (.code y cc nL none :: gd) (rmD d mc ms) (mPc G sz vs M g) (va_Qv (fun (u : Mem × Glo) => post u.1 u.2) (mB G) (mAq G sz)) (xC G px M g sz) mc ms (mAq G sz)
def mcXI (l : Launch) (G : mG) (y : MethodName) (cc : ByteArray) (nL d mc ms : Nat) (vs : List Value) (M : Mem) (g : Glo) (post : Int32 → Mem → Glo → Prop) (px : String → Prop) : Prop :=
  ∀ sz, vx_Met l y (.code y cc nL (some .int) :: gd) (rmD d mc ms) (mPc G sz vs M g) (va_Qi (fun r (u : Mem × Glo) => post r u.1 u.2) (mB G) (mAq G sz)) (xC G px M g sz) mc ms (mAq G sz)
/-- the machine at pc with an exception of class E thrown over the frame -/
def AtX (p : Program) (l : Launch) (e : Env) (R : Room) (s : State) (m : MethodId) (args : Array Value) (below : List Frame) (meth : Method) (c : Code) (G : mG) (nL k n : Nat) (Q : State → Prop) (M : Mem) (g : Glo) (L : List (Nat × Value)) (pc : Nat) (st : List Value) (E : String) : Prop :=
  ∀ (H : Heap) (locs : List Loc) (ls : Array Slot) (q : Addr) (ce : Cell), va_P (mD G) vwC (m_ws G M g) H → va_S (mAq G s.heap.size) s.heap H locs → lv_has ls nL L → H[q]? = some ce → ce.vm = .none → s.vm.findClass E = some ce.cls → vx_W p l e R s m args below meth c H locs k n Q (F0 m pc ls st) q
/-- the facts of a body without handlers -/
def xNo (meth : Method) (c : Code) : Prop := (∀ x ∈ c.exceptionTable.toList, False) ∧ meth.locks = false
theorem mcXV_of {g0 : Glo} {y : MethodName} {d mc ms : Nat} {vs : List Value} {post : Mem → Glo → Prop} {px : String → Prop} {L0 : List (Nat × Value)} (hG : mInj G) (hy : plainName y.cls = true) (hvs : (lg_sl vs).length ≤ nL) (hL : lv_args 0 vs = L0)
    (body : ∀ (p : Program) (e : Env) (s : State) (m : MethodId) (args : Array Value) (below : List Frame) (meth : Method) (c : Code) (Q : State → Prop), mCx p s m args c cc nL y.cls G → xNo meth c →
      (∀ (M' : Mem) (g' : Glo) (L' : List (Nat × Value)) (pc kk nn : Nat), kk ≤ mc → nn ≤ ms → decode cc pc = .ok (.return_, 1) → post M' g' → At p l e (rmD d mc ms) s m args below meth c G nL kk nn Q M' g' L' pc []) →
      (∀ (H : Heap) (locs : List Loc) (kk nn : Nat) (g : JFrame), W p l e (rmD d mc ms) s m args below meth c H locs kk nn (vx_MQ below (va_Qv (fun (u : Mem × Glo) => post u.1 u.2) (mB G) (mAq G s.heap.size)) (xC G px M g0 s.heap.size) args s mc ms (mAq G s.heap.size)) g → W p l e (rmD d mc ms) s m args below meth c H locs kk nn Q g) →
      (∀ (H : Heap) (locs : List Loc) (kk nn : Nat) (g : JFrame) (q : Addr), vx_W p l e (rmD d mc ms) s m args below meth c H locs kk nn (vx_MQ below (va_Qv (fun (u : Mem × Glo) => post u.1 u.2) (mB G) (mAq G s.heap.size)) (xC G px M g0 s.heap.size) args s mc ms (mAq G s.heap.size)) g q → vx_W p l e (rmD d mc ms) s m args below meth c H locs kk nn Q g q) →
      At p l e (rmD d mc ms) s m args below meth c G nL 0 0 Q M g0 L0 0 []) : mcXV l G y cc nL d mc ms vs M g0 post px := by
  intro sz
  refine vx_ofW (cc := cc) (maxL := nL) (ret := none) hy rfl ?_
  intro p e s m args below meth c s₁ B hml hno hv
  obtain ⟨rfl, hsz, hP, hS⟩ := hv
  subst hsz
  subst hL
  rw [lg_entry_eq]
  exact body p e s m _ below meth c _ ⟨B.exec, B.bytes, hml, findClass_of_methodNamed B.named, fun w hw => atoms_spec B.pre w (List.mem_cons_of_mem _ hw), hS, hG⟩ ⟨hno, B.notSynchronized⟩
    (fun M' g' L' pc kk nn hk hn hd hp H locs ls hP hS hl => W.widen hk hn (vx_ret (W.vret B.exec B.bytes B.returns (fun t ht hW => ⟨⟨(M', g'), rfl, hp, by unfold mB; rw [ht]; exact hP⟩, hS.F ht⟩) hS.2.2 hd B.notSynchronized)))
    (fun _ _ _ _ _ h => h) (fun _ _ _ _ _ _ h => h)
    s.heap [] _ hP va_S.rf (lv_entry vs hvs)
theorem mcXI_of {g0 : Glo} {y : MethodName} {d mc ms : Nat} {vs : List Value} {post : Int32 → Mem → Glo → Prop} {px : String → Prop} {L0 : List (Nat × Value)} (hG : mInj G) (hy : plainName y.cls = true) (hvs : (lg_sl vs).length ≤ nL) (hL : lv_args 0 vs = L0)
    (body : ∀ (p : Program) (e : Env) (s : State) (m : MethodId) (args : Array Value) (below : List Frame) (meth : Method) (c : Code) (Q : State → Prop), mCx p s m args c cc nL y.cls G → xNo meth c →
      (∀ (r : Int32) (M' : Mem) (g' : Glo) (L' : List (Nat × Value)) (pc kk nn : Nat), kk ≤ mc → nn ≤ ms → decode cc pc = .ok (.ireturn, 1) → post r M' g' → At p l e (rmD d mc ms) s m args below meth c G nL kk nn Q M' g' L' pc [.int r]) →
      (∀ (H : Heap) (locs : List Loc) (kk nn : Nat) (g : JFrame), W p l e (rmD d mc ms) s m args below meth c H locs kk nn (vx_MQ below (va_Qi (fun r (u : Mem × Glo) => post r u.1 u.2) (mB G) (mAq G s.heap.size)) (xC G px M g0 s.heap.size) args s mc ms (mAq G s.heap.size)) g → W p l e (rmD d mc ms) s m args below meth c H locs kk nn Q g) →
      (∀ (H : Heap) (locs : List Loc) (kk nn : Nat) (g : JFrame) (q : Addr), vx_W p l e (rmD d mc ms) s m args below meth c H locs kk nn (vx_MQ below (va_Qi (fun r (u : Mem × Glo) => post r u.1 u.2) (mB G) (mAq G s.heap.size)) (xC G px M g0 s.heap.size) args s mc ms (mAq G s.heap.size)) g q → vx_W p l e (rmD d mc ms) s m args below meth c H locs kk nn Q g q) →
      At p l e (rmD d mc ms) s m args below meth c G nL 0 0 Q M g0 L0 0 []) : mcXI l G y cc nL d mc ms vs M g0 post px := by
  intro sz
  refine vx_ofW (cc := cc) (maxL := nL) (ret := some .int) hy rfl ?_
  intro p e s m args below meth c s₁ B hml hno hv
  obtain ⟨rfl, hsz, hP, hS⟩ := hv
  subst hsz
  subst hL
  rw [lg_entry_eq]
  exact body p e s m _ below meth c _ ⟨B.exec, B.bytes, hml, findClass_of_methodNamed B.named, fun w hw => atoms_spec B.pre w (List.mem_cons_of_mem _ hw), hS, hG⟩ ⟨hno, B.notSynchronized⟩
    (fun r M' g' L' pc kk nn hk hn hd hp H locs ls hP hS hl => W.widen hk hn (vx_ret (W.zret B.exec B.bytes B.returns rfl (fun t ht hW => ⟨⟨r, (M', g'), rfl, hp, by unfold mB; rw [ht]; exact hP⟩, hS.F ht⟩) hS.2.2 hd B.notSynchronized)))
    (fun _ _ _ _ _ h => h) (fun _ _ _ _ _ _ h => h)
    s.heap [] _ hP va_S.rf (lv_entry vs hvs)
/-- it goes on to the caller -/
theorem r_outX {E : String} {d mc ms : Nat} {Qc : Array Value → State → Outcome → State → Prop} {px : String → Prop} (hno : xNo meth c) (hq : ∀ (H : Heap) (locs : List Loc) (kk nn : Nat) (g9 : JFrame) (q : Addr), vx_W p l e (rmD d mc ms) s m args below meth c H locs kk nn (vx_MQ below Qc (xC G px M g s.heap.size) args s mc ms (mAq G s.heap.size)) g9 q → vx_W p l e (rmD d mc ms) s m args below meth c H locs kk nn Q g9 q) (hpx : px E) (hk : kk ≤ mc) (hn : nn ≤ ms) : AtX p l e (rmD d mc ms) s m args below meth c G nL kk nn Q M g L pc st E :=
  fun H locs ls q ce hP hS hl h1 h2 h3 => hq H locs kk nn _ q (vx_out (fun x hx => (hno.1 x hx).elim) hno.2 h1 h2 h3 (fun t ht hv => ⟨(), trivial, ⟨hpx, by unfold mB; rw [ht]; exact hP⟩, hS.F ht⟩) hS.2.2 hk hn)
/-- the places where an exception of ours is made -/
def mThr (own : String) (ik is ic : Nat) (E text : String) (names : List String) : Prop :=
  Cond.classLink own ik E ∈ gd ∧ Cond.initialized E ∈ gd ∧ (own, is, text) ∈ strL ∧ (∀ w ∈ (vx_atS own ic E names).filter goodWord, w ∈ gd) ∧ (∀ w ∈ (vx_atS own ic E names).filter (fun w => !goodWord w), w ∈ (caL.map (fun q => Cond.castable q.1 q.2) ++ deL.map Cond.declares)) ∧ (∀ w ∈ Cond.classLink own ik E :: Cond.initialized E :: vx_atS own ic E names, vx_ot w = true) ∧ Bundle.fit E = true ∧ (∀ n ∈ names, Bundle.fit n = true) ∧ names.length ≤ 3
theorem m_hat {ik is ic : Nat} {E text : String} {names : List String} (C : mCx p s m args c cc nL own G) (h : mThr own ik is ic E text names) : ∀ w ∈ vx_atS own ic E names, w.before args s = true :=
  vx_hat (B := caL.map (fun q => Cond.castable q.1 q.2) ++ deL.map Cond.declares) (fun w hw => C.2.2.2.2.1 w (h.2.2.2.1 w hw)) h.2.2.2.2.1 (fun w hw => by
    rcases List.mem_append.mp hw with hw | hw
    · obtain ⟨q, hq, rfl⟩ := List.mem_map.mp hw
      exact (C.2.2.2.2.2.1.2.2.2.2.2.1 q hq).use rfl
    · obtain ⟨q, hq, rfl⟩ := List.mem_map.mp hw
      exact (C.2.2.2.2.2.1.2.2.2.2.2.2.1 q hq).use rfl)
theorem r_throwW {ik is ic d mc ms : Nat} {E text : String} {names : List String} {Qc : Array Value → State → Outcome → State → Prop} {px : String → Prop} (C : mCx p s m args c cc nL own G) (hno : xNo meth c) (h6 : 6 ≤ d) (hq : ∀ (H : Heap) (locs : List Loc) (kk nn : Nat) (g9 : JFrame), W p l e (rmD d mc ms) s m args below meth c H locs kk nn (vx_MQ below Qc (xC G px M g s.heap.size) args s mc ms (mAq G s.heap.size)) g9 → W p l e (rmD d mc ms) s m args below meth c H locs kk nn Q g9) (hfl : l.stackTraces = false) (h : mThr own ik is ic E text names) (hpx : px E)
    (d0 : decode cc pc = .ok (.new ik, 3)) (d3 : decode cc (pc + 3) = .ok (.dup, 1)) (d4 : decode cc (pc + 4) = .ok (.ldc_w is, 3)) (d7 : decode cc (pc + 7) = .ok (.invokespecial ic, 3)) (d10 : decode cc (pc + 10) = .ok (.athrow, 1)) (hst : (st.map fun v => v.category).sum ≤ 8) (hk : kk + 1 ≤ mc) (hn : nn + 6 ≤ ms) : At p l e (rmD d mc ms) s m args below meth c G nL kk nn Q M g L pc st := by
  intro H locs ls hP hS hl
  obtain ⟨sa, hsa⟩ := C.2.2.2.2.2.1.2.2.2.2.1 _ h.2.2.1
  have hlen := h.2.2.2.2.2.2.2.2
  refine hq H locs kk nn _ (vx_throwSW (mc := mc) (ms := ms) C.1 C.2.1 hfl C.2.2.2.1 h.2.2.2.2.2.2.1 h.2.2.2.2.2.2.2.1 (C.2.2.2.2.1 _ h.1) (C.2.2.2.2.1 _ h.2.1) hsa (m_hat C h) h.2.2.2.2.2.1 C.2.2.2.2.2.1.2.2.1 C.2.2.2.2.2.1.2.2.2.1 hS (by rw [C.2.2.1]; exact hl.1) d0 d3 d4 d7 d10 (fun x hx => (hno.1 x hx).elim) (show names.length + 3 < 1 + d by omega) (show _ ≤ 40 + 40 * d by omega) hk hn hno.2 (fun t hv h1 h2 => ⟨(), trivial, ⟨hpx, ?_⟩, ?_⟩) hS.2.2 hk hn)
  · unfold mB
    exact hP.kept (fun k q hq => h2 q.1 ((hP k q hq).lt))
  · exact ⟨Nat.le_trans hS.1 h1, fun q h3 h4 => (h2 q (Nat.lt_of_lt_of_le h3 hS.1)).trans (hS.2.1 q h3 h4)⟩
theorem r_throwS {ik is ic d mc ms : Nat} {E text : String} {names : List String} {Qc : Array Value → State → Outcome → State → Prop} {px : String → Prop} (C : mCx p s m args c cc nL own G) (hno : xNo meth c) (h6 : 6 ≤ d) (hq : ∀ (H : Heap) (locs : List Loc) (kk nn : Nat) (g9 : JFrame), W p l e (rmD d mc ms) s m args below meth c H locs kk nn (vx_MQ below Qc (xC G px M g s.heap.size) args s mc ms (mAq G s.heap.size)) g9 → W p l e (rmD d mc ms) s m args below meth c H locs kk nn Q g9) (hfl : l.stackTraces = false) (h : mThr own ik is ic E text names) (hpx : px E)
    (d0 : decode cc pc = .ok (.new ik, 3)) (d3 : decode cc (pc + 3) = .ok (.dup, 1)) (d4 : decode cc (pc + 4) = .ok (.ldc is, 2)) (d6 : decode cc (pc + 6) = .ok (.invokespecial ic, 3)) (d9 : decode cc (pc + 9) = .ok (.athrow, 1)) (hst : (st.map fun v => v.category).sum ≤ 8) (hk : kk + 1 ≤ mc) (hn : nn + 6 ≤ ms) : At p l e (rmD d mc ms) s m args below meth c G nL kk nn Q M g L pc st := by
  intro H locs ls hP hS hl
  obtain ⟨sa, hsa⟩ := C.2.2.2.2.2.1.2.2.2.2.1 _ h.2.2.1
  have hlen := h.2.2.2.2.2.2.2.2
  refine hq H locs kk nn _ (vx_throwS (mc := mc) (ms := ms) C.1 C.2.1 hfl C.2.2.2.1 h.2.2.2.2.2.2.1 h.2.2.2.2.2.2.2.1 (C.2.2.2.2.1 _ h.1) (C.2.2.2.2.1 _ h.2.1) hsa (m_hat C h) h.2.2.2.2.2.1 C.2.2.2.2.2.1.2.2.1 C.2.2.2.2.2.1.2.2.2.1 hS (by rw [C.2.2.1]; exact hl.1) d0 d3 d4 d6 d9 (fun x hx => (hno.1 x hx).elim) (show names.length + 3 < 1 + d by omega) (show _ ≤ 40 + 40 * d by omega) hk hn hno.2 (fun t hv h1 h2 => ⟨(), trivial, ⟨hpx, ?_⟩, ?_⟩) hS.2.2 hk hn)
  · unfold mB
    exact hP.kept (fun k q hq => h2 q.1 ((hP k q hq).lt))
  · exact ⟨Nat.le_trans hS.1 h1, fun q h3 h4 => (h2 q (Nat.lt_of_lt_of_le h3 hS.1)).trans (hS.2.1 q h3 h4)⟩
theorem r_xVV {idx maxL n d D q ci N mc ms mc1 ms1 : Nat} {fs : List Nat} {C0 : String} {T : u_T} {y : MethodName} {bytes : ByteArray} {As rest st0 : List Value} {post : Mem → Glo → Prop} {px : String → Prop} (C : mCx p s m args c cc nL own G) (hd : decode cc pc = .ok (.invokevirtual idx, 3)) (hs : mSv own idx C0 y bytes maxL none n) (hM : mcXV l G y bytes maxL d mc1 ms1 (.ref (mA G q) :: As) M g post px) (hdD : d < D) (hq : lay q = (1, ci :: fs)) (hc : vwC[ci]? = some (C0, T, N)) (hn : As.length = n) (hst : st0 = As.reverse ++ .ref (mA G q) :: rest) (hr : (rest.map fun v => v.category).sum ≤ 8) (h1 : kk + mc1 ≤ mc) (h2 : nn + ms1 ≤ ms)
    (kx : ∀ E, px E → AtX p l e (rmD D mc ms) s m args below meth c G nL (kk + mc1) (nn + ms1) Q M g L pc rest E)
    (k : ∀ (M' : Mem) (g' : Glo), post M' g' → At p l e (rmD D mc ms) s m args below meth c G nL (kk + mc1) (nn + ms1) Q M' g' L (pc + 3) rest) : At p l e (rmD D mc ms) s m args below meth c G nL kk nn Q M g L pc st0 := by
  intro H locs ls hP hS hl
  subst hst
  refine vx_callv (vx_runV (As := As) (rest := rest) (m_fix C) (hM H.size) (m_cw C hs hdD) (m_pv C hq hc hP hS) rfl hn hl.1 rfl (lv_room hr) hd ⟨h1, h2⟩) hS (fun _ _ h => mAq_le hS.1 h) (fun _ h => mAq_le hS.1 h) (fun _ _ h => mAq_le hS.1 h) (fun E ce q9 u t H1 locs1 ht hvm hpx hB hz1 hk1 hS1 e1 e2 e3 => ?_) (fun u t H1 locs1 ht hvm hw hB hz1 hk1 hS1 => ?_)
  · obtain ⟨hB1, hB⟩ := hB
    unfold mB at hB
    rw [ht] at hB
    exact kx E hB1 H1 locs1 ls q9 ce hB hS1 hl e1 e2 e3
  · unfold mB at hB
    rw [ht] at hB
    exact k u.1 u.2 hw H1 locs1 ls hB hS1 hl
theorem r_xSV {idx maxL n d D mc ms mc1 ms1 : Nat} {y : MethodName} {bytes : ByteArray} {As rest st0 : List Value} {post : Mem → Glo → Prop} {px : String → Prop} (C : mCx p s m args c cc nL own G) (hd : decode cc pc = .ok (.invokestatic idx, 3)) (hs : mSs own idx y bytes maxL none n) (hM : mcXV l G y bytes maxL d mc1 ms1 As M g post px) (hdD : d < D) (hn : As.length = n) (hst : st0 = As.reverse ++ rest) (hr : (rest.map fun v => v.category).sum ≤ 8) (h1 : kk + mc1 ≤ mc) (h2 : nn + ms1 ≤ ms)
    (kx : ∀ E, px E → AtX p l e (rmD D mc ms) s m args below meth c G nL (kk + mc1) (nn + ms1) Q M g L pc rest E)
    (k : ∀ (M' : Mem) (g' : Glo), post M' g' → At p l e (rmD D mc ms) s m args below meth c G nL (kk + mc1) (nn + ms1) Q M' g' L (pc + 3) rest) : At p l e (rmD D mc ms) s m args below meth c G nL kk nn Q M g L pc st0 := by
  intro H locs ls hP hS hl
  subst hst
  refine vx_callv (vx_runS (As := As) (rest := rest) (m_fix C) (hM H.size) ⟨m_cb C hs.1 hdD, C.2.2.2.2.1 _ hs.2⟩ (m_ps C hP hS) rfl hn hl.1 rfl (lv_room hr) hd ⟨h1, h2⟩) hS (fun _ _ h => mAq_le hS.1 h) (fun _ h => mAq_le hS.1 h) (fun _ _ h => mAq_le hS.1 h) (fun E ce q9 u t H1 locs1 ht hvm hpx hB hz1 hk1 hS1 e1 e2 e3 => ?_) (fun u t H1 locs1 ht hvm hw hB hz1 hk1 hS1 => ?_)
  · obtain ⟨hB1, hB⟩ := hB
    unfold mB at hB
    rw [ht] at hB
    exact kx E hB1 H1 locs1 ls q9 ce hB hS1 hl e1 e2 e3
  · unfold mB at hB
    rw [ht] at hB
    exact k u.1 u.2 hw H1 locs1 ls hB hS1 hl
end MX
