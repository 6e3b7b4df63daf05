/-! methods of the law with handlers: an exception of ours is caught and told by a number -/
section MW
variable {p : Program} {l : Launch} {e : Env} {s : State} {m : MethodId} {args : Array Value} {below : List Frame} {meth : Method} {c : Code} {G : mG} {nL kk nn : Nat} {Q : State → Prop} {M : Mem} {g : Glo} {L : List (Nat × Value)} {pc : Nat} {st : List Value} {cc : ByteArray} {own : String}
theorem mt_ofWH {y : MethodName} {ws ws' : List Cond} {rm : Room} {Pc : Array Value → State → Prop} {Qc : Array Value → State → Outcome → State → Prop} {mc ms : Nat} {free : Addr → Prop} {maxL : Nat} {ret : Option FieldType} {hh : List (Nat × Nat × Nat × Nat)}
    (hy : plainName y.cls = true) (hw : ws = Cond.codeWith y cc maxL ret hh :: ws')
    (body : ∀ p e s m args below meth c s₁, BodyLoose p l y (headSpec ws rm) cc maxL ret e s m args below meth c s₁ → c.maxLocals = maxL → Pc args s →
      W p l e (headSpec ws rm).room s m args below meth c s.heap [] 0 0 (MQ below Qc args s mc ms free) (entryFrame m args maxL)) : Met l y ws rm Pc Qc mc ms free := by
  refine MetFree.of_bodyS (code := cc) (maxLocals := maxL) (ret := ret) hy ?_ ?_
  · intro args s m h hn
    obtain ⟨m9, meth, c, hn9, h1, h2, h3, h4, -, h5, h6, -⟩ := Cond.codeWith_spec (atoms_spec (ws := ws) h _ (by rw [hw]; exact List.mem_cons_self))
    cases hn.symm.trans hn9
    exact ⟨meth, c, h1, h2, h3, h4, h5, h6⟩
  · intro p e s m args below meth c s₁ B hml hP _
    have hh0 : s₁.heap = s.heap := by rw [B.state]; rfl
    obtain ⟨t, a1, o, b1, b2, b3⟩ := body p e s m args below meth c s₁ B hml hP s₁ hh0 (Stand.of_body B)
    exact ⟨t, o, a1, b1, b2, ⟨b3.1, b3.2⟩⟩
def mcW (l : Launch) (G : mG) (y : MethodName) (cc : ByteArray) (nL : Nat) (hh : List (Nat × Nat × Nat × Nat)) (d mc ms : Nat) (vs : List Value) (M : Mem) (g : Glo) (post : Int32 → Mem → Glo → Prop) : Prop :=
  ∀ sz, Met l y (.codeWith y cc nL (some .int) hh :: gd) (rmD d mc ms) (mPc G sz vs M g) (va_Qi (fun r (u : Mem × Glo) => post r u.1 u.2) (mB G) (mAq G sz)) mc ms (mAq G sz)
theorem mcW_of {y : MethodName} {hh : List (Nat × Nat × Nat × Nat)} {d mc ms : Nat} {vs : List Value} {post : Int32 → Mem → Glo → Prop} {L0 : List (Nat × Value)} (hG : mInj G) (hy : plainName y.cls = true) (hvs : (lg_sl vs).length ≤ nL) (hL : lv_args 0 vs = L0)
    (body : ∀ (p : Program) (e : Env) (s : State) (m : MethodId) (args : Array Value) (below : List Frame) (meth : Method) (c : Code) (Q : State → Prop), mCx p s m args c cc nL y.cls G → c.exceptionTable.toList = tableOf hh →
      (∀ (r : Int32) (M' : Mem) (g' : Glo) (L' : List (Nat × Value)) (pc kk nn : Nat), kk ≤ mc → nn ≤ ms → decode cc pc = .ok (.ireturn, 1) → post r M' g' → At p l e (rmD d mc ms) s m args below meth c G nL kk nn Q M' g' L' pc [.int r]) →
      At p l e (rmD d mc ms) s m args below meth c G nL 0 0 Q M g L0 0 []) : mcW l G y cc nL hh d mc ms vs M g post := by
  intro sz
  refine mt_ofWH (cc := cc) (maxL := nL) (ret := some .int) hy rfl ?_
  intro p e s m args below meth c s₁ B hml hv
  obtain ⟨rfl, hsz, hP, hS⟩ := hv
  subst hsz
  subst hL
  rw [lg_entry_eq]
  exact body p e s m _ below meth c _ ⟨B.exec, B.bytes, hml, findClass_of_methodNamed B.named, fun w hw => atoms_spec B.pre w (List.mem_cons_of_mem _ hw), hS, hG⟩ (vx_table (x := y) B (atoms_spec B.pre _ List.mem_cons_self))
    (fun r M' g' L' pc kk nn hk hn hd hp H locs ls hP hS hl => W.widen hk hn (W.zret B.exec B.bytes B.returns rfl (fun t ht hW => ⟨⟨r, (M', g'), rfl, hp, by unfold mB; rw [ht]; exact hP⟩, hS.F ht⟩) hS.2.2 hd B.notSynchronized))
    s.heap [] _ hP va_S.rf (lv_entry vs hvs)
theorem r_hVI {idx maxL n d D q ci N mc ms mc1 ms1 : Nat} {fs : List Nat} {C0 : String} {T : u_T} {y : MethodName} {bytes : ByteArray} {As rest st0 : List Value} {post : Int32 → Mem → Glo → Prop} {px : String → Prop} (C : mCx p s m args c cc nL own G) (hd : decode cc pc = .ok (.invokevirtual idx, 3)) (hs : mSv own idx C0 y bytes maxL (some .int) n) (hM : mcXI l G y bytes maxL d mc1 ms1 (.ref (mA G q) :: As) M g post px) (hdD : d < D) (hq : lay q = (1, ci :: fs)) (hc : vwC[ci]? = some (C0, T, N)) (hn : As.length = n) (hst : st0 = As.reverse ++ .ref (mA G q) :: rest) (hr : (rest.map fun v => v.category).sum ≤ 8) (h1 : kk + mc1 ≤ mc) (h2 : nn + ms1 ≤ ms)
    (kx : ∀ E, px E → AtX p l e (rmD D mc ms) s m args below meth c G nL (kk + mc1) (nn + ms1) Q M g L pc rest E)
    (k : ∀ (r : Int32) (M' : Mem) (g' : Glo), post r M' g' → At p l e (rmD D mc ms) s m args below meth c G nL (kk + mc1) (nn + ms1) Q M' g' L (pc + 3) (.int r :: rest)) : At p l e (rmD D mc ms) s m args below meth c G nL kk nn Q M g L pc st0 := by
  intro H locs ls hP hS hl
  subst hst
  refine vx_calli (vx_runV (As := As) (rest := rest) (m_fix C) (hM H.size) (m_cw C hs hdD) (m_pv C hq hc hP hS) rfl hn hl.1 rfl (lv_room hr) hd ⟨h1, h2⟩) hS (fun _ _ h => mAq_le hS.1 h) (fun _ h => mAq_le hS.1 h) (fun _ _ h => mAq_le hS.1 h) (fun E ce q9 u t H1 locs1 ht hvm hpx hB hz1 hk1 hS1 e1 e2 e3 => ?_) (fun r u t H1 locs1 ht hvm hw hB hz1 hk1 hS1 => ?_)
  · obtain ⟨hB1, hB⟩ := hB
    unfold mB at hB
    rw [ht] at hB
    exact kx E hB1 H1 locs1 ls q9 ce hB hS1 hl e1 e2 e3
  · unfold mB at hB
    rw [ht] at hB
    exact k r u.1 u.2 hw H1 locs1 ls hB hS1 hl
theorem r_catch {R : Room} {E name : String} (C : mCx p s m args c cc nL own G) (pre : List ExceptionTableEntry) (x : ExceptionTableEntry) (suf : List ExceptionTableEntry) (htab : c.exceptionTable.toList = pre ++ x :: suf)
    (hpass : ∀ z ∈ pre, z.catchType ≠ 0 ∧ ∃ nm : String, Cond.classLink own z.catchType nm ∈ gd ∧ (E, nm) ∈ ncL) (hx : covers x pc = true) (h0 : x.catchType ≠ 0) (hlink : Cond.classLink own x.catchType name ∈ gd) (hcast : (E, name) ∈ caL)
    (k : ∀ q : Nat, At p l e R s m args below meth c G nL kk nn Q M g L x.handlerPc [.ref q]) : AtX p l e R s m args below meth c G nL kk nn Q M g L pc st E :=
  fun H locs ls q ce hP hS hl h1 h2 h3 => vx_catch C.2.2.2.1 pre x suf htab (fun z hz => by
    obtain ⟨a, nm, b, d⟩ := hpass z hz
    exact Or.inr ⟨a, nm, C.2.2.2.2.1 _ b, C.2.2.2.2.2.1.2.2.2.2.2.2.2 _ d⟩) hx h0 (C.2.2.2.2.1 _ hlink) ((C.2.2.2.2.2.1.2.2.2.2.2.1 _ hcast).use rfl) h1 h2 h3 (k q H locs ls hP hS hl)
end MW
theorem lk_71 : Cond.classLink RL 71 IOO ∈ gd := gd_t 490 (by decide +kernel) rfl
theorem lk_73 : Cond.classLink RL 73 IAE ∈ gd := gd_t 388 (by decide +kernel) rfl
theorem lk_75 : Cond.classLink RL 75 ISE ∈ gd := gd_t 526 (by decide +kernel) rfl
theorem ca_IOO : (IOO, IOO) ∈ caL := List.mem_of_getElem? (i := 0) rfl
theorem ca_IAE : (IAE, IAE) ∈ caL := List.mem_of_getElem? (i := 1) rfl
theorem ca_ISE : (ISE, ISE) ∈ caL := List.mem_of_getElem? (i := 2) rfl
theorem nc_IAE_IOO : (IAE, IOO) ∈ ncL := List.mem_of_getElem? (i := 0) rfl
theorem nc_ISE_IOO : (ISE, IOO) ∈ ncL := List.mem_of_getElem? (i := 1) rfl
theorem nc_IOO_IAE : (IOO, IAE) ∈ ncL := List.mem_of_getElem? (i := 2) rfl
theorem nc_ISE_IAE : (ISE, IAE) ∈ ncL := List.mem_of_getElem? (i := 3) rfl
/-- what a call that may be refused answers: by its case e the answer, or the number of what is thrown -/
def wrP (M : Mem) (g : Glo) (e : Nat) (cs : List Int32) (P : Int32 → Mem → Prop) (r : Int32) (M' : Mem) (g' : Glo) : Prop := ((e = 0 ∧ P r M') ∨ ∃ (k : Nat) (x : Int32), cs[k]? = some x ∧ e = k + 1 ∧ r = x ∧ M' = M) ∧ g' = g
theorem wr_ok {M : Mem} {g : Glo} {e : Nat} {cs : List Int32} {P : Int32 → Mem → Prop} {r : Int32} {M' : Mem} {g' : Glo} (h : wrP M g e cs P r M' g') (he : e = 0) : P r M' ∧ g' = g := by
  obtain ⟨h | ⟨k, E, h1, h2, h3, h4⟩, hg⟩ := h
  · exact ⟨h.2, hg⟩
  · omega
theorem wr_no {M : Mem} {g : Glo} {e : Nat} {cs : List Int32} {P : Int32 → Mem → Prop} {r : Int32} {M' : Mem} {g' : Glo} (h : wrP M g e cs P r M' g') (k : Nat) (x : Int32) (hk : cs[k]? = some x) (he : e = k + 1) : r = x ∧ M' = M ∧ g' = g := by
  obtain ⟨h | ⟨k1, E1, h1, h2, h3, h4⟩, hg⟩ := h
  · omega
  · have : k1 = k := by omega
    subst this
    rw [hk] at h1
    cases h1
    exact ⟨h3, h4, hg⟩
