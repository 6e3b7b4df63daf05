/-! worlds that grow: what the constructors make, cell by cell -/
def xS (G : mG) (A : Nat → Prop) (U : State) (H : Heap) : Prop := (va_K (mD G) vwC (mT G) U ∧ (∀ q ∈ nwL, va_Nw (.methodLinkNest q.1 q.2.1 q.2.2.1 q.2.2.2) U) ∧ vx_Zq Bundle.tN "UNASSIGNED_STACK" Bundle.steD A U H ∧ vx_Zq Bundle.tN "SUPPRESSED_SENTINEL" Bundle.listD A U H ∧ (∀ q ∈ strL, ∃ sa, vk_R q.1 q.2.1 q.2.2 sa U) ∧ (∀ q ∈ caL, va_Nw (.castable q.1 q.2) U) ∧ (∀ q ∈ deL, va_Nw (.declares q) U) ∧ (∀ q ∈ ncL, va_Nc q.1 q.2 U)) ∧ va_AO "HeatBranches$State" U
theorem xS.same {G : mG} {A : Nat → Prop} {u U : State} {H : Heap} (hv : u.vm = U.vm) (h : xS G A u H) : xS G A U H := by
  obtain ⟨⟨h1, h2, h3, h4, h5, h6, h7, h8⟩, h9⟩ := h
  have ha : u.vm.Alike U.vm := by rw [hv]; exact Vm.Alike.refl _
  exact ⟨⟨va_K.moved ha h1, fun q hq => va_Nw.same rfl hv (h2 q hq), h3.moved ha, h4.moved ha, fun q hq => (h5 q hq).imp fun _ z => vk_R.same hv.symm z, fun q hq => va_Nw.same rfl hv (h6 q hq), fun q hq => va_Nw.same rfl hv (h7 q hq), fun q hq => va_Nc.moved ha (h8 q hq)⟩, va_AO.moved ha h9⟩
theorem xS.narrow {G : mG} {A B : Nat → Prop} {U : State} {H : Heap} (h : xS G A U H) (hAB : ∀ q, B q → A q) : xS G B U H := by
  obtain ⟨⟨h1, h2, h3, h4, h5, h6, h7, h8⟩, h9⟩ := h
  exact ⟨⟨h1, h2, h3.narrow hAB, h4.narrow hAB, h5, h6, h7, h8⟩, h9⟩
theorem xS.call {G : mG} {A : Nat → Prop} {s U : State} {H : Heap} {locs : List Loc} (hW : s.WarmedH U.vm) (hS : va_S A s.heap H locs) (h : xS G A s s.heap) : xS G A U H := by
  obtain ⟨⟨h1, h2, h3, h4, h5, h6, h7, h8⟩, h9⟩ := h
  exact ⟨⟨va_K.moved hW.alike h1, fun q hq => va_Nw.warmM hW (h2 q hq), (h3.moved hW.alike).kept hS.2.1, (h4.moved hW.alike).kept hS.2.1, fun q hq => (h5 q hq).imp fun _ z => vk_R.warm hW z, fun q hq => va_Nw.warmC hW (h6 q hq), fun q hq => va_Nw.warmD hW (h7 q hq), fun q hq => va_Nc.moved hW.alike (h8 q hq)⟩, va_AO.moved hW.alike h9⟩
def kA (h0 sz : Nat) : Nat → Prop := fun q => q = h0 ∨ sz ≤ q
def kCx (p : Program) (s : State) (m : MethodId) (args : Array Value) (c : Code) (cc : ByteArray) (nL : Nat) (own : String) (G : mG) (A : Nat → Prop) : Prop :=
  p.tables.exec = Jvm.exec ∧ c.code = cc ∧ c.maxLocals = nL ∧ s.vm.findClass own = some m.cls ∧ (∀ w ∈ gd, w.before args s = true) ∧ xS G A s s.heap ∧ ∀ q, s.heap.size ≤ q → A q
def Kt (p : Program) (l : Launch) (e : Env) (R : Room) (s : State) (m : MethodId) (args : Array Value) (below : List Frame) (meth : Method) (c : Code) (G : mG) (nL k n : Nat) (Q : State → Prop) (A : Nat → Prop) (ws : va_W) (L : List (Nat × Value)) (pc : Nat) (st : List Value) : Prop :=
  ∀ (H : Heap) (locs : List Loc) (ls : Array Slot), va_P (mD G) vwC ws H → va_D A ws → va_S A s.heap H locs → lv_has ls nL L → W p l e R s m args below meth c H locs k n Q (F0 m pc ls st)
/-- a field that only the constructor sets -/
def mFf (own : String) (idx ci i : Nat) (t : FieldType) : Prop := ∃ (C : String) (T : u_T) (N : Nat) (ty : Nat → FieldType), mCl ci C T N ty ∧ i < N ∧ Cond.fieldLink own idx (T i).1 (T i).2.1 (T i).2.2.1 ∈ gd ∧ (T i).2.2.2 = true ∧ (T i).1 = own ∧ parseFieldDescriptor (T i).2.2.1 = some t
/-- a place where an object of ours is made -/
def mNw (own : String) (idx ci : Nat) (fs : List Value) : Prop := ∃ (C : String) (T : u_T) (N : Nat) (ty : Nat → FieldType), mCl ci C T N ty ∧ fs.length = N ∧ Cond.classLink own idx C ∈ gd ∧ Cond.instantiable C N ∈ gd ∧ Cond.initialized C ∈ gd ∧ ∀ j, j < N → defaultValue (ty j) = vp_V fs j
/-- where a constructor of ours is called: by the link of its own, or by the nest's -/
def mSc (own : String) (idx : Nat) (y : MethodName) (bytes : ByteArray) (maxL : Nat) : Prop := mSi own idx y bytes maxL none 0 ∧ y.name = "<init>" ∧ Cond.instanceMethod y ∈ gd
def mScn (own : String) (idx : Nat) (y : MethodName) (host : String) (bytes : ByteArray) (maxL : Nat) : Prop :=
  (own, idx, y, host) ∈ nwL ∧ Cond.initialized y.cls ∈ gd ∧ Cond.code y bytes maxL none ∈ gd ∧ y.cls ≠ "java/lang/invoke/MethodHandle" ∧ y.cls ≠ "java/lang/invoke/VarHandle" ∧ (parseMethodDescriptor y.desc).map (fun d => d.parameters.length) = some 0 ∧ maxL ≤ 20 ∧ y.name = "<init>" ∧ Cond.instanceMethod y ∈ gd
def kPc (G : mG) (sz h0 ci : Nat) (fs : List Value) : Array Value → State → Prop := va_Pc [.ref h0] (fun U => U.heap.size = sz ∧ h0 < sz ∧ va_P (mD G) vwC [(h0, .inr (ci, fs))] U.heap ∧ xS G (kA h0 sz) U U.heap)
def mcK (l : Launch) (G : mG) (y : MethodName) (cc : ByteArray) (nL d mc ms ci : Nat) (fs : List Value) {S : Type} (post : Nat → S → Prop) (w1 : S → va_W) : Prop :=
  ∀ sz h0, Met l y (.code y cc nL none :: gd) (rmD d mc ms) (kPc G sz h0 ci fs) (va_Qv (fun u => post h0 u) (fun u t => va_P (mD G) vwC (w1 u) t.heap ∧ va_D (kA h0 sz) (w1 u)) (kA h0 sz)) mc ms (kA h0 sz)
theorem kPc_blind {G : mG} {sz h0 ci : Nat} {fs : List Value} : FrameBlind (kPc G sz h0 ci fs) := fun a U g9 mk q => ⟨q.1, q.2.1, q.2.2.1, q.2.2.2.1, xS.same (u := U) (U := U.calling g9 mk a) rfl q.2.2.2.2⟩
theorem mcK_of {l : Launch} {G : mG} {y : MethodName} {cc : ByteArray} {nL d mc ms ci : Nat} {fs : List Value} {S : Type} {post : Nat → S → Prop} {w1 : S → va_W} (hy : plainName y.cls = true) (hyn : y.name = "<init>") (hn : 1 ≤ nL)
    (body : ∀ (h0 : Nat) (p : Program) (e : Env) (s : State) (m : MethodId) (args : Array Value) (below : List Frame) (meth : Method) (c : Code) (Q : State → Prop) (A : Nat → Prop), A = kA h0 s.heap.size → h0 < s.heap.size → kCx p s m args c cc nL y.cls G A → meth.name = "<init>" →
      (∀ (u : S) (L' : List (Nat × Value)) (pc : Nat), decode cc pc = .ok (.return_, 1) → post h0 u → Kt p l e (rmD d mc ms) s m args below meth c G nL mc ms Q A (w1 u) L' pc []) →
      Kt p l e (rmD d mc ms) s m args below meth c G nL 0 0 Q A [(h0, .inr (ci, fs))] [(0, .ref h0)] 0 []) : mcK l G y cc nL d mc ms ci fs post w1 := by
  intro sz h0
  refine Met.ofW (cc := cc) (maxL := nL) (ret := none) hy rfl ?_
  intro p e s m args below meth c s₁ B hml hv
  obtain ⟨rfl, hsz, hlt, hP, hS⟩ := hv
  subst hsz
  rw [lg_entry_eq]
  refine body h0 p e s m _ below meth c _ (kA h0 s.heap.size) rfl hlt ⟨B.exec, B.bytes, hml, findClass_of_methodNamed B.named, fun w hw => atoms_spec B.pre w (List.mem_cons_of_mem _ hw), hS, fun q hq => Or.inr hq⟩ ((name_of_methodNamed B.named B.method).1.trans hyn)
    (fun u L' pc hd hp H locs ls hP hD hS hl => W.vret B.exec B.bytes B.returns (fun t ht hW => ⟨⟨u, rfl, hp, by rw [ht]; exact hP, hD⟩, hS.F ht⟩) hS.2.2 hd B.notSynchronized)
    s.heap [] _ hP ?_ va_S.rf (lv_entry [.ref h0] hn)
  refine ⟨fun i j a b ha hb _ => ?_, fun k q hq => ?_⟩
  · have h1 := (List.getElem?_eq_some_iff.mp ha).1
    have h2 := (List.getElem?_eq_some_iff.mp hb).1
    simp at h1 h2
    omega
  · have h1 := (List.getElem?_eq_some_iff.mp hq).1
    simp at h1
    subst h1
    simp at hq
    subst hq
    exact Or.inl rfl
/-- the callee's world takes the place of the object that it was given -/
theorem k_join {A : Nat → Prop} {D : va_G} {cl : List vw_C} {w w1 : va_W} {q : Nat} {e0 : va_E} {H H1 : Heap} (hP : va_P D cl (w ++ [(q, e0)]) H) (hD : va_D A (w ++ [(q, e0)])) (hk : ∀ z : Nat, z < H.size → ¬ kA q H.size z → H1[z]? = H[z]?) (hF : ∀ z, kA q H.size z → A z) (hP1 : va_P D cl w1 H1) (hD1 : va_D (kA q H.size) w1) : va_P D cl (w ++ w1) H1 ∧ va_D A (w ++ w1) := by
  have hq : (w ++ [(q, e0)])[w.length]? = some (q, e0) := by simp
  have hw : ∀ (k : Nat) (x : Nat × va_E), w[k]? = some x → (w ++ [(q, e0)])[k]? = some x := fun k x hx => by
    rw [List.getElem?_append_left (List.getElem?_eq_some_iff.mp hx).1]
    exact hx
  have apart : ∀ (k : Nat) (x : Nat × va_E), w[k]? = some x → x.1 < H.size ∧ ¬ kA q H.size x.1 := by
    intro k x hx
    have hl := (hP k x (hw k x hx)).lt
    refine ⟨hl, fun h => ?_⟩
    rcases h with h | h
    · have hij := hD.1 k w.length x (q, e0) (hw k x hx) hq h
      have := (List.getElem?_eq_some_iff.mp hx).1
      omega
    · omega
  refine ⟨va_P.app (fun k x hx => (hP k x (hw k x hx)).kept (hk x.1 (apart k x hx).1 (apart k x hx).2)) hP1, va_D.app ⟨fun i j x z hx hz e => hD.1 i j x z (hw i x hx) (hw j z hz) e, fun k x hx => hD.2 k x (hw k x hx)⟩ (hD1.weaken (fun k x _ h => hF x.1 h)) (fun i j x y hx hy hxy => ?_)⟩
  exact (apart i x hx).2 (by rw [hxy]; exact hD1.2 j y hy)
section KR
variable {p : Program} {l : Launch} {e : Env} {R : Room} {s : State} {m : MethodId} {args : Array Value} {below : List Frame} {meth : Method} {c : Code} {G : mG} {nL kk nn : Nat} {Q : State → Prop} {A : Nat → Prop} {ws : va_W} {L : List (Nat × Value)} {pc : Nat} {st : List Value} {cc : ByteArray} {own : String}
theorem k_iconst {v : Int32} {n : Int} (C : kCx p s m args c cc nL own G A) (hd : decode cc pc = .ok (.iconst n, 1)) (hv : Int32.ofInt n = v) (k : Kt p l e R s m args below meth c G nL kk nn Q A ws L (pc + 1) (.int v :: st)) : Kt p l e R s m args below meth c G nL kk nn Q A ws L pc st :=
  fun H locs ls hP hD hS hl => lv_iconst C.1 C.2.1 hd hv (k H locs ls hP hD hS hl)
theorem k_bipush {v : Int32} {n : Int} (C : kCx p s m args c cc nL own G A) (hd : decode cc pc = .ok (.bipush n, 2)) (hv : (Int8.ofInt n).toInt32 = v) (k : Kt p l e R s m args below meth c G nL kk nn Q A ws L (pc + 2) (.int v :: st)) : Kt p l e R s m args below meth c G nL kk nn Q A ws L pc st :=
  fun H locs ls hP hD hS hl => lv_bipush C.1 C.2.1 hd hv (k H locs ls hP hD hS hl)
theorem k_sipush {v : Int32} {n : Int} (C : kCx p s m args c cc nL own G A) (hd : decode cc pc = .ok (.sipush n, 3)) (hv : (Int16.ofInt n).toInt32 = v) (k : Kt p l e R s m args below meth c G nL kk nn Q A ws L (pc + 3) (.int v :: st)) : Kt p l e R s m args below meth c G nL kk nn Q A ws L pc st :=
  fun H locs ls hP hD hS hl => lv_sipush C.1 C.2.1 hd hv (k H locs ls hP hD hS hl)
theorem k_iload_n {k0 : Fin 4} {x : Int32} (C : kCx p s m args c cc nL own G A) (hd : decode cc pc = .ok (.iload_n k0, 1)) (i : Nat) (hl0 : L[i]? = some ((k0 : Nat), .int x)) (k : Kt p l e R s m args below meth c G nL kk nn Q A ws L (pc + 1) (.int x :: st)) : Kt p l e R s m args below meth c G nL kk nn Q A ws L pc st :=
  fun H locs ls hP hD hS hl => lv_iload_n C.1 C.2.1 hd rfl (lv_at hl i hl0) (k H locs ls hP hD hS hl)
theorem k_aload_n {k0 : Fin 4} {x : Nat} (C : kCx p s m args c cc nL own G A) (hd : decode cc pc = .ok (.aload_n k0, 1)) (i : Nat) (hl0 : L[i]? = some ((k0 : Nat), .ref x)) (k : Kt p l e R s m args below meth c G nL kk nn Q A ws L (pc + 1) (.ref x :: st)) : Kt p l e R s m args below meth c G nL kk nn Q A ws L pc st :=
  fun H locs ls hP hD hS hl => lv_aload_n C.1 C.2.1 hd rfl (lv_at hl i hl0) (k H locs ls hP hD hS hl)
theorem k_istore_n {k0 : Fin 4} {x : Int32} {L' : List (Nat × Value)} (C : kCx p s m args c cc nL own G A) (hd : decode cc pc = .ok (.istore_n k0, 1)) (hn : (k0 : Nat) < nL) (hL : ((k0 : Nat), Value.int x) :: L.filter (fun q => !(q.1 == (k0 : Nat)) && !(q.1 + 1 == (k0 : Nat) && q.2.category == 2)) = L') (k : Kt p l e R s m args below meth c G nL kk nn Q A ws L' (pc + 1) st) : Kt p l e R s m args below meth c G nL kk nn Q A ws L pc (.int x :: st) :=
  fun H locs ls hP hD hS hl => lv_istore_n C.1 C.2.1 hd rfl hl hn hL (fun ls hl => k H locs ls hP hD hS hl)
theorem k_astore_n {k0 : Fin 4} {x : Nat} {L' : List (Nat × Value)} (C : kCx p s m args c cc nL own G A) (hd : decode cc pc = .ok (.astore_n k0, 1)) (hn : (k0 : Nat) < nL) (hL : ((k0 : Nat), Value.ref x) :: L.filter (fun q => !(q.1 == (k0 : Nat)) && !(q.1 + 1 == (k0 : Nat) && q.2.category == 2)) = L') (k : Kt p l e R s m args below meth c G nL kk nn Q A ws L' (pc + 1) st) : Kt p l e R s m args below meth c G nL kk nn Q A ws L pc (.ref x :: st) :=
  fun H locs ls hP hD hS hl => lv_astore_n C.1 C.2.1 hd rfl hl hn hL (fun ls hl => k H locs ls hP hD hS hl)
theorem k_astore {k0 : Nat} {x : Nat} {L' : List (Nat × Value)} (C : kCx p s m args c cc nL own G A) (hd : decode cc pc = .ok (.astore k0, 2)) (hn : k0 < nL) (hL : (k0, Value.ref x) :: L.filter (fun q => !(q.1 == k0) && !(q.1 + 1 == k0 && q.2.category == 2)) = L') (k : Kt p l e R s m args below meth c G nL kk nn Q A ws L' (pc + 2) st) : Kt p l e R s m args below meth c G nL kk nn Q A ws L pc (.ref x :: st) :=
  fun H locs ls hP hD hS hl => lv_astore C.1 C.2.1 hd hl hn hL (fun ls hl => k H locs ls hP hD hS hl)
theorem k_istore {k0 : Nat} {x : Int32} {L' : List (Nat × Value)} (C : kCx p s m args c cc nL own G A) (hd : decode cc pc = .ok (.istore k0, 2)) (hn : k0 < nL) (hL : (k0, Value.int x) :: L.filter (fun q => !(q.1 == k0) && !(q.1 + 1 == k0 && q.2.category == 2)) = L') (k : Kt p l e R s m args below meth c G nL kk nn Q A ws L' (pc + 2) st) : Kt p l e R s m args below meth c G nL kk nn Q A ws L pc (.int x :: st) :=
  fun H locs ls hP hD hS hl => lv_istore C.1 C.2.1 hd hl hn hL (fun ls hl => k H locs ls hP hD hS hl)
theorem k_iinc {k0 : Nat} {n : Int} {x v : Int32} {L' : List (Nat × Value)} (C : kCx p s m args c cc nL own G A) (hd : decode cc pc = .ok (.iinc k0 n, 3)) (i : Nat) (hl0 : L[i]? = some (k0, .int x)) (hv : x + Int32.ofInt n = v) (hn : k0 < nL) (hL : (k0, Value.int v) :: L.filter (fun q => !(q.1 == k0) && !(q.1 + 1 == k0 && q.2.category == 2)) = L') (k : Kt p l e R s m args below meth c G nL kk nn Q A ws L' (pc + 3) st) : Kt p l e R s m args below meth c G nL kk nn Q A ws L pc st :=
  fun H locs ls hP hD hS hl => lv_iinc C.1 C.2.1 hd hl hl0 hv hn hL (fun ls hl => k H locs ls hP hD hS hl)
theorem k_goto {off : Int} {tgt : Nat} (C : kCx p s m args c cc nL own G A) (hd : decode cc pc = .ok (.goto off, 3)) (ht : (pc : Int) + off = (tgt : Int)) (k : Kt p l e R s m args below meth c G nL kk nn Q A ws L tgt st) : Kt p l e R s m args below meth c G nL kk nn Q A ws L pc st :=
  fun H locs ls hP hD hS hl => lv_goto C.1 C.2.1 hd ht (k H locs ls hP hD hS hl)
theorem k_icmp_ge {x y : Int32} {off : Int} {tgt : Nat} (C : kCx p s m args c cc nL own G A) (hd : decode cc pc = .ok (.if_icmp .ge off, 3)) (ht : (pc : Int) + off = (tgt : Int)) (k1 : y ≤ x → Kt p l e R s m args below meth c G nL kk nn Q A ws L tgt st) (k2 : ¬ y ≤ x → Kt p l e R s m args below meth c G nL kk nn Q A ws L (pc + 3) st) : Kt p l e R s m args below meth c G nL kk nn Q A ws L pc (.int y :: .int x :: st) :=
  fun H locs ls hP hD hS hl => lv_icmp_ge C.1 C.2.1 hd ht (fun q => k1 q H locs ls hP hD hS hl) (fun q => k2 q H locs ls hP hD hS hl)
theorem k_dup {v : Value} (C : kCx p s m args c cc nL own G A) (hd : decode cc pc = .ok (.dup, 1)) (hv : v.category = 1) (k : Kt p l e R s m args below meth c G nL kk nn Q A ws L (pc + 1) (v :: v :: st)) : Kt p l e R s m args below meth c G nL kk nn Q A ws L pc (v :: st) :=
  fun H locs ls hP hD hS hl => lv_dup C.1 C.2.1 hd hv (k H locs ls hP hD hS hl)
theorem k_objInit {idx a : Nat} (C : kCx p s m args c cc nL own G A) (hd : decode cc pc = .ok (.invokespecial idx, 3)) (hl : Cond.methodLink own idx Lib.objectInit ∈ gd) (hR : 1 ≤ R.frames ∧ 20 ≤ R.locals) (hst : (st.map fun v => v.category).sum ≤ 8) (k : Kt p l e R s m args below meth c G nL kk nn Q A ws L (pc + 3) st) : Kt p l e R s m args below meth c G nL kk nn Q A ws L pc (.ref a :: st) :=
  fun H locs ls hP hD hS hl0 => W.objInit C.1 C.2.1 C.2.2.2.1 (C.2.2.2.2.1 _ hl) (C.2.2.2.2.1 _ (gd_t 24 (by decide +kernel) rfl)) (C.2.2.2.2.1 _ (gd_t 25 (by decide +kernel) rfl)) rfl (by rw [C.2.2.1]; exact hl0.1) rfl hd hR.1 (by have := lv_room (m := m) (pc := pc) (ls := ls) (rest := (.ref a :: st)) hst; omega) (k H locs ls hP hD hS hl0)
theorem k_putF {idx ci i h0 : Nat} {fs fs' : List Value} {v : Value} {t : FieldType} {w : va_W} (C : kCx p s m args c cc nL own G A) (hin : meth.name = "<init>") (hd : decode cc pc = .ok (.putfield idx, 3)) (hf : mFf own idx ci i t) (hn : narrow t v = v) (hfit : fits t v = true) (hl : i < fs.length) (hfs : fs.set i v = fs') (k : Kt p l e R s m args below meth c G nL kk nn Q A ((h0, .inr (ci, fs')) :: w) L (pc + 3) st) : Kt p l e R s m args below meth c G nL kk nn Q A ((h0, .inr (ci, fs)) :: w) L pc (v :: .ref h0 :: st) := by
  intro H locs ls hP hD hS hl0
  obtain ⟨C0, T, N, ty, ⟨c1, c2, c3, c4⟩, h2, h3, h4, h5, h6⟩ := hf
  subst hfs
  exact va_putF (D := mD G) (v := v) (ty := t) C.1 C.2.1 (Ts := gd) C.2.2.2.2.1 c2 ty c3 c4 C.2.2.2.1 C.2.2.2.2.2.1.1.1 hP hD hS 0 rfl c1 i h2 (C.2.2.2.2.1 _ h3) (fun _ h => h) h4 hin h5 h6 hn hfit hl hd (fun H1 locs1 hP1 hD1 hS1 => k H1 locs1 ls hP1 hD1 hS1 hl0)
theorem k_put {idx ci i h0 : Nat} {fs fs' : List Value} {v : Value} {t : FieldType} {w : va_W} (C : kCx p s m args c cc nL own G A) (hd : decode cc pc = .ok (.putfield idx, 3)) (hf : mFi own idx ci i t) (hn : narrow t v = v) (hfit : fits t v = true) (hl : i < fs.length) (hfs : fs.set i v = fs') (k : Kt p l e R s m args below meth c G nL kk nn Q A ((h0, .inr (ci, fs')) :: w) L (pc + 3) st) : Kt p l e R s m args below meth c G nL kk nn Q A ((h0, .inr (ci, fs)) :: w) L pc (v :: .ref h0 :: st) := by
  intro H locs ls hP hD hS hl0
  obtain ⟨C0, T, N, ty, ⟨c1, c2, c3, c4⟩, h2, h3, h4, h5⟩ := hf
  subst hfs
  exact va_put (D := mD G) (v := v) (ty := t) C.1 C.2.1 (Ts := gd) C.2.2.2.2.1 c2 ty c3 c4 C.2.2.2.1 C.2.2.2.2.2.1.1.1 hP hD hS 0 rfl c1 i h2 (C.2.2.2.2.1 _ h3) (fun _ h => h) h4 h5 hn hfit hl hd (fun H1 locs1 hP1 hD1 hS1 => k H1 locs1 ls hP1 hD1 hS1 hl0)
theorem k_get {idx ci i h0 : Nat} {fs : List Value} {v : Value} {w : va_W} (C : kCx p s m args c cc nL own G A) (hd : decode cc pc = .ok (.getfield idx, 3)) (hf : mFl own idx ci i) (hv : fs[i]? = some v) (k : Kt p l e R s m args below meth c G nL kk nn Q A ((h0, .inr (ci, fs)) :: w) L (pc + 3) (v :: st)) : Kt p l e R s m args below meth c G nL kk nn Q A ((h0, .inr (ci, fs)) :: w) L pc (.ref h0 :: st) := by
  intro H locs ls hP hD hS hl0
  obtain ⟨C0, T, N, ty, ⟨c1, c2, c3, c4⟩, h2, h3⟩ := hf
  exact va_get (D := mD G) (v := v) C.1 C.2.1 (Ts := gd) C.2.2.2.2.1 c2 C.2.2.2.1 C.2.2.2.2.2.1.1.1 hP 0 rfl c1 i h2 (C.2.2.2.2.1 _ h3) (fun _ h => h) hv hd (k H locs ls hP hD hS hl0)
theorem k_iast {q0 n a : Nat} {f : Nat → Int32} {i x : Int32} {ws' : va_W} (C : kCx p s m args c cc nL own G A) (hd : decode cc pc = .ok (.iastore, 1)) (ha : ws[q0]? = some (a, .inl (G.2.1.1, n, .inl f))) (hin : vp_in i n) (hw : ws.set q0 (a, .inl (G.2.1.1, n, .inl (upd f i.toNatClampNeg x))) = ws') (k : Kt p l e R s m args below meth c G nL kk nn Q A ws' L (pc + 1) st) : Kt p l e R s m args below meth c G nL kk nn Q A ws L pc (.int x :: .int i :: .ref a :: st) := by
  intro H locs ls hP hD hS hl0
  subst hw
  exact va_iast C.1 C.2.1 C.2.2.2.2.2.1.1.1 hP hD hS q0 0 ha rfl hin hd (fun H1 locs1 hP1 hD1 hS1 => k H1 locs1 ls hP1 hD1 hS1 hl0)
theorem k_aast {q0 qk n a v : Nat} {f : Nat → Option Nat} {vs : List Value} {i : Int32} {ws' : va_W} (C : kCx p s m args c cc nL own G A) (hd : decode cc pc = .ok (.aastore, 1)) (ha : ws[q0]? = some (a, .inl (G.2.1.2.1, n, .inr (.inr (.inr (.inr f)))))) (hv : ws[qk]? = some (v, .inr (6, vs))) (hin : vp_in i n) (hw : ws.set q0 (a, .inl (G.2.1.2.1, n, .inr (.inr (.inr (.inr (va_up f i.toNatClampNeg (some v))))))) = ws') (k : Kt p l e R s m args below meth c G nL kk nn Q A ws' L (pc + 1) st) : Kt p l e R s m args below meth c G nL kk nn Q A ws L pc (.ref v :: .int i :: .ref a :: st) := by
  intro H locs ls hP hD hS hl0
  subst hw
  exact va_astq C.1 C.2.1 C.2.2.2.2.2.1.1.1 hP hD hS q0 1 qk 6 (r := (RX6, TX6, 9)) ha rfl hv rfl hin hd (fun H1 locs1 hP1 hD1 hS1 => k H1 locs1 ls hP1 hD1 hS1 hl0)
theorem k_newi {n : Int32} {N : Nat} {x : Nat × va_E} {w : va_W} (C : kCx p s m args c cc nL own G A) (hd : decode cc pc = .ok (.newarray .int, 2)) (hn : ¬ n < 0) (hN : n.toNatClampNeg = N) (hb : N * 4 ≤ 536870912) (h1 : kk + 1 ≤ R.cells) (h2 : nn + N ≤ R.slots)
    (k : ∀ q : Nat, Kt p l e R s m args below meth c G nL (kk + 1) (nn + N) Q A (x :: (w ++ [(q, .inl (G.2.1.1, N, .inl (fun _ => 0)))])) L (pc + 2) (.ref q :: st)) : Kt p l e R s m args below meth c G nL kk nn Q A (x :: w) L pc (.int n :: st) := by
  intro H locs ls hP hD hS hl0
  refine va_newa C.1 C.2.1 (C.2.2.2.2.1 _ (gd_t 86 (by decide +kernel) rfl)) (ty := .int) rfl C.2.2.2.2.2.1.1.1 hP hD hS C.2.2.2.2.2.2 (a0 := (N, .inl (fun _ => 0))) (fun cA => by rw [vp_cell_i]; rfl) hn hN hb h1 h2 hd (fun q cA H1 hK1 hP1 hD1 hS1 => ?_)
  have e1 : s.vm.findClass ("[" ++ FieldType.int.toString) = some cA := (hK1.2 2 _ rfl).2
  have e2 : s.vm.findClass ("[" ++ FieldType.int.toString) = some G.2.1.1 := (C.2.2.2.2.2.1.1.1.2 0 _ rfl).2
  rw [e1] at e2
  cases e2
  exact k q H1 locs ls hP1 hD1 hS1 hl0
theorem k_newj {n : Int32} {N : Nat} {w : va_W} (C : kCx p s m args c cc nL own G A) (hd : decode cc pc = .ok (.newarray .int, 2)) (hn : ¬ n < 0) (hN : n.toNatClampNeg = N) (hb : N * 4 ≤ 536870912) (h1 : kk + 1 ≤ R.cells) (h2 : nn + N ≤ R.slots)
    (k : ∀ q : Nat, Kt p l e R s m args below meth c G nL (kk + 1) (nn + N) Q A (w ++ [(q, .inl (G.2.1.1, N, .inl (fun _ => 0)))]) L (pc + 2) (.ref q :: st)) : Kt p l e R s m args below meth c G nL kk nn Q A w L pc (.int n :: st) := by
  intro H locs ls hP hD hS hl0
  refine va_newa C.1 C.2.1 (C.2.2.2.2.1 _ (gd_t 86 (by decide +kernel) rfl)) (ty := .int) rfl C.2.2.2.2.2.1.1.1 hP hD hS C.2.2.2.2.2.2 (a0 := (N, .inl (fun _ => 0))) (fun cA => by rw [vp_cell_i]; rfl) hn hN hb h1 h2 hd (fun q cA H1 hK1 hP1 hD1 hS1 => ?_)
  have e1 : s.vm.findClass ("[" ++ FieldType.int.toString) = some cA := (hK1.2 2 _ rfl).2
  have e2 : s.vm.findClass ("[" ++ FieldType.int.toString) = some G.2.1.1 := (C.2.2.2.2.2.1.1.1.2 0 _ rfl).2
  rw [e1] at e2
  cases e2
  exact k q H1 locs ls hP1 hD1 hS1 hl0
theorem k_newr {idx N : Nat} {n : Int32} {x : Nat × va_E} {w : va_W} (C : kCx p s m args c cc nL own G A) (hd : decode cc pc = .ok (.anewarray idx, 3)) (hc : Cond.classLink own idx "HeatBranches$State" ∈ gd) (hn : ¬ n < 0) (hN : n.toNatClampNeg = N) (hb : N * 4 ≤ 536870912) (h1 : kk + 1 ≤ R.cells) (h2 : nn + N ≤ R.slots)
    (k : ∀ q : Nat, Kt p l e R s m args below meth c G nL (kk + 1) (nn + N) Q A (x :: (w ++ [(q, .inl (G.2.1.2.1, N, .inr (.inr (.inr (.inr (fun _ => none))))))])) L (pc + 3) (.ref q :: st)) : Kt p l e R s m args below meth c G nL kk nn Q A (x :: w) L pc (.int n :: st) := by
  intro H locs ls hP hD hS hl0
  refine va_newq C.1 C.2.1 C.2.2.2.1 (C.2.2.2.2.1 _ hc) C.2.2.2.2.2.1.2 C.2.2.2.2.2.1.1.1 hP hD hS C.2.2.2.2.2.2 hn hN hb h1 h2 hd (fun q cA H1 hK1 hP1 hD1 hS1 => ?_)
  obtain ⟨_, _, _, _, _, e1⟩ := (hK1.2 2 _ rfl).2
  obtain ⟨_, _, _, _, _, e2⟩ := (C.2.2.2.2.2.1.1.1.2 1 _ rfl).2
  have e3 := Option.some.inj (e1.symm.trans e2)
  subst e3
  exact k q H1 locs ls hP1 hD1 hS1 hl0
theorem k_new {idx ci N : Nat} {fs : List Value} {w : va_W} (C : kCx p s m args c cc nL own G A) (hd : decode cc pc = .ok (.new idx, 3)) (hf : mNw own idx ci fs) (hN : fs.length = N) (h1 : kk + 1 ≤ R.cells) (h2 : nn + N ≤ R.slots)
    (k : ∀ q : Nat, Kt p l e R s m args below meth c G nL (kk + 1) (nn + N) Q A (w ++ [(q, .inr (ci, fs))]) L (pc + 3) (.ref q :: st)) : Kt p l e R s m args below meth c G nL kk nn Q A w L pc st := by
  intro H locs ls hP hD hS hl0
  obtain ⟨C0, T, N0, ty, ⟨c1, c2, c3, c4⟩, g1, g2, g3, g4, g5⟩ := hf
  have hN0 : N0 = N := g1.symm.trans hN
  subst hN0
  exact va_new (D := mD G) C.1 C.2.1 (Ts := gd) C.2.2.2.2.1 c2 ty c3 C.2.2.2.1 (C.2.2.2.2.1 _ g2) (C.2.2.2.2.1 _ g3) (C.2.2.2.2.1 _ g4) C.2.2.2.2.2.1.1.1 hP hD hS C.2.2.2.2.2.2 c1 g5 h1 h2 hd (fun q H1 hP1 hD1 hS1 => k q H1 locs ls hP1 hD1 hS1 hl0)
theorem k_fix (C : kCx p s m args c cc nL own G A) : CallFix p m c cc nL s args gd own := ⟨C.1, C.2.1, C.2.2.1, C.2.2.2.1, C.2.2.2.2.1⟩
theorem k_sub {H : Heap} {locs : List Loc} {w : va_W} {q : Nat} {e0 : va_E} (C : kCx p s m args c cc nL own G A) (hD : va_D A (w ++ [(q, e0)])) (hS : va_S A s.heap H locs) : ∀ z, kA q H.size z → A z := by
  intro z hz
  rcases hz with rfl | hz
  · exact hD.2 w.length (_, e0) (by simp)
  · exact C.2.2.2.2.2.2 z (Nat.le_trans hS.1 hz)
theorem k_ps {H : Heap} {locs : List Loc} {w : va_W} {q ci : Nat} {fs : List Value} (C : kCx p s m args c cc nL own G A) (hP : va_P (mD G) vwC (w ++ [(q, .inr (ci, fs))]) H) (hD : va_D A (w ++ [(q, .inr (ci, fs))])) (hS : va_S A s.heap H locs) : PreS s H (kPc G H.size q ci fs) [.ref q] := by
  have hq : (w ++ [(q, (.inr (ci, fs) : va_E))])[w.length]? = some (q, .inr (ci, fs)) := by simp
  refine ⟨kPc_blind, fun U hU hW => ⟨rfl, by rw [hU], (hP _ _ hq).lt, ?_, ?_⟩⟩
  · rw [hU]
    intro k x hx
    have h1 := (List.getElem?_eq_some_iff.mp hx).1
    simp at h1
    subst h1
    simp at hx
    subst hx
    exact hP _ _ hq
  · rw [hU]
    exact (xS.call hW hS C.2.2.2.2.2.1).narrow (k_sub C hD hS)
theorem k_call {idx maxL d mc ms ci q : Nat} {y : MethodName} {bytes : ByteArray} {fs : List Value} {S : Type} {post : Nat → S → Prop} {w1 : S → va_W} {w : va_W} (C : kCx p s m args c cc nL own G A) (hd : decode cc pc = .ok (.invokespecial idx, 3)) (hs : mSc own idx y bytes maxL) (hM : mcK l G y bytes maxL d mc ms ci fs post w1) (hr1 : 1 + d + 1 ≤ R.frames) (hr2 : 8 + (maxL + 11) + (40 + 40 * d) ≤ R.locals) (hr : (st.map fun v => v.category).sum ≤ 8) (h1 : kk + mc ≤ R.cells) (h2 : nn + ms ≤ R.slots)
    (k : ∀ u : S, post q u → Kt p l e R s m args below meth c G nL (kk + mc) (nn + ms) Q A (w ++ w1 u) L (pc + 3) st) : Kt p l e R s m args below meth c G nL kk nn Q A (w ++ [(q, .inr (ci, fs))]) L pc (.ref q :: st) := by
  intro H locs ls hP hD hS hl
  obtain ⟨⟨a1, a2, a3, a4, a5, a6, a7⟩, b1, b2⟩ := hs
  have ht := C.2.2.2.2.1
  refine va_callv (va_runI (As := []) (rest := st) (k_fix C) (hM H.size q) ⟨callB_of 0 ht (gd_in a3) rfl rfl rfl (ht _ a2) (ht _ a1) ⟨a4, a5, a6⟩ ⟨hr1, hr2⟩, b1, ht _ b2⟩ (k_ps C hP hD hS) rfl rfl hl.1 rfl (lv_room hr) hd ⟨h1, h2⟩) hS (fun z _ h => k_sub C hD hS z h) (k_sub C hD hS) (fun u t H1 locs1 ht hvm hw hB hz1 hk1 hS1 => ?_)
  rw [ht] at hB
  obtain ⟨hP2, hD2⟩ := k_join hP hD hk1 (k_sub C hD hS) hB.1 hB.2
  exact k u hw H1 locs1 ls hP2 hD2 hS1 hl
theorem k_callN {idx maxL d mc ms ci q : Nat} {y : MethodName} {host : String} {bytes : ByteArray} {fs : List Value} {S : Type} {post : Nat → S → Prop} {w1 : S → va_W} {w : va_W} (C : kCx p s m args c cc nL own G A) (hd : decode cc pc = .ok (.invokespecial idx, 3)) (hs : mScn own idx y host bytes maxL) (hM : mcK l G y bytes maxL d mc ms ci fs post w1) (hr1 : 1 + d + 1 ≤ R.frames) (hr2 : 8 + (maxL + 11) + (40 + 40 * d) ≤ R.locals) (hr : (st.map fun v => v.category).sum ≤ 8) (h1 : kk + mc ≤ R.cells) (h2 : nn + ms ≤ R.slots)
    (k : ∀ u : S, post q u → Kt p l e R s m args below meth c G nL (kk + mc) (nn + ms) Q A (w ++ w1 u) L (pc + 3) st) : Kt p l e R s m args below meth c G nL kk nn Q A (w ++ [(q, .inr (ci, fs))]) L pc (.ref q :: st) := by
  intro H locs ls hP hD hS hl
  obtain ⟨a1, a2, a3, a4, a5, a6, a7, a8, a9⟩ := hs
  have ht := C.2.2.2.2.1
  refine va_callv (va_runIN (As := []) (rest := st) (k_fix C) (hM H.size q) ⟨va_cnB 0 ht (gd_in a3) rfl rfl rfl (C.2.2.2.2.2.1.1.2.1 _ a1) (ht _ a2) ⟨a4, a5, a6⟩ ⟨hr1, hr2⟩, a8, ht _ a9⟩ (k_ps C hP hD hS) rfl rfl hl.1 rfl (lv_room hr) hd ⟨h1, h2⟩) hS (fun z _ h => k_sub C hD hS z h) (k_sub C hD hS) (fun u t H1 locs1 ht hvm hw hB hz1 hk1 hS1 => ?_)
  rw [ht] at hB
  obtain ⟨hP2, hD2⟩ := k_join hP hD hk1 (k_sub C hD hS) hB.1 hB.2
  exact k u hw H1 locs1 ls hP2 hD2 hS1 hl
/-- the world written another way -/
theorem k_as {ws' : va_W} (h : ws = ws') (k : Kt p l e R s m args below meth c G nL kk nn Q A ws' L pc st) : Kt p l e R s m args below meth c G nL kk nn Q A ws L pc st := h ▸ k
end KR
