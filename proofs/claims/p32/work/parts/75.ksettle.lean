/-! settle over the first 107 places: the rows of the memory once more, for the world that stands while the constructor of the class still runs -/
def KlayL : List LE := [
  (1, [7, 3, 17, 75, 77, 82, 88, 93, 99, 108]),
  (1, [6, 4, 13, 0, 0, 0, 0, 0, 0, 0]),
  (1, [3, 5, 6, 7, 8, 9, 10, 11, 12, 0]),
  (0, [16]),
  (0, [16]),
  (0, [16]),
  (0, [16]),
  (0, [16]),
  (0, [16]),
  (0, [16]),
  (0, [16]),
  (1, [0, 14, 15, 16, 0]),
  (0, [4]),
  (0, [4]),
  (0, [4]),
  (1, [1, 18, 0, 0]),
  (2, [17, 31, 45, 59]),
  (1, [6, 20, 29, 0, 0, 0, 0, 0, 0, 0]),
  (1, [3, 21, 22, 23, 24, 25, 26, 27, 28, 0]),
  (0, [16]),
  (0, [16]),
  (0, [16]),
  (0, [16]),
  (0, [16]),
  (0, [16]),
  (0, [16]),
  (0, [16]),
  (1, [0, 30, 31, 32, 0]),
  (0, [4]),
  (0, [4]),
  (0, [4]),
  (1, [6, 34, 43, 0, 0, 0, 0, 0, 0, 0]),
  (1, [3, 35, 36, 37, 38, 39, 40, 41, 42, 0]),
  (0, [16]),
  (0, [16]),
  (0, [16]),
  (0, [16]),
  (0, [16]),
  (0, [16]),
  (0, [16]),
  (0, [16]),
  (1, [0, 44, 45, 46, 0]),
  (0, [4]),
  (0, [4]),
  (0, [4]),
  (1, [6, 48, 57, 0, 0, 0, 0, 0, 0, 0]),
  (1, [3, 49, 50, 51, 52, 53, 54, 55, 56, 0]),
  (0, [16]),
  (0, [16]),
  (0, [16]),
  (0, [16]),
  (0, [16]),
  (0, [16]),
  (0, [16]),
  (0, [16]),
  (1, [0, 58, 59, 60, 0]),
  (0, [4]),
  (0, [4]),
  (0, [4]),
  (1, [6, 62, 71, 0, 0, 0, 0, 0, 0, 0]),
  (1, [3, 63, 64, 65, 66, 67, 68, 69, 70, 0]),
  (0, [16]),
  (0, [16]),
  (0, [16]),
  (0, [16]),
  (0, [16]),
  (0, [16]),
  (0, [16]),
  (0, [16]),
  (1, [0, 72, 73, 74, 0]),
  (0, [4]),
  (0, [4]),
  (0, [4]),
  (1, [4, 76, 0, 0, 0]),
  (0, [180]),
  (1, [2, 78, 79, 80, 81, 0, 0, 0]),
  (0, [16]),
  (0, [16]),
  (0, [16]),
  (0, [4]),
  (1, [5, 83, 84, 85, 86, 87, 0]),
  (0, [16]),
  (0, [16]),
  (0, [16]),
  (0, [16]),
  (0, [16]),
  (1, [2, 89, 90, 91, 92, 0, 0, 0]),
  (0, [16]),
  (0, [16]),
  (0, [16]),
  (0, [4]),
  (1, [5, 94, 95, 96, 97, 98, 0]),
  (0, [16]),
  (0, [16]),
  (0, [16]),
  (0, [16]),
  (0, [16]),
  (1, [3, 100, 101, 102, 103, 104, 105, 106, 107, 0]),
  (0, [16]),
  (0, [16]),
  (0, [16]),
  (0, [16]),
  (0, [16]),
  (0, [16]),
  (0, [16]),
  (0, [16]),
  (0, [16])]
def Klay (k : Nat) : LE := KlayL.getD k (0, [0])
theorem Klay_lt {k : Nat} (h : Klay k ≠ (0, [0])) : k < 107 := by
  rcases Nat.lt_or_ge k 107 with q | q
  · exact q
  · exact absurd (by
      unfold Klay
      rw [List.getD_eq_getElem?_getD, List.getElem?_eq_none (by rw [show KlayL.length = 107 from rfl]; exact q)]
      rfl) h
def KlayX (k : Nat) : LE := (KlayL ++ [(0, [3])]).getD k (0, [0])
theorem KlayX_of {k : Nat} (h : Klay k ≠ (0, [0])) : KlayX k = Klay k := by
  have hk := Klay_lt h
  unfold KlayX Klay
  rw [List.getD_eq_getElem?_getD, List.getD_eq_getElem?_getD, List.getElem?_append_left (by rw [show KlayL.length = 107 from rfl]; exact hk)]
def Km_ct (G : mG) (M : Mem) (g : Glo) (k : Nat) : va_E := m_ctL G (M k) (g k) (KlayX k)
theorem Km_ctq {G : mG} {M : Mem} {g : Glo} {q : Nat} {le : LE} (hq : Klay q = le) (h : le ≠ (0, [0])) : Km_ct G M g q = m_ctL G (M q) (g q) le := by
  unfold Km_ct
  rw [KlayX_of (by rw [hq]; exact h), hq]
def KnP (_ : mG) : Nat := 107
theorem KnP_ge {G : mG} {k : Nat} (h : k < 107) : k < KnP G := h
def Km_ws (G : mG) (M : Mem) (g : Glo) : va_W := (List.range (KnP G)).map (fun k => (mA G k, Km_ct G M g k))
theorem Km_ws_at {G : mG} {M : Mem} {g : Glo} {k : Nat} (hk : k < KnP G) : (Km_ws G M g)[k]? = some (mA G k, Km_ct G M g k) := by
  simp [Km_ws, hk]
theorem Km_ws_inv {G : mG} {M : Mem} {g : Glo} {k : Nat} {q : Nat × va_E} (h : (Km_ws G M g)[k]? = some q) : k < KnP G ∧ q.1 = mA G k := by
  have hk : k < KnP G := by
    have := (List.getElem?_eq_some_iff.mp h).1
    simpa [Km_ws] using this
  rw [Km_ws_at hk] at h
  cases h
  exact ⟨hk, rfl⟩
theorem Km_ws_set {G : mG} {M M' : Mem} {g g' : Glo} {k : Nat} {e : va_E} (ho : ∀ q, q ≠ k → M' q = M q ∧ g' q = g q) (he : e = Km_ct G M' g' k) : (Km_ws G M g).set k (mA G k, e) = Km_ws G M' g' := by
  apply List.ext_getElem?
  intro i
  by_cases hi : i < KnP G
  · rw [List.getElem?_set, Km_ws_at hi, Km_ws_at hi]
    by_cases h : k = i
    · subst h
      simp [Km_ws, hi, he]
    · have := ho i (fun z => h z.symm)
      simp [h, Km_ct, this.1, this.2]
  · rw [List.getElem?_eq_none (by simp [Km_ws]; omega), List.getElem?_eq_none (by simp [Km_ws]; omega)]
def KmInj (G : mG) : Prop := ∀ i j : Nat, i < KnP G → j < KnP G → mA G i = mA G j → i = j
def KmAq (G : mG) (sz : Nat) : Nat → Prop := fun q => (∃ k, k < KnP G ∧ mA G k = q) ∨ sz ≤ q
theorem Km_D {G : mG} {M : Mem} {g : Glo} {sz : Nat} (h : KmInj G) : va_D (KmAq G sz) (Km_ws G M g) := by
  refine ⟨fun i j p q hp hq e => ?_, fun k q hq => ?_⟩
  · obtain ⟨a, b⟩ := Km_ws_inv hp
    obtain ⟨c, d⟩ := Km_ws_inv hq
    exact h i j a c (b ▸ d ▸ e)
  · obtain ⟨a, b⟩ := Km_ws_inv hq
    exact Or.inl ⟨k, a, b.symm⟩
/-- what the machine's tables and statics give, at a heap whose cells outside KmAq G sz stay -/
def KmS (G : mG) (sz : Nat) (U : State) (H : Heap) : Prop := va_K (mD G) vwC (mT G) U ∧ (∀ q ∈ nwL, va_Nw (.methodLinkNest q.1 q.2.1 q.2.2.1 q.2.2.2) U) ∧ vx_Zq Bundle.tN "UNASSIGNED_STACK" Bundle.steD (KmAq G sz) U H ∧ vx_Zq Bundle.tN "SUPPRESSED_SENTINEL" Bundle.listD (KmAq G sz) U H ∧ (∀ q ∈ strL, ∃ sa, vk_R q.1 q.2.1 q.2.2 sa U) ∧ (∀ q ∈ caL, va_Nw (.castable q.1 q.2) U) ∧ (∀ q ∈ deL, va_Nw (.declares q) U) ∧ (∀ q ∈ ncL, va_Nc q.1 q.2 U)
theorem KmS.same {G : mG} {sz : Nat} {u U : State} {H : Heap} (hv : u.vm = U.vm) (h : KmS G sz u H) : KmS G sz U H := by
  obtain ⟨h1, h2, h3, h4, h5, h6, h7, h8⟩ := h
  have ha : u.vm.Alike U.vm := by rw [hv]; exact Vm.Alike.refl _
  exact ⟨va_K.moved ha h1, fun q hq => va_Nw.same rfl hv (h2 q hq), h3.moved ha, h4.moved ha, fun q hq => (h5 q hq).imp fun _ z => vk_R.same hv.symm z, fun q hq => va_Nw.same rfl hv (h6 q hq), fun q hq => va_Nw.same rfl hv (h7 q hq), fun q hq => va_Nc.moved ha (h8 q hq)⟩
theorem KmAq_le {G : mG} {a b : Nat} (h : a ≤ b) {q : Nat} (hq : KmAq G b q) : KmAq G a q := hq.elim Or.inl (fun z => Or.inr (Nat.le_trans h z))
theorem KmS.call {G : mG} {s U : State} {H : Heap} {locs : List Loc} (hW : s.WarmedH U.vm) (hS : va_S (KmAq G s.heap.size) s.heap H locs) (h : KmS G s.heap.size s s.heap) : KmS G H.size U H := by
  obtain ⟨h1, h2, h3, h4, h5, h6, h7, h8⟩ := h
  exact ⟨va_K.moved hW.alike h1, fun q hq => va_Nw.warmM hW (h2 q hq), ((h3.moved hW.alike).kept hS.2.1).narrow (fun q hq => KmAq_le hS.1 hq), ((h4.moved hW.alike).kept hS.2.1).narrow (fun q hq => KmAq_le hS.1 hq), fun q hq => (h5 q hq).imp fun _ z => vk_R.warm hW z, fun q hq => va_Nw.warmC hW (h6 q hq), fun q hq => va_Nw.warmD hW (h7 q hq), fun q hq => va_Nc.moved hW.alike (h8 q hq)⟩
def KmCx (p : Program) (s : State) (m : MethodId) (args : Array Value) (c : Code) (cc : ByteArray) (nL : Nat) (own : String) (G : mG) : Prop :=
  p.tables.exec = Jvm.exec ∧ c.code = cc ∧ c.maxLocals = nL ∧ s.vm.findClass own = some m.cls ∧ (∀ w ∈ gd, w.before args s = true) ∧ KmS G s.heap.size s s.heap ∧ KmInj G
/-- the machine at pc with the locals L, the stack st, the memory (M, g) -/
def KAt (p : Program) (l : Launch) (e : Env) (R : Room) (s : State) (m : MethodId) (args : Array Value) (below : List Frame) (meth : Method) (c : Code) (G : mG) (nL k n : Nat) (Q : State → Prop) (M : Mem) (g : Glo) (L : List (Nat × Value)) (pc : Nat) (st : List Value) : Prop :=
  ∀ (H : Heap) (locs : List Loc) (ls : Array Slot), va_P (mD G) vwC (Km_ws G M g) H → va_S (KmAq G s.heap.size) s.heap H locs → lv_has ls nL L → W p l e R s m args below meth c H locs k n Q (F0 m pc ls st)
section
variable {p : Program} {l : Launch} {e : Env} {R : Room} {s : State} {m : MethodId} {args : Array Value} {below : List Frame} {meth : Method} {c : Code} {G : mG} {nL kk nn : Nat} {Q : State → Prop} {M : Mem} {g : Glo} {L : List (Nat × Value)} {pc : Nat} {st : List Value} {cc : ByteArray} {own : String}
theorem Kr_iconst {v : Int32} {n : Int} (C : KmCx p s m args c cc nL own G) (hd : decode cc pc = .ok (.iconst n, 1)) (hv : Int32.ofInt n = v) (k : KAt p l e R s m args below meth c G nL kk nn Q M g L (pc + 1) (.int v :: st)) : KAt p l e R s m args below meth c G nL kk nn Q M g L pc st :=
  fun H locs ls hP hS hl => lv_iconst C.1 C.2.1 hd hv (k H locs ls hP hS hl)
theorem Kr_sipush {v : Int32} {n : Int} (C : KmCx p s m args c cc nL own G) (hd : decode cc pc = .ok (.sipush n, 3)) (hv : (Int16.ofInt n).toInt32 = v) (k : KAt p l e R s m args below meth c G nL kk nn Q M g L (pc + 3) (.int v :: st)) : KAt p l e R s m args below meth c G nL kk nn Q M g L pc st :=
  fun H locs ls hP hS hl => lv_sipush C.1 C.2.1 hd hv (k H locs ls hP hS hl)
theorem Kr_iload_n {k0 : Fin 4} {x : Int32} (C : KmCx p s m args c cc nL own G) (hd : decode cc pc = .ok (.iload_n k0, 1)) (i : Nat) (hl0 : L[i]? = some ((k0 : Nat), .int x)) (k : KAt p l e R s m args below meth c G nL kk nn Q M g L (pc + 1) (.int x :: st)) : KAt p l e R s m args below meth c G nL kk nn Q M g L pc st :=
  fun H locs ls hP hS hl => lv_iload_n C.1 C.2.1 hd rfl (lv_at hl i hl0) (k H locs ls hP hS hl)
theorem Kr_iload {k0 : Nat} {x : Int32} (C : KmCx p s m args c cc nL own G) (hd : decode cc pc = .ok (.iload k0, 2)) (i : Nat) (hl0 : L[i]? = some (k0, .int x)) (k : KAt p l e R s m args below meth c G nL kk nn Q M g L (pc + 2) (.int x :: st)) : KAt p l e R s m args below meth c G nL kk nn Q M g L pc st :=
  fun H locs ls hP hS hl => lv_iload C.1 C.2.1 hd (lv_at hl i hl0) (k H locs ls hP hS hl)
theorem Kr_aload_n {k0 : Fin 4} {x : Nat} (C : KmCx p s m args c cc nL own G) (hd : decode cc pc = .ok (.aload_n k0, 1)) (i : Nat) (hl0 : L[i]? = some ((k0 : Nat), .ref x)) (k : KAt p l e R s m args below meth c G nL kk nn Q M g L (pc + 1) (.ref x :: st)) : KAt p l e R s m args below meth c G nL kk nn Q M g L pc st :=
  fun H locs ls hP hS hl => lv_aload_n C.1 C.2.1 hd rfl (lv_at hl i hl0) (k H locs ls hP hS hl)
theorem Kr_istore_n {k0 : Fin 4} {x : Int32} {L' : List (Nat × Value)} (C : KmCx p s m args c cc nL own G) (hd : decode cc pc = .ok (.istore_n k0, 1)) (hn : (k0 : Nat) < nL) (hL : ((k0 : Nat), Value.int x) :: L.filter (fun q => !(q.1 == (k0 : Nat)) && !(q.1 + 1 == (k0 : Nat) && q.2.category == 2)) = L') (k : KAt p l e R s m args below meth c G nL kk nn Q M g L' (pc + 1) st) : KAt p l e R s m args below meth c G nL kk nn Q M g L pc (.int x :: st) :=
  fun H locs ls hP hS hl => lv_istore_n C.1 C.2.1 hd rfl hl hn hL (fun ls hl => k H locs ls hP hS hl)
theorem Kr_istore {k0 : Nat} {x : Int32} {L' : List (Nat × Value)} (C : KmCx p s m args c cc nL own G) (hd : decode cc pc = .ok (.istore k0, 2)) (hn : k0 < nL) (hL : (k0, Value.int x) :: L.filter (fun q => !(q.1 == k0) && !(q.1 + 1 == k0 && q.2.category == 2)) = L') (k : KAt p l e R s m args below meth c G nL kk nn Q M g L' (pc + 2) st) : KAt p l e R s m args below meth c G nL kk nn Q M g L pc (.int x :: st) :=
  fun H locs ls hP hS hl => lv_istore C.1 C.2.1 hd hl hn hL (fun ls hl => k H locs ls hP hS hl)
theorem Kr_astore_n {k0 : Fin 4} {x : Nat} {L' : List (Nat × Value)} (C : KmCx p s m args c cc nL own G) (hd : decode cc pc = .ok (.astore_n k0, 1)) (hn : (k0 : Nat) < nL) (hL : ((k0 : Nat), Value.ref x) :: L.filter (fun q => !(q.1 == (k0 : Nat)) && !(q.1 + 1 == (k0 : Nat) && q.2.category == 2)) = L') (k : KAt p l e R s m args below meth c G nL kk nn Q M g L' (pc + 1) st) : KAt p l e R s m args below meth c G nL kk nn Q M g L pc (.ref x :: st) :=
  fun H locs ls hP hS hl => lv_astore_n C.1 C.2.1 hd rfl hl hn hL (fun ls hl => k H locs ls hP hS hl)
theorem Kr_iinc {k0 : Nat} {n : Int} {x v : Int32} {L' : List (Nat × Value)} (C : KmCx p s m args c cc nL own G) (hd : decode cc pc = .ok (.iinc k0 n, 3)) (i : Nat) (hl0 : L[i]? = some (k0, .int x)) (hv : x + Int32.ofInt n = v) (hn : k0 < nL) (hL : (k0, Value.int v) :: L.filter (fun q => !(q.1 == k0) && !(q.1 + 1 == k0 && q.2.category == 2)) = L') (k : KAt p l e R s m args below meth c G nL kk nn Q M g L' (pc + 3) st) : KAt p l e R s m args below meth c G nL kk nn Q M g L pc st :=
  fun H locs ls hP hS hl => lv_iinc C.1 C.2.1 hd hl hl0 hv hn hL (fun ls hl => k H locs ls hP hS hl)
theorem Kr_sub {L' : List (Nat × Value)} (ks : List Nat) (h : lv_pick L ks = L') (k : KAt p l e R s m args below meth c G nL kk nn Q M g L' pc st) : KAt p l e R s m args below meth c G nL kk nn Q M g L pc st :=
  fun H locs ls hP hS hl => k H locs ls hP hS (lv_sub hl ks h)
theorem Kr_iadd {x y : Int32} (C : KmCx p s m args c cc nL own G) (hd : decode cc pc = .ok (.iadd, 1)) (k : KAt p l e R s m args below meth c G nL kk nn Q M g L (pc + 1) (.int (x + y) :: st)) : KAt p l e R s m args below meth c G nL kk nn Q M g L pc (.int y :: .int x :: st) :=
  fun H locs ls hP hS hl => lv_iadd C.1 C.2.1 hd (k H locs ls hP hS hl)
theorem Kr_isub {x y : Int32} (C : KmCx p s m args c cc nL own G) (hd : decode cc pc = .ok (.isub, 1)) (k : KAt p l e R s m args below meth c G nL kk nn Q M g L (pc + 1) (.int (x - y) :: st)) : KAt p l e R s m args below meth c G nL kk nn Q M g L pc (.int y :: .int x :: st) :=
  fun H locs ls hP hS hl => lv_isub C.1 C.2.1 hd (k H locs ls hP hS hl)
theorem Kr_imul {x y : Int32} (C : KmCx p s m args c cc nL own G) (hd : decode cc pc = .ok (.imul, 1)) (k : KAt p l e R s m args below meth c G nL kk nn Q M g L (pc + 1) (.int (x * y) :: st)) : KAt p l e R s m args below meth c G nL kk nn Q M g L pc (.int y :: .int x :: st) :=
  fun H locs ls hP hS hl => lv_imul C.1 C.2.1 hd (k H locs ls hP hS hl)
theorem Kr_idiv {x y : Int32} (C : KmCx p s m args c cc nL own G) (hd : decode cc pc = .ok (.idiv, 1)) (hy : ¬ y = 0) (k : KAt p l e R s m args below meth c G nL kk nn Q M g L (pc + 1) (.int (x / y) :: st)) : KAt p l e R s m args below meth c G nL kk nn Q M g L pc (.int y :: .int x :: st) :=
  fun H locs ls hP hS hl => lv_idiv C.1 C.2.1 hd hy (k H locs ls hP hS hl)
theorem Kr_valI {x y : Int32} (h : x = y) (k : KAt p l e R s m args below meth c G nL kk nn Q M g L pc (.int y :: st)) : KAt p l e R s m args below meth c G nL kk nn Q M g L pc (.int x :: st) := h ▸ k
theorem Kr_mem {M' : Mem} (h : M = M') (k : KAt p l e R s m args below meth c G nL kk nn Q M' g L pc st) : KAt p l e R s m args below meth c G nL kk nn Q M g L pc st := h ▸ k
theorem Kr_dup {v : Value} (C : KmCx p s m args c cc nL own G) (hd : decode cc pc = .ok (.dup, 1)) (hv : v.category = 1) (k : KAt p l e R s m args below meth c G nL kk nn Q M g L (pc + 1) (v :: v :: st)) : KAt p l e R s m args below meth c G nL kk nn Q M g L pc (v :: st) :=
  fun H locs ls hP hS hl => lv_dup C.1 C.2.1 hd hv (k H locs ls hP hS hl)
theorem Kr_dup2 {v w : Value} (C : KmCx p s m args c cc nL own G) (hd : decode cc pc = .ok (.dup2, 1)) (hv : v.category = 1) (hw : w.category = 1) (k : KAt p l e R s m args below meth c G nL kk nn Q M g L (pc + 1) (v :: w :: v :: w :: st)) : KAt p l e R s m args below meth c G nL kk nn Q M g L pc (v :: w :: st) :=
  fun H locs ls hP hS hl => lv_dup2_11 C.1 C.2.1 hd hv hw (k H locs ls hP hS hl)
theorem Kr_goto {off : Int} {tgt : Nat} (C : KmCx p s m args c cc nL own G) (hd : decode cc pc = .ok (.goto off, 3)) (ht : (pc : Int) + off = (tgt : Int)) (k : KAt p l e R s m args below meth c G nL kk nn Q M g L tgt st) : KAt p l e R s m args below meth c G nL kk nn Q M g L pc st :=
  fun H locs ls hP hS hl => lv_goto C.1 C.2.1 hd ht (k H locs ls hP hS hl)
theorem Kr_if_eq {x : Int32} {off : Int} {tgt : Nat} (C : KmCx p s m args c cc nL own G) (hd : decode cc pc = .ok (.ifCond .eq off, 3)) (ht : (pc : Int) + off = (tgt : Int)) (k1 : x = 0 → KAt p l e R s m args below meth c G nL kk nn Q M g L tgt st) (k2 : ¬ x = 0 → KAt p l e R s m args below meth c G nL kk nn Q M g L (pc + 3) st) : KAt p l e R s m args below meth c G nL kk nn Q M g L pc (.int x :: st) :=
  fun H locs ls hP hS hl => lv_if_eq C.1 C.2.1 hd ht (fun q => k1 q H locs ls hP hS hl) (fun q => k2 q H locs ls hP hS hl)
theorem Kr_if_ne {x : Int32} {off : Int} {tgt : Nat} (C : KmCx p s m args c cc nL own G) (hd : decode cc pc = .ok (.ifCond .ne off, 3)) (ht : (pc : Int) + off = (tgt : Int)) (k1 : ¬ x = 0 → KAt p l e R s m args below meth c G nL kk nn Q M g L tgt st) (k2 : x = 0 → KAt p l e R s m args below meth c G nL kk nn Q M g L (pc + 3) st) : KAt p l e R s m args below meth c G nL kk nn Q M g L pc (.int x :: st) :=
  fun H locs ls hP hS hl => lv_if_ne C.1 C.2.1 hd ht (fun q => k1 q H locs ls hP hS hl) (fun q => k2 q H locs ls hP hS hl)
theorem Kr_icmp_ne {x y : Int32} {off : Int} {tgt : Nat} (C : KmCx p s m args c cc nL own G) (hd : decode cc pc = .ok (.if_icmp .ne off, 3)) (ht : (pc : Int) + off = (tgt : Int)) (k1 : ¬ x = y → KAt p l e R s m args below meth c G nL kk nn Q M g L tgt st) (k2 : x = y → KAt p l e R s m args below meth c G nL kk nn Q M g L (pc + 3) st) : KAt p l e R s m args below meth c G nL kk nn Q M g L pc (.int y :: .int x :: st) :=
  fun H locs ls hP hS hl => lv_icmp_ne C.1 C.2.1 hd ht (fun q => k1 q H locs ls hP hS hl) (fun q => k2 q H locs ls hP hS hl)
theorem Kr_if_lt {x : Int32} {off : Int} {tgt : Nat} (C : KmCx p s m args c cc nL own G) (hd : decode cc pc = .ok (.ifCond .lt off, 3)) (ht : (pc : Int) + off = (tgt : Int)) (k1 : x < 0 → KAt p l e R s m args below meth c G nL kk nn Q M g L tgt st) (k2 : ¬ x < 0 → KAt p l e R s m args below meth c G nL kk nn Q M g L (pc + 3) st) : KAt p l e R s m args below meth c G nL kk nn Q M g L pc (.int x :: st) :=
  fun H locs ls hP hS hl => lv_if_lt C.1 C.2.1 hd ht (fun q => k1 q H locs ls hP hS hl) (fun q => k2 q H locs ls hP hS hl)
theorem Kr_icmp_lt {x y : Int32} {off : Int} {tgt : Nat} (C : KmCx p s m args c cc nL own G) (hd : decode cc pc = .ok (.if_icmp .lt off, 3)) (ht : (pc : Int) + off = (tgt : Int)) (k1 : x < y → KAt p l e R s m args below meth c G nL kk nn Q M g L tgt st) (k2 : ¬ x < y → KAt p l e R s m args below meth c G nL kk nn Q M g L (pc + 3) st) : KAt p l e R s m args below meth c G nL kk nn Q M g L pc (.int y :: .int x :: st) :=
  fun H locs ls hP hS hl => lv_icmp_lt C.1 C.2.1 hd ht (fun q => k1 q H locs ls hP hS hl) (fun q => k2 q H locs ls hP hS hl)
theorem Kr_icmp_ge {x y : Int32} {off : Int} {tgt : Nat} (C : KmCx p s m args c cc nL own G) (hd : decode cc pc = .ok (.if_icmp .ge off, 3)) (ht : (pc : Int) + off = (tgt : Int)) (k1 : y ≤ x → KAt p l e R s m args below meth c G nL kk nn Q M g L tgt st) (k2 : ¬ y ≤ x → KAt p l e R s m args below meth c G nL kk nn Q M g L (pc + 3) st) : KAt p l e R s m args below meth c G nL kk nn Q M g L pc (.int y :: .int x :: st) :=
  fun H locs ls hP hS hl => lv_icmp_ge C.1 C.2.1 hd ht (fun q => k1 q H locs ls hP hS hl) (fun q => k2 q H locs ls hP hS hl)
theorem Kr_if_gt {x : Int32} {off : Int} {tgt : Nat} (C : KmCx p s m args c cc nL own G) (hd : decode cc pc = .ok (.ifCond .gt off, 3)) (ht : (pc : Int) + off = (tgt : Int)) (k1 : 0 < x → KAt p l e R s m args below meth c G nL kk nn Q M g L tgt st) (k2 : ¬ 0 < x → KAt p l e R s m args below meth c G nL kk nn Q M g L (pc + 3) st) : KAt p l e R s m args below meth c G nL kk nn Q M g L pc (.int x :: st) :=
  fun H locs ls hP hS hl => lv_if_gt C.1 C.2.1 hd ht (fun q => k1 q H locs ls hP hS hl) (fun q => k2 q H locs ls hP hS hl)
theorem Kr_icmp_gt {x y : Int32} {off : Int} {tgt : Nat} (C : KmCx p s m args c cc nL own G) (hd : decode cc pc = .ok (.if_icmp .gt off, 3)) (ht : (pc : Int) + off = (tgt : Int)) (k1 : y < x → KAt p l e R s m args below meth c G nL kk nn Q M g L tgt st) (k2 : ¬ y < x → KAt p l e R s m args below meth c G nL kk nn Q M g L (pc + 3) st) : KAt p l e R s m args below meth c G nL kk nn Q M g L pc (.int y :: .int x :: st) :=
  fun H locs ls hP hS hl => lv_icmp_gt C.1 C.2.1 hd ht (fun q => k1 q H locs ls hP hS hl) (fun q => k2 q H locs ls hP hS hl)
theorem Kr_if_le {x : Int32} {off : Int} {tgt : Nat} (C : KmCx p s m args c cc nL own G) (hd : decode cc pc = .ok (.ifCond .le off, 3)) (ht : (pc : Int) + off = (tgt : Int)) (k1 : x ≤ 0 → KAt p l e R s m args below meth c G nL kk nn Q M g L tgt st) (k2 : ¬ x ≤ 0 → KAt p l e R s m args below meth c G nL kk nn Q M g L (pc + 3) st) : KAt p l e R s m args below meth c G nL kk nn Q M g L pc (.int x :: st) :=
  fun H locs ls hP hS hl => lv_if_le C.1 C.2.1 hd ht (fun q => k1 q H locs ls hP hS hl) (fun q => k2 q H locs ls hP hS hl)
theorem Km_obj {G : mG} {M : Mem} {g : Glo} {q ci : Nat} {fs : List Nat} (hq : Klay q = (1, ci :: fs)) : (Km_ws G M g)[q]? = some (mA G q, .inr (ci, m_fs (mA G) (M q) (g q) 0 fs)) := by
  have h := Km_ws_at (G := G) (M := M) (g := g) (KnP_ge (Klay_lt (k := q) (by rw [hq]; intro h; cases h)))
  rw [h]
  rw [Km_ctq hq (by simp)]; simp only [m_ctL]
theorem Km_arr {G : mG} {M : Mem} {g : Glo} {q n : Nat} (hq : Klay q = (0, [n])) (hn : n ≠ 0) : (Km_ws G M g)[q]? = some (mA G q, .inl (G.2.1.1, n, .inl (M q))) := by
  have h := Km_ws_at (G := G) (M := M) (g := g) (KnP_ge (Klay_lt (k := q) (by rw [hq]; intro h; injection h with _ h2; injection h2 with h3; exact hn h3)))
  rw [h]
  rw [Km_ctq hq (by simpa using hn)]; simp only [m_ctL]
theorem Km_ct_set {G : mG} {M : Mem} {g : Glo} {q i : Nat} {x : Int32} {e : va_E} (he : e = Km_ct G (mset M q i x) g q) : (Km_ws G M g).set q (mA G q, e) = Km_ws G (mset M q i x) g :=
  Km_ws_set (fun z hz => ⟨by simp [mset, hz], rfl⟩) he
theorem Kr_geti {q ci : Nat} {fs : List Nat} {idx : Nat} (C : KmCx p s m args c cc nL own G) (hd : decode cc pc = .ok (.getfield idx, 3)) (i : Nat) (hf : mFl own idx ci i) (hq : Klay q = (1, ci :: fs)) (hi : fs[i]? = some 0) (k : KAt p l e R s m args below meth c G nL kk nn Q M g L (pc + 3) (.int (M q i) :: st)) : KAt p l e R s m args below meth c G nL kk nn Q M g L pc (.ref (mA G q) :: st) := by
  intro H locs ls hP hS hl
  obtain ⟨C0, T, N, ty, ⟨c1, c2, c3, c4⟩, h2, h3⟩ := hf
  have hv := m_fs_int (mA G) (M q) (g q) fs 0 i hi
  rw [Nat.zero_add] at hv
  exact va_get (D := mD G) (v := .int (M q i)) C.1 C.2.1 (Ts := gd) C.2.2.2.2.1 c2 C.2.2.2.1 C.2.2.2.2.2.1.1 hP q (Km_obj hq) c1 i h2 (C.2.2.2.2.1 _ h3) (fun _ h => h) hv hd (k H locs ls hP hS hl)
theorem Kr_getr {q ci q2 : Nat} {fs : List Nat} {idx : Nat} (C : KmCx p s m args c cc nL own G) (hd : decode cc pc = .ok (.getfield idx, 3)) (i : Nat) (hf : mFl own idx ci i) (hq : Klay q = (1, ci :: fs)) (hi : fs[i]? = some (q2 + 2)) (k : KAt p l e R s m args below meth c G nL kk nn Q M g L (pc + 3) (.ref (mA G q2) :: st)) : KAt p l e R s m args below meth c G nL kk nn Q M g L pc (.ref (mA G q) :: st) := by
  intro H locs ls hP hS hl
  obtain ⟨C0, T, N, ty, ⟨c1, c2, c3, c4⟩, h2, h3⟩ := hf
  exact va_get (D := mD G) (v := .ref (mA G q2)) C.1 C.2.1 (Ts := gd) C.2.2.2.2.1 c2 C.2.2.2.1 C.2.2.2.2.2.1.1 hP q (Km_obj hq) c1 i h2 (C.2.2.2.2.1 _ h3) (fun _ h => h) (m_fs_ref (mA G) (M q) (g q) fs 0 i hi) hd (k H locs ls hP hS hl)
theorem Kr_puti {q ci : Nat} {fs : List Nat} {idx : Nat} {x : Int32} (C : KmCx p s m args c cc nL own G) (hd : decode cc pc = .ok (.putfield idx, 3)) (i : Nat) (hf : mFi own idx ci i .int) (hq : Klay q = (1, ci :: fs)) (hi : fs[i]? = some 0) (k : KAt p l e R s m args below meth c G nL kk nn Q (mset M q i x) g L (pc + 3) st) : KAt p l e R s m args below meth c G nL kk nn Q M g L pc (.int x :: .ref (mA G q) :: st) := by
  intro H locs ls hP hS hl
  obtain ⟨C0, T, N, ty, ⟨c1, c2, c3, c4⟩, h2, h3, h4, h5⟩ := hf
  refine va_put (D := mD G) (v := .int x) (ty := .int) C.1 C.2.1 (Ts := gd) C.2.2.2.2.1 c2 ty c3 c4 C.2.2.2.1 C.2.2.2.2.2.1.1 hP (Km_D C.2.2.2.2.2.2) hS q (Km_obj hq) c1 i h2 (C.2.2.2.2.1 _ h3) (fun _ h => h) h4 h5 rfl rfl (by rw [m_fs_len]; exact (List.getElem?_eq_some_iff.mp hi).1) hd (fun H locs hP _ hS => ?_)
  refine k H locs ls ?_ hS hl
  rw [← Km_ct_set (G := G) (M := M) (g := g) (q := q) (i := i) (x := x) (e := .inr (ci, (m_fs (mA G) (M q) (g q) 0 fs).set i (.int x)))]
  · exact hP
  · rw [Km_ctq hq (by simp)]; simp only [m_ctL]
    rw [m_fs_set (mA G) (M q) (g q) x fs 0 i hi, Nat.zero_add]
    simp [mset]
theorem Kr_iald {q n : Nat} {i : Int32} (C : KmCx p s m args c cc nL own G) (hd : decode cc pc = .ok (.iaload, 1)) (hq : Klay q = (0, [n])) (hin : vp_in i n) (k : KAt p l e R s m args below meth c G nL kk nn Q M g L (pc + 1) (.int (M q i.toNatClampNeg) :: st)) : KAt p l e R s m args below meth c G nL kk nn Q M g L pc (.int i :: .ref (mA G q) :: st) :=
  fun H locs ls hP hS hl => va_iald (D := mD G) C.1 C.2.1 C.2.2.2.2.2.1.1 hP q 0 (Km_arr hq (vp_in_ne hin)) rfl hin hd (k H locs ls hP hS hl)
theorem Kr_ialdN {q n j : Nat} {i v : Int32} (C : KmCx p s m args c cc nL own G) (hd : decode cc pc = .ok (.iaload, 1)) (hq : Klay q = (0, [n])) (hi : i = nI j) (hj : j < n) (hn : n < 2 ^ 31) (hv : M q j = v) (k : KAt p l e R s m args below meth c G nL kk nn Q M g L (pc + 1) (.int v :: st)) : KAt p l e R s m args below meth c G nL kk nn Q M g L pc (.int i :: .ref (mA G q) :: st) := by
  subst hi
  refine Kr_iald C hd hq (vp_in_nI hj hn) ?_
  rw [nI_clamp (by omega), hv]
  exact k
theorem Kr_iast {q n : Nat} {i x : Int32} (C : KmCx p s m args c cc nL own G) (hd : decode cc pc = .ok (.iastore, 1)) (hq : Klay q = (0, [n])) (hin : vp_in i n) (k : KAt p l e R s m args below meth c G nL kk nn Q (mset M q i.toNatClampNeg x) g L (pc + 1) st) : KAt p l e R s m args below meth c G nL kk nn Q M g L pc (.int x :: .int i :: .ref (mA G q) :: st) := by
  intro H locs ls hP hS hl
  refine va_iast (D := mD G) C.1 C.2.1 C.2.2.2.2.2.1.1 hP (Km_D C.2.2.2.2.2.2) hS q 0 (Km_arr hq (vp_in_ne hin)) rfl hin hd (fun H locs hP _ hS => ?_)
  refine k H locs ls ?_ hS hl
  rw [← Km_ct_set (G := G) (M := M) (g := g) (q := q) (i := i.toNatClampNeg) (x := x) (e := .inl (G.2.1.1, n, .inl (upd (M q) i.toNatClampNeg x)))]
  · exact hP
  · rw [Km_ctq hq (by simpa using vp_in_ne hin)]; simp only [m_ctL]
    simp [mset]
theorem Kr_iastN {q n j : Nat} {i x : Int32} (C : KmCx p s m args c cc nL own G) (hd : decode cc pc = .ok (.iastore, 1)) (hq : Klay q = (0, [n])) (hi : i = nI j) (hj : j < n) (hn : n < 2 ^ 31) (k : KAt p l e R s m args below meth c G nL kk nn Q (mset M q j x) g L (pc + 1) st) : KAt p l e R s m args below meth c G nL kk nn Q M g L pc (.int x :: .int i :: .ref (mA G q) :: st) := by
  subst hi
  refine Kr_iast C hd hq (vp_in_nI hj hn) ?_
  rw [nI_clamp (by omega)]
  exact k
theorem Kr_alen {q n : Nat} {v : Int32} (C : KmCx p s m args c cc nL own G) (hd : decode cc pc = .ok (.arraylength, 1)) (hq : Klay q = (0, [n])) (hn : n ≠ 0) (hv : Int32.ofNat n = v) (k : KAt p l e R s m args below meth c G nL kk nn Q M g L (pc + 1) (.int v :: st)) : KAt p l e R s m args below meth c G nL kk nn Q M g L pc (.ref (mA G q) :: st) :=
  fun H locs ls hP hS hl => va_alen (D := mD G) C.1 C.2.1 C.2.2.2.2.2.1.1 hP q 0 (Km_arr hq hn) (ty := .int) rfl hv hd (k H locs ls hP hS hl)
theorem Kr_min {x y v : Int32} {idx d mc ms : Nat} (C : KmCx p s m args c cc nL own G) (hd : decode cc pc = .ok (.invokestatic idx, 3)) (hm : mMath own idx Lib.Math.min.name Lib.Math.min.code 2) (hst : (st.map fun v => v.category).sum ≤ 8) (h1 : kk ≤ mc) (h2 : nn ≤ ms) (hv : (if y < x then y else x) = v) (k : KAt p l e (rmD d mc ms) s m args below meth c G nL kk nn Q M g L (pc + 3) (.int v :: st)) : KAt p l e (rmD d mc ms) s m args below meth c G nL kk nn Q M g L pc (.int y :: .int x :: st) := by
  intro H locs ls hP hS hl
  obtain ⟨a1, a2, a3, a4⟩ := hm
  subst hv
  have ht := C.2.2.2.2.1
  exact va_mmin C.1 C.2.1 (by rw [C.2.2.1]; exact hl.1.symm) C.2.2.2.1 (ht _ a1) (ht _ a2) (ht _ a3) (ht _ a4) (by show 1 ≤ 1 + d; omega) (by show _ ≤ 40 + 40 * d; omega) h1 h2 hd (k H locs ls hP hS hl)
theorem Kr_max {x y v : Int32} {idx d mc ms : Nat} (C : KmCx p s m args c cc nL own G) (hd : decode cc pc = .ok (.invokestatic idx, 3)) (hm : mMath own idx Lib.Math.max.name Lib.Math.max.code 2) (hst : (st.map fun v => v.category).sum ≤ 8) (h1 : kk ≤ mc) (h2 : nn ≤ ms) (hv : (if x < y then y else x) = v) (k : KAt p l e (rmD d mc ms) s m args below meth c G nL kk nn Q M g L (pc + 3) (.int v :: st)) : KAt p l e (rmD d mc ms) s m args below meth c G nL kk nn Q M g L pc (.int y :: .int x :: st) := by
  intro H locs ls hP hS hl
  obtain ⟨a1, a2, a3, a4⟩ := hm
  subst hv
  have ht := C.2.2.2.2.1
  exact va_mmax C.1 C.2.1 (by rw [C.2.2.1]; exact hl.1.symm) C.2.2.2.1 (ht _ a1) (ht _ a2) (ht _ a3) (ht _ a4) (by show 1 ≤ 1 + d; omega) (by show _ ≤ 40 + 40 * d; omega) h1 h2 hd (k H locs ls hP hS hl)
end
section
variable {p : Program} {l : Launch} {e : Env} {s : State} {m : MethodId} {args : Array Value} {below : List Frame} {meth : Method} {c : Code} {G : mG} {nL kk nn : Nat} {Q : State → Prop} {M : Mem} {g : Glo} {L : List (Nat × Value)} {pc : Nat} {st : List Value} {cc : ByteArray} {own : String}
def KmPc (G : mG) (sz : Nat) (vs : List Value) (M : Mem) (g : Glo) : Array Value → State → Prop := va_Pc vs (fun U => U.heap.size = sz ∧ va_P (mD G) vwC (Km_ws G M g) U.heap ∧ KmS G sz U U.heap)
theorem KmPc_blind {sz : Nat} {vs : List Value} : FrameBlind (KmPc G sz vs M g) := fun a U g9 mk q => ⟨q.1, q.2.1, q.2.2.1, KmS.same (u := U) (U := U.calling g9 mk a) rfl q.2.2.2⟩
theorem KmPc_pre {U : State} {H : Heap} {locs : List Loc} {vs : List Value} (C : KmCx p s m args c cc nL own G) (hP : va_P (mD G) vwC (Km_ws G M g) H) (hS : va_S (KmAq G s.heap.size) s.heap H locs) (hU : U.heap = H) (hW : s.WarmedH U.vm) : KmPc G H.size vs M g vs.toArray U := by
  subst hU
  exact ⟨rfl, rfl, hP, KmS.call hW hS C.2.2.2.2.2.1⟩
def KmB (G : mG) : Mem × Glo → State → Prop := fun u t => va_P (mD G) vwC (Km_ws G u.1 u.2) t.heap
/-- a method of ours that neither makes nor throws: its answer and the memory behind it -/
def KmcI (l : Launch) (G : mG) (y : MethodName) (cc : ByteArray) (nL : Nat) (ret : FieldType) (d : Nat) (vs : List Value) (M : Mem) (g : Glo) (post : Int32 → Mem → Glo → Prop) : Prop :=
  ∀ sz, Met l y (.code y cc nL (some ret) :: gd) (rmD d 0 0) (KmPc G sz vs M g) (va_Qi (fun r (u : Mem × Glo) => post r u.1 u.2) (KmB G) (KmAq G sz)) 0 0 (KmAq G sz)
def KmcV (l : Launch) (G : mG) (y : MethodName) (cc : ByteArray) (nL : Nat) (d : Nat) (vs : List Value) (M : Mem) (g : Glo) (post : Mem → Glo → Prop) : Prop :=
  ∀ sz, Met l y (.code y cc nL none :: gd) (rmD d 0 0) (KmPc G sz vs M g) (va_Qv (fun (u : Mem × Glo) => post u.1 u.2) (KmB G) (KmAq G sz)) 0 0 (KmAq G sz)
theorem KmcI_of {y : MethodName} {ret : FieldType} {d : Nat} {vs : List Value} {post : Int32 → Mem → Glo → Prop} {L0 : List (Nat × Value)} (hG : KmInj G) (hy : plainName y.cls = true) (hvs : (lg_sl vs).length ≤ nL) (hL : lv_args 0 vs = L0)
    (body : ∀ (p : Program) (e : Env) (s : State) (m : MethodId) (args : Array Value) (below : List Frame) (meth : Method) (c : Code) (Q : State → Prop), KmCx p s m args c cc nL y.cls G →
      (∀ (r : Int32) (M' : Mem) (g' : Glo) (L' : List (Nat × Value)) (pc : Nat), decode cc pc = .ok (.ireturn, 1) → narrow ret (.int r) = .int r → post r M' g' → KAt p l e (rmD d 0 0) s m args below meth c G nL 0 0 Q M' g' L' pc [.int r]) →
      KAt p l e (rmD d 0 0) s m args below meth c G nL 0 0 Q M g L0 0 []) : KmcI l G y cc nL ret d vs M g post := by
  intro sz
  refine Met.ofW (cc := cc) (maxL := nL) (ret := some ret) hy rfl ?_
  intro p e s m args below meth c s₁ B hml hv
  obtain ⟨rfl, hsz, hP, hS⟩ := hv
  subst hsz
  subst hL
  rw [lg_entry_eq]
  exact body p e s m _ below meth c _ ⟨B.exec, B.bytes, hml, findClass_of_methodNamed B.named, fun w hw => atoms_spec B.pre w (List.mem_cons_of_mem _ hw), hS, hG⟩
    (fun r M' g' L' pc hd hn hp H locs ls hP hS hl => W.zret B.exec B.bytes B.returns hn (fun t ht hW => ⟨⟨r, (M', g'), rfl, hp, by unfold KmB; rw [ht]; exact hP⟩, hS.F ht⟩) hS.2.2 hd B.notSynchronized)
    s.heap [] _ hP va_S.rf (lv_entry vs hvs)
theorem KmcV_of {y : MethodName} {d : Nat} {vs : List Value} {post : Mem → Glo → Prop} {L0 : List (Nat × Value)} (hG : KmInj G) (hy : plainName y.cls = true) (hvs : (lg_sl vs).length ≤ nL) (hL : lv_args 0 vs = L0)
    (body : ∀ (p : Program) (e : Env) (s : State) (m : MethodId) (args : Array Value) (below : List Frame) (meth : Method) (c : Code) (Q : State → Prop), KmCx p s m args c cc nL y.cls G →
      (∀ (M' : Mem) (g' : Glo) (L' : List (Nat × Value)) (pc : Nat), decode cc pc = .ok (.return_, 1) → post M' g' → KAt p l e (rmD d 0 0) s m args below meth c G nL 0 0 Q M' g' L' pc []) →
      KAt p l e (rmD d 0 0) s m args below meth c G nL 0 0 Q M g L0 0 []) : KmcV l G y cc nL d vs M g post := by
  intro sz
  refine Met.ofW (cc := cc) (maxL := nL) (ret := none) hy rfl ?_
  intro p e s m args below meth c s₁ B hml hv
  obtain ⟨rfl, hsz, hP, hS⟩ := hv
  subst hsz
  subst hL
  rw [lg_entry_eq]
  exact body p e s m _ below meth c _ ⟨B.exec, B.bytes, hml, findClass_of_methodNamed B.named, fun w hw => atoms_spec B.pre w (List.mem_cons_of_mem _ hw), hS, hG⟩
    (fun M' g' L' pc hd hp H locs ls hP hS hl => W.vret B.exec B.bytes B.returns (fun t ht hW => ⟨⟨(M', g'), rfl, hp, by unfold KmB; rw [ht]; exact hP⟩, hS.F ht⟩) hS.2.2 hd B.notSynchronized)
    s.heap [] _ hP va_S.rf (lv_entry vs hvs)
theorem Km_fix (C : KmCx p s m args c cc nL own G) : CallFix p m c cc nL s args gd own := ⟨C.1, C.2.1, C.2.2.1, C.2.2.2.1, C.2.2.2.2.1⟩
theorem Km_cb {idx maxL n d D mc ms mc' ms' : Nat} {y : MethodName} {bytes : ByteArray} {ret : Option FieldType} (C : KmCx p s m args c cc nL own G) (h : mSi own idx y bytes maxL ret n) (hd : d < D) : CallB (rmD D mc' ms') s args own idx y bytes maxL ret (.code y bytes maxL ret :: gd) (rmD d mc ms) mc ms n := by
  obtain ⟨h1, h2, h3, h4, h5, h6, h7⟩ := h
  have ht := C.2.2.2.2.1
  exact callB_of n ht (gd_in h3) rfl rfl rfl (ht _ h2) (ht _ h1) ⟨h4, h5, h6⟩ ⟨by show 1 + d + 1 ≤ 1 + D; omega, by show 8 + (maxL + 11) + (40 + 40 * d) ≤ 40 + 40 * D; omega⟩
theorem Km_cw {idx maxL n d D mc ms mc' ms' : Nat} {Cn : String} {y : MethodName} {bytes : ByteArray} {ret : Option FieldType} (C : KmCx p s m args c cc nL own G) (h : mSv own idx Cn y bytes maxL ret n) (hd : d < D) : CallW (rmD D mc' ms') s args own Cn idx y bytes maxL ret (.code y bytes maxL ret :: gd) (rmD d mc ms) mc ms n := by
  obtain ⟨h1, h2, h3, h4⟩ := h
  exact ⟨Km_cb C h1 hd, C.2.2.2.2.1 _ h2, C.2.2.2.2.1 _ h3⟩
theorem Km_pv {q ci n : Nat} {fs : List Nat} {C0 : String} {T : u_T} {H : Heap} {locs : List Loc} {As : List Value} (C : KmCx p s m args c cc nL own G) (hq : Klay q = (1, ci :: fs)) (hc : vwC[ci]? = some (C0, T, n)) (hP : va_P (mD G) vwC (Km_ws G M g) H) (hS : va_S (KmAq G s.heap.size) s.heap H locs) : PreV s H C0 (mA G q) (KmPc G H.size (.ref (mA G q) :: As) M g) As :=
  ⟨KmPc_blind, va_recv C.2.2.2.2.2.1.1 hP hc (Km_obj hq), fun _ hU hW => KmPc_pre C hP hS hU hW⟩
theorem Km_ps {H : Heap} {locs : List Loc} {As : List Value} (C : KmCx p s m args c cc nL own G) (hP : va_P (mD G) vwC (Km_ws G M g) H) (hS : va_S (KmAq G s.heap.size) s.heap H locs) : PreS s H (KmPc G H.size As M g) As :=
  ⟨KmPc_blind, fun _ hU hW => KmPc_pre C hP hS hU hW⟩
theorem Kr_callVI {idx maxL n d D q ci N mc ms : Nat} {fs : List Nat} {C0 : String} {T : u_T} {y : MethodName} {bytes : ByteArray} {ret : FieldType} {As rest st0 : List Value} {post : Int32 → Mem → Glo → Prop} (C : KmCx p s m args c cc nL own G) (hd : decode cc pc = .ok (.invokevirtual idx, 3)) (hs : mSv own idx C0 y bytes maxL (some ret) n) (hM : KmcI l G y bytes maxL ret d (.ref (mA G q) :: As) M g post) (hdD : d < D) (hq : Klay q = (1, ci :: fs)) (hc : vwC[ci]? = some (C0, T, N)) (hn : As.length = n) (hst : st0 = As.reverse ++ .ref (mA G q) :: rest) (hr : (rest.map fun v => v.category).sum ≤ 8) (h1 : kk ≤ mc) (h2 : nn ≤ ms)
    (k : ∀ (r : Int32) (M' : Mem) (g' : Glo), post r M' g' → KAt p l e (rmD D mc ms) s m args below meth c G nL kk nn Q M' g' L (pc + 3) (.int r :: rest)) : KAt p l e (rmD D mc ms) s m args below meth c G nL kk nn Q M g L pc st0 := by
  intro H locs ls hP hS hl
  subst hst
  refine va_calli (va_runV (As := As) (rest := rest) (Km_fix C) (hM H.size) (Km_cw C hs hdD) (Km_pv C hq hc hP hS) rfl hn hl.1 rfl (lv_room hr) hd ⟨h1, h2⟩) hS (fun _ _ h => KmAq_le hS.1 h) (fun _ h => KmAq_le hS.1 h) (fun r u t H1 locs1 ht hvm hw hB hz1 hk1 hS1 => ?_)
  unfold KmB at hB
  rw [ht] at hB
  exact k r u.1 u.2 hw H1 locs1 ls hB hS1 hl
theorem Kr_callVV {idx maxL n d D q ci N mc ms : Nat} {fs : List Nat} {C0 : String} {T : u_T} {y : MethodName} {bytes : ByteArray} {As rest st0 : List Value} {post : Mem → Glo → Prop} (C : KmCx p s m args c cc nL own G) (hd : decode cc pc = .ok (.invokevirtual idx, 3)) (hs : mSv own idx C0 y bytes maxL none n) (hM : KmcV l G y bytes maxL d (.ref (mA G q) :: As) M g post) (hdD : d < D) (hq : Klay q = (1, ci :: fs)) (hc : vwC[ci]? = some (C0, T, N)) (hn : As.length = n) (hst : st0 = As.reverse ++ .ref (mA G q) :: rest) (hr : (rest.map fun v => v.category).sum ≤ 8) (h1 : kk ≤ mc) (h2 : nn ≤ ms)
    (k : ∀ (M' : Mem) (g' : Glo), post M' g' → KAt p l e (rmD D mc ms) s m args below meth c G nL kk nn Q M' g' L (pc + 3) rest) : KAt p l e (rmD D mc ms) s m args below meth c G nL kk nn Q M g L pc st0 := by
  intro H locs ls hP hS hl
  subst hst
  refine va_callv (va_runV (As := As) (rest := rest) (Km_fix C) (hM H.size) (Km_cw C hs hdD) (Km_pv C hq hc hP hS) rfl hn hl.1 rfl (lv_room hr) hd ⟨h1, h2⟩) hS (fun _ _ h => KmAq_le hS.1 h) (fun _ h => KmAq_le hS.1 h) (fun u t H1 locs1 ht hvm hw hB hz1 hk1 hS1 => ?_)
  unfold KmB at hB
  rw [ht] at hB
  exact k u.1 u.2 hw H1 locs1 ls hB hS1 hl
theorem Kr_callSI {idx maxL n d D mc ms : Nat} {y : MethodName} {bytes : ByteArray} {ret : FieldType} {As rest st0 : List Value} {post : Int32 → Mem → Glo → Prop} (C : KmCx p s m args c cc nL own G) (hd : decode cc pc = .ok (.invokestatic idx, 3)) (hs : mSs own idx y bytes maxL (some ret) n) (hM : KmcI l G y bytes maxL ret d As M g post) (hdD : d < D) (hn : As.length = n) (hst : st0 = As.reverse ++ rest) (hr : (rest.map fun v => v.category).sum ≤ 8) (h1 : kk ≤ mc) (h2 : nn ≤ ms)
    (k : ∀ (r : Int32) (M' : Mem) (g' : Glo), post r M' g' → KAt p l e (rmD D mc ms) s m args below meth c G nL kk nn Q M' g' L (pc + 3) (.int r :: rest)) : KAt p l e (rmD D mc ms) s m args below meth c G nL kk nn Q M g L pc st0 := by
  intro H locs ls hP hS hl
  subst hst
  refine va_calli (va_runS (As := As) (rest := rest) (Km_fix C) (hM H.size) ⟨Km_cb C hs.1 hdD, C.2.2.2.2.1 _ hs.2⟩ (Km_ps C hP hS) rfl hn hl.1 rfl (lv_room hr) hd ⟨h1, h2⟩) hS (fun _ _ h => KmAq_le hS.1 h) (fun _ h => KmAq_le hS.1 h) (fun r u t H1 locs1 ht hvm hw hB hz1 hk1 hS1 => ?_)
  unfold KmB at hB
  rw [ht] at hB
  exact k r u.1 u.2 hw H1 locs1 ls hB hS1 hl
theorem Kr_callSV {idx maxL n d D mc ms : Nat} {y : MethodName} {bytes : ByteArray} {As rest st0 : List Value} {post : Mem → Glo → Prop} (C : KmCx p s m args c cc nL own G) (hd : decode cc pc = .ok (.invokestatic idx, 3)) (hs : mSs own idx y bytes maxL none n) (hM : KmcV l G y bytes maxL d As M g post) (hdD : d < D) (hn : As.length = n) (hst : st0 = As.reverse ++ rest) (hr : (rest.map fun v => v.category).sum ≤ 8) (h1 : kk ≤ mc) (h2 : nn ≤ ms)
    (k : ∀ (M' : Mem) (g' : Glo), post M' g' → KAt p l e (rmD D mc ms) s m args below meth c G nL kk nn Q M' g' L (pc + 3) rest) : KAt p l e (rmD D mc ms) s m args below meth c G nL kk nn Q M g L pc st0 := by
  intro H locs ls hP hS hl
  subst hst
  refine va_callv (va_runS (As := As) (rest := rest) (Km_fix C) (hM H.size) ⟨Km_cb C hs.1 hdD, C.2.2.2.2.1 _ hs.2⟩ (Km_ps C hP hS) rfl hn hl.1 rfl (lv_room hr) hd ⟨h1, h2⟩) hS (fun _ _ h => KmAq_le hS.1 h) (fun _ h => KmAq_le hS.1 h) (fun u t H1 locs1 ht hvm hw hB hz1 hk1 hS1 => ?_)
  unfold KmB at hB
  rw [ht] at hB
  exact k u.1 u.2 hw H1 locs1 ls hB hS1 hl
theorem Kr_callNV {idx maxL n d D mc ms : Nat} {y : MethodName} {host : String} {bytes : ByteArray} {As rest st0 : List Value} {post : Mem → Glo → Prop} (C : KmCx p s m args c cc nL own G) (hd : decode cc pc = .ok (.invokestatic idx, 3)) (hs : mSn own idx y host bytes maxL none n) (hM : KmcV l G y bytes maxL d As M g post) (hdD : d < D) (hn : As.length = n) (hst : st0 = As.reverse ++ rest) (hr : (rest.map fun v => v.category).sum ≤ 8) (h1 : kk ≤ mc) (h2 : nn ≤ ms)
    (k : ∀ (M' : Mem) (g' : Glo), post M' g' → KAt p l e (rmD D mc ms) s m args below meth c G nL kk nn Q M' g' L (pc + 3) rest) : KAt p l e (rmD D mc ms) s m args below meth c G nL kk nn Q M g L pc st0 := by
  intro H locs ls hP hS hl
  subst hst
  obtain ⟨a1, a2, a3, a4, a5, a6, a7, a8⟩ := hs
  have ht := C.2.2.2.2.1
  refine va_callv (va_runSN (As := As) (rest := rest) (Km_fix C) (hM H.size) ⟨va_cnB n ht (gd_in a3) rfl rfl rfl (C.2.2.2.2.2.1.2.1 _ a1) (ht _ a2) ⟨a4, a5, a6⟩ ⟨by show 1 + d + 1 ≤ 1 + D; omega, by show 8 + (maxL + 11) + (40 + 40 * d) ≤ 40 + 40 * D; omega⟩, ht _ a8, trivial⟩ (Km_ps C hP hS) rfl hn hl.1 rfl (lv_room hr) hd ⟨h1, h2⟩) hS (fun _ _ h => KmAq_le hS.1 h) (fun _ h => KmAq_le hS.1 h) (fun u t H1 locs1 ht hvm hw hB hz1 hk1 hS1 => ?_)
  unfold KmB at hB
  rw [ht] at hB
  exact k u.1 u.2 hw H1 locs1 ls hB hS1 hl
end
def KisHour (B : Nat) : Prop := Klay B = (1, [2, B + 3, B + 4, B + 5, B + 6, 0, 0, 0]) ∧ Klay (B + 1) = (0, [16]) ∧ Klay (B + 2) = (0, [16]) ∧ Klay (B + 3) = (0, [16]) ∧ Klay (B + 4) = (0, [4])
def KisRegs (B : Nat) : Prop := Klay B = (1, [5, B + 3, B + 4, B + 5, B + 6, B + 7, 0]) ∧ Klay (B + 1) = (0, [16]) ∧ Klay (B + 2) = (0, [16]) ∧ Klay (B + 3) = (0, [16]) ∧ Klay (B + 4) = (0, [16]) ∧ Klay (B + 5) = (0, [16])
theorem KisHour_75 : KisHour 75 := ⟨rfl, rfl, rfl, rfl, rfl⟩
theorem KisRegs_80 : KisRegs 80 := ⟨rfl, rfl, rfl, rfl, rfl, rfl⟩
section
variable {p : Program} {l : Launch} {e : Env} {R : Room} {s : State} {m : MethodId} {args : Array Value} {below : List Frame} {meth : Method} {c : Code} {G : mG} {nL kk nn : Nat} {Q : State → Prop} {M : Mem} {g : Glo} {L : List (Nat × Value)} {pc : Nat} {st : List Value} {cc : ByteArray} {own : String}
theorem Kr_copy {q0 q1 n idx d mc ms : Nat} {z : Int32} (C : KmCx p s m args c cc nL own G) (hd : decode cc pc = .ok (.invokestatic idx, 3)) (hm : mCopy own idx) (hq0 : Klay q0 = (0, [n])) (hq1 : Klay q1 = (0, [n])) (hn0 : n ≠ 0) (hz : z = nI n) (hn : n < 2 ^ 31) (hst : (st.map fun v => v.category).sum ≤ 8) (k : ∀ f : Nat → Int32, (∀ j, j < n → f j = M q0 j) → KAt p l e (rmD d mc ms) s m args below meth c G nL kk nn Q (mrow M q1 f) g L (pc + 3) st) : KAt p l e (rmD d mc ms) s m args below meth c G nL kk nn Q M g L pc (.int z :: .int 0 :: .ref (mA G q1) :: .int 0 :: .ref (mA G q0) :: st) := by
  intro H locs ls hP hS hl
  obtain ⟨a1, a2, a3, a4⟩ := hm
  subst hz
  have ht := C.2.2.2.2.1
  have e0 : (0 : Int32).toNatClampNeg = 0 := rfl
  have en : (nI n).toNatClampNeg = n := nI_clamp hn
  have hw : nativeFrameWords "java/lang/System" "arraycopy" 5 ≤ 20 := by decide +kernel
  refine va_copyi (D := mD G) (ty := .int) (sp := 0) (dp := 0) (n := nI n) C.1 C.2.1 (by rw [C.2.2.1]; exact hl.1.symm) C.2.2.2.1 (ht _ a1) (ht _ a2) (ht _ a3) (ht _ a4) C.2.2.2.2.2.1.1 hP (Km_D C.2.2.2.2.2.2) hS q0 q1 0 0 (Km_arr hq0 hn0) (Km_arr hq1 hn0) rfl rfl rfl (by decide) (by decide) (nI_pos hn) (by rw [e0, en]; omega) (by rw [e0, en]; omega) (fun _ _ => rfl) (show 1 ≤ 1 + d by omega) (show (st.map fun v => v.category).sum + (nativeFrameWords "java/lang/System" "arraycopy" 5 + 11) ≤ 40 + 40 * d by omega) hd (fun H locs hP _ hS => ?_)
  refine k (va_cpy (M q0) (M q1) (0 : Int32).toNatClampNeg (0 : Int32).toNatClampNeg (nI n).toNatClampNeg) (fun j hj => by rw [e0, en, pk_cpy_in (Nat.zero_le _) (by omega)]; congr 1; omega) H locs ls ?_ hS hl
  rw [← Km_ws_set (G := G) (M := M) (M' := mrow M q1 (va_cpy (M q0) (M q1) (0 : Int32).toNatClampNeg (0 : Int32).toNatClampNeg (nI n).toNatClampNeg)) (g := g) (g' := g) (k := q1) (e := .inl (G.2.1.1, n, .inl (va_cpy (M q0) (M q1) (0 : Int32).toNatClampNeg (0 : Int32).toNatClampNeg (nI n).toNatClampNeg))) (fun z hz => ⟨mrow_ne hz _, rfl⟩)]
  · exact hP
  · rw [Km_ctq hq1 (by simpa using hn0)]; simp only [m_ctL, mrow_at]
end
set_option maxRecDepth 20000 in
set_option maxHeartbeats 1000000 in
theorem Kc_X3_hasParent (l : Launch) (G : mG) (hG : KmInj G) (M : Mem) (g : Glo) (V : View) (hT : wfT V) (hV : cNet M 2 V) (j : Nat) (h0 : 0 < j) (hj : j < vN V) : KmcI l G yX3_hasParent cX3_hasParent 2 .boolean 1 [.ref (mA G 2), .int (nI j)] M g (fun r M' g' => r = 1 ∧ M' = M ∧ g' = g) := by
  refine KmcI_of (L0 := [(0, .ref (mA G 2)), (1, .int (nI j))]) hG (by decide) (Nat.le_of_ble_eq_true rfl) rfl ?_
  intro p e s m args below meth c Q C hend
  obtain ⟨hn1, hn16, hb4, hd0, hpar⟩ := hT
  obtain ⟨hp1, hp2⟩ := hpar j h0 hj
  have hr : M 3 j = nI (vP V j) := (hV.at 0 (by decide) hj).trans hp1
  refine Kr_aload_n C dX3_hasParent_0 0 rfl ?_
  refine Kr_getr (q2 := 3) C dX3_hasParent_1 0 f_X3_9 rfl rfl ?_
  refine Kr_iload_n C dX3_hasParent_4 1 rfl ?_
  refine Kr_ialdN (j := j) (v := nI (vP V j)) C dX3_hasParent_5 rfl (rfl) (by omega) (by decide) (hr) ?_
  refine Kr_if_lt (tgt := 23) C dX3_hasParent_6 (by decide) (fun h => absurd h (nI_pos (by omega))) (fun _ => ?_)
  refine Kr_aload_n C dX3_hasParent_9 0 rfl ?_
  refine Kr_getr (q2 := 3) C dX3_hasParent_10 0 f_X3_9 rfl rfl ?_
  refine Kr_iload_n C dX3_hasParent_13 1 rfl ?_
  refine Kr_ialdN (j := j) (v := nI (vP V j)) C dX3_hasParent_14 rfl (rfl) (by omega) (by decide) (hr) ?_
  refine Kr_iload_n C dX3_hasParent_15 1 rfl ?_
  refine Kr_icmp_ge (tgt := 23) C dX3_hasParent_16 (by decide) (fun h => absurd h (nI_ge hp2 (by omega))) (fun _ => ?_)
  refine Kr_iconst (v := 1) C dX3_hasParent_19 rfl ?_
  refine Kr_goto (tgt := 24) C dX3_hasParent_20 (by decide) ?_
  exact hend _ _ _ _ _ dX3_hasParent_24 (rfl) (⟨rfl, rfl, rfl⟩)

set_option maxRecDepth 20000 in
set_option maxHeartbeats 1000000 in
theorem Kc_X0_placeOf (l : Launch) (G : mG) (hG : KmInj G) (M : Mem) (g : Glo) (V : View) (hT : wfT V) (hV : cBoi M 11 V) (b : Nat) (hb : b < vB V) : KmcI l G yX0_placeOf cX0_placeOf 4 .int 1 [.ref (mA G 11), .int (nI b)] M g (fun r M' g' => r = nI (placeN V b) ∧ M' = M ∧ g' = g) := by
  refine KmcI_of (L0 := [(0, .ref (mA G 11)), (1, .int (nI b))]) hG (by decide) (Nat.le_of_ble_eq_true rfl) rfl ?_
  intro p e s m args below meth c Q C hend
  have hT0 := hT
  obtain ⟨hn1, hn16, hb4, ⟨hd0, hd3, hd5, hd6⟩, hpar⟩ := hT0
  refine Kr_iconst (v := nI 0) C dX0_placeOf_0 rfl ?_
  refine Kr_istore_n (L' := [(2, .int (nI 0)), (0, .ref (mA G 11)), (1, .int (nI b))]) C dX0_placeOf_1 (by decide) rfl ?_
  refine Kr_iconst (v := nI 0) C dX0_placeOf_2 rfl ?_
  refine Kr_istore_n (L' := [(3, .int (nI 0)), (2, .int (nI 0)), (0, .ref (mA G 11)), (1, .int (nI b))]) C dX0_placeOf_3 (by decide) rfl ?_
  have lp4 : ∀ (fu : Nat) (k : Nat) (a : Nat), (k ≤ vB V) → (a = cntA (fun o => bef V o b) k) → (vB V - k) < fu → KAt p l e (rmD 1 0 0) s m args below meth c G 4 0 0 Q M g [(3, .int (nI k)), (2, .int (nI a)), (0, .ref (mA G 11)), (1, .int (nI b))] 4 [] := by
    intro fu
    induction fu with
    | zero => intro k a hkn ha hfu; exact absurd hfu (Nat.not_lt_zero _)
    | succ fu ih4 =>
      intro k a hkn ha hfu4
      refine Kr_iload_n C dX0_placeOf_4 0 rfl ?_
      refine Kr_aload_n C dX0_placeOf_5 2 rfl ?_
      refine Kr_geti C dX0_placeOf_6 3 f_X0_21 rfl rfl ?_
      refine Kr_valI (y := nI (vB V)) (hV.1) ?_
      refine Kr_icmp_ge (tgt := 56) C dX0_placeOf_9 (by decide) (fun c9 => ?_) (fun c9 => ?_)
      ·
        have hkn2 : k = vB V := by have := le_of_le (by omega) (by omega) c9; omega
        refine Kr_iload_n C dX0_placeOf_56 1 rfl ?_
        exact hend _ _ _ _ _ dX0_placeOf_57 (rfl) (⟨by rw [ha, hkn2]; rfl, rfl, rfl⟩)
      ·
        have hlt : k < vB V := lt_of_nle (by omega) c9
        refine Kr_aload_n C dX0_placeOf_12 2 rfl ?_
        refine Kr_getr (q2 := 14) C dX0_placeOf_13 2 f_X0_18 rfl rfl ?_
        refine Kr_iload_n C dX0_placeOf_16 0 rfl ?_
        refine Kr_ialdN (j := k) (v := vO V 2 k) C dX0_placeOf_17 rfl (rfl) (by omega) (by decide) (hV.at 2 (by decide) hlt) ?_
        refine Kr_aload_n C dX0_placeOf_18 2 rfl ?_
        refine Kr_getr (q2 := 14) C dX0_placeOf_19 2 f_X0_18 rfl rfl ?_
        refine Kr_iload_n C dX0_placeOf_22 3 rfl ?_
        refine Kr_ialdN (j := b) (v := vO V 2 b) C dX0_placeOf_23 rfl (rfl) (by omega) (by decide) (hV.at 2 (by decide) hb) ?_
        refine Kr_icmp_lt (tgt := 47) C dX0_placeOf_24 (by decide) (fun c24 => ?_) (fun c24 => ?_)
        ·
          refine Kr_iinc (v := nI (a + 1)) (L' := [(2, .int (nI (a + 1))), (3, .int (nI k)), (0, .ref (mA G 11)), (1, .int (nI b))]) C dX0_placeOf_47 1 rfl (nI_inc _) (by decide) rfl ?_
          refine Kr_iinc (v := nI (k + 1)) (L' := [(3, .int (nI (k + 1))), (2, .int (nI (a + 1))), (0, .ref (mA G 11)), (1, .int (nI b))]) C dX0_placeOf_50 1 rfl (nI_inc _) (by decide) rfl ?_
          refine Kr_goto (tgt := 4) C dX0_placeOf_53 (by decide) ?_
          refine Kr_sub (L' := [(3, .int (nI (k + 1))), (2, .int (nI (a + 1))), (0, .ref (mA G 11)), (1, .int (nI b))]) [0, 1, 2, 3] rfl ?_
          exact ih4 (k + 1) (a + 1) (by omega) (by rw [cntA, ha]; simp [bef, c24]) (by omega)
        ·
          refine Kr_aload_n C dX0_placeOf_27 2 rfl ?_
          refine Kr_getr (q2 := 14) C dX0_placeOf_28 2 f_X0_18 rfl rfl ?_
          refine Kr_iload_n C dX0_placeOf_31 0 rfl ?_
          refine Kr_ialdN (j := k) (v := vO V 2 k) C dX0_placeOf_32 rfl (rfl) (by omega) (by decide) (hV.at 2 (by decide) hlt) ?_
          refine Kr_aload_n C dX0_placeOf_33 2 rfl ?_
          refine Kr_getr (q2 := 14) C dX0_placeOf_34 2 f_X0_18 rfl rfl ?_
          refine Kr_iload_n C dX0_placeOf_37 3 rfl ?_
          refine Kr_ialdN (j := b) (v := vO V 2 b) C dX0_placeOf_38 rfl (rfl) (by omega) (by decide) (hV.at 2 (by decide) hb) ?_
          refine Kr_icmp_ne (tgt := 50) C dX0_placeOf_39 (by decide) (fun c39 => ?_) (fun c39 => ?_)
          ·
            refine Kr_iinc (v := nI (k + 1)) (L' := [(3, .int (nI (k + 1))), (2, .int (nI a)), (0, .ref (mA G 11)), (1, .int (nI b))]) C dX0_placeOf_50 0 rfl (nI_inc _) (by decide) rfl ?_
            refine Kr_goto (tgt := 4) C dX0_placeOf_53 (by decide) ?_
            refine Kr_sub (L' := [(3, .int (nI (k + 1))), (2, .int (nI a)), (0, .ref (mA G 11)), (1, .int (nI b))]) [0, 1, 2, 3] rfl ?_
            exact ih4 (k + 1) a (by omega) (by rw [cntA, ha]; simp [bef, c24, c39]) (by omega)
          ·
            refine Kr_iload_n C dX0_placeOf_42 0 rfl ?_
            refine Kr_iload_n C dX0_placeOf_43 3 rfl ?_
            refine Kr_icmp_ge (tgt := 50) C dX0_placeOf_44 (by decide) (fun c44 => ?_) (fun c44 => ?_)
            ·
              refine Kr_iinc (v := nI (k + 1)) (L' := [(3, .int (nI (k + 1))), (2, .int (nI a)), (0, .ref (mA G 11)), (1, .int (nI b))]) C dX0_placeOf_50 0 rfl (nI_inc _) (by decide) rfl ?_
              refine Kr_goto (tgt := 4) C dX0_placeOf_53 (by decide) ?_
              refine Kr_sub (L' := [(3, .int (nI (k + 1))), (2, .int (nI a)), (0, .ref (mA G 11)), (1, .int (nI b))]) [0, 1, 2, 3] rfl ?_
              exact ih4 (k + 1) a (by omega) (by rw [cntA, ha]; have h9 : ¬ k < b := Nat.not_lt.mpr ((nI_leI (by omega) (by omega)).mp c44); simp [bef, c24, h9]) (by omega)
            ·
              refine Kr_iinc (v := nI (a + 1)) (L' := [(2, .int (nI (a + 1))), (3, .int (nI k)), (0, .ref (mA G 11)), (1, .int (nI b))]) C dX0_placeOf_47 1 rfl (nI_inc _) (by decide) rfl ?_
              refine Kr_iinc (v := nI (k + 1)) (L' := [(3, .int (nI (k + 1))), (2, .int (nI (a + 1))), (0, .ref (mA G 11)), (1, .int (nI b))]) C dX0_placeOf_50 1 rfl (nI_inc _) (by decide) rfl ?_
              refine Kr_goto (tgt := 4) C dX0_placeOf_53 (by decide) ?_
              refine Kr_sub (L' := [(3, .int (nI (k + 1))), (2, .int (nI (a + 1))), (0, .ref (mA G 11)), (1, .int (nI b))]) [0, 1, 2, 3] rfl ?_
              exact ih4 (k + 1) (a + 1) (by omega) (by rw [cntA, ha]; have h9 : k < b := lt_of_nle (by omega) c44; simp [bef, c24, c39, h9]) (by omega)
  refine Kr_sub (L' := [(3, .int (nI 0)), (2, .int (nI 0)), (0, .ref (mA G 11)), (1, .int (nI b))]) [0, 1, 2, 3] rfl ?_
  exact lp4 _ 0 0 (by omega) rfl (Nat.lt_succ_self _)

set_option maxRecDepth 20000 in
set_option maxHeartbeats 1000000 in
theorem Kc_X0_atPlace (l : Launch) (G : mG) (hG : KmInj G) (M : Mem) (g : Glo) (V : View) (hT : wfT V) (hV : cBoi M 11 V) (x : Nat) (hx : x < vB V) : KmcI l G yX0_atPlace cX0_atPlace 3 .int 2 [.ref (mA G 11), .int (nI x)] M g (fun r M' g' => r = nI (boilAt V x) ∧ M' = M ∧ g' = g) := by
  refine KmcI_of (L0 := [(0, .ref (mA G 11)), (1, .int (nI x))]) hG (by decide) (Nat.le_of_ble_eq_true rfl) rfl ?_
  intro p e s m args below meth c Q C hend
  have hT0 := hT
  obtain ⟨hn1, hn16, hb4, ⟨hd0, hd3, hd5, hd6⟩, hpar⟩ := hT0
  obtain ⟨ha1, ha2, ha3⟩ := boilAt_spec V hx
  refine Kr_iconst (v := nI 0) C dX0_atPlace_0 rfl ?_
  refine Kr_istore_n (L' := [(2, .int (nI 0)), (0, .ref (mA G 11)), (1, .int (nI x))]) C dX0_atPlace_1 (by decide) rfl ?_
  have lp2 : ∀ (fu : Nat) (k : Nat), (k ≤ boilAt V x) → (vB V - k) < fu → KAt p l e (rmD 2 0 0) s m args below meth c G 3 0 0 Q M g [(2, .int (nI k)), (0, .ref (mA G 11)), (1, .int (nI x))] 2 [] := by
    intro fu
    induction fu with
    | zero => intro k hkn hfu; exact absurd hfu (Nat.not_lt_zero _)
    | succ fu ih2 =>
      intro k hkn hfu2
      refine Kr_iload_n C dX0_atPlace_2 0 rfl ?_
      refine Kr_aload_n C dX0_atPlace_3 1 rfl ?_
      refine Kr_geti C dX0_atPlace_4 3 f_X0_21 rfl rfl ?_
      refine Kr_valI (y := nI (vB V)) (hV.1) ?_
      refine Kr_icmp_ge (tgt := 27) C dX0_atPlace_7 (by decide) (fun h => absurd h ((nI_ge (by omega) (by omega) : ¬ nI (vB V) ≤ nI k))) (fun _ => ?_)
      refine Kr_aload_n C dX0_atPlace_10 1 rfl ?_
      refine Kr_iload_n C dX0_atPlace_11 0 rfl ?_
      refine Kr_callVI (As := [.int (nI k)]) (rest := []) C dX0_atPlace_12 s_X0_29 (Kc_X0_placeOf l G hG M g V hT hV k (by omega)) (by decide) rfl rfl rfl rfl (Nat.le_of_ble_eq_true rfl) (Nat.le_of_ble_eq_true rfl) (Nat.le_of_ble_eq_true rfl) (pk_I ?_)
      refine Kr_iload_n C dX0_atPlace_15 2 rfl ?_
      refine Kr_icmp_ne (tgt := 21) C dX0_atPlace_16 (by decide) (fun c16 => ?_) (fun c16 => ?_)
      ·
        refine Kr_iinc (v := nI (k + 1)) (L' := [(2, .int (nI (k + 1))), (0, .ref (mA G 11)), (1, .int (nI x))]) C dX0_atPlace_21 0 rfl (nI_inc _) (by decide) rfl ?_
        refine Kr_goto (tgt := 2) C dX0_atPlace_24 (by decide) ?_
        refine Kr_sub (L' := [(2, .int (nI (k + 1))), (0, .ref (mA G 11)), (1, .int (nI x))]) [0, 1, 2] rfl ?_
        exact ih2 (k + 1) (by have : k ≠ boilAt V x := (fun h => c16 (by rw [h, ha2])); omega) (by omega)
      ·
        refine Kr_iload_n C dX0_atPlace_19 0 rfl ?_
        exact hend _ _ _ _ _ dX0_atPlace_20 (rfl) (⟨congrArg nI (placeN_inj V (by omega) ha1 (((nI_eq (by have := placeN_lt V (b := k) (by omega); omega) (by omega)).mp c16).trans ha2.symm)), rfl, rfl⟩)
  refine Kr_sub (L' := [(2, .int (nI 0)), (0, .ref (mA G 11)), (1, .int (nI x))]) [0, 1, 2] rfl ?_
  exact lp2 _ 0 (by omega) (Nat.lt_succ_self _)

set_option maxRecDepth 20000 in
set_option maxHeartbeats 1000000 in
theorem Kc_X2_addUpTheTree (l : Launch) (G : mG) (hG : KmInj G) (M : Mem) (g : Glo) (V : View) (hT : wfT V) (hV : cNet M 2 V) (r : Nat) (hr : Klay r = (0, [16])) (hr9 : 70 < r) : KmcV l G yX2_addUpTheTree cX2_addUpTheTree 3 2 [.ref (mA G 2), .ref (mA G r)] M g (fun M' g' => M' = mrow M r (addUp (vP V) (vN V - 1) (M r)) ∧ g' = g) := by
  refine KmcV_of (L0 := [(0, .ref (mA G 2)), (1, .ref (mA G r))]) hG (by decide) (Nat.le_of_ble_eq_true rfl) rfl ?_
  intro p e s m args below meth c Q C hend
  have hT0 := hT
  obtain ⟨hn1, hn16, hb4, ⟨hd0, hd3, hd5, hd6⟩, hpar⟩ := hT0
  refine Kr_aload_n C dX2_addUpTheTree_0 0 rfl ?_
  refine Kr_geti C dX2_addUpTheTree_1 8 f_X2_65 rfl rfl ?_
  refine Kr_valI (y := nI (vN V)) (hV.1) ?_
  refine Kr_iconst (v := 1) C dX2_addUpTheTree_4 rfl ?_
  refine Kr_isub C dX2_addUpTheTree_5 ?_
  refine Kr_valI (y := nI (vN V - 1)) (pk_sub (by omega)) ?_
  refine Kr_istore_n (L' := [(2, .int (nI (vN V - 1))), (0, .ref (mA G 2)), (1, .ref (mA G r))]) C dX2_addUpTheTree_6 (by decide) rfl ?_
  have lp7 : ∀ (fu : Nat) (k : Nat) (f : Nat → Int32), (k < vN V) → (addUp (vP V) k f = addUp (vP V) (vN V - 1) (M r)) → k < fu → KAt p l e (rmD 2 0 0) s m args below meth c G 3 0 0 Q (mrow M r f) g [(2, .int (nI k)), (0, .ref (mA G 2)), (1, .ref (mA G r))] 7 [] := by
    intro fu
    induction fu with
    | zero => intro k f hkn hf hfu; exact absurd hfu (Nat.not_lt_zero _)
    | succ fu ih7 =>
      intro k f hkn hf hfu7
      have hV2 : cNet (mrow M r f) 2 V := hV.off (offR.row f (Nat.le_refl r) (Nat.le_refl r)) (by omega)
      refine Kr_iload_n C dX2_addUpTheTree_7 0 rfl ?_
      refine Kr_if_le (tgt := 39) C dX2_addUpTheTree_8 (by decide) (fun c8 => ?_) (fun c8 => ?_)
      ·
        have hk0 : k = 0 := by rcases Nat.eq_zero_or_pos k with q | q; exact q; exact absurd c8 (nI_nle q (by omega))
        exact hend _ _ _ _ dX2_addUpTheTree_39 (⟨by rw [← hf, hk0]; rfl, rfl⟩)
      ·
        have hk0 : 0 < k := by rcases Nat.eq_zero_or_pos k with q | q; exact absurd (by subst q; decide) c8; exact q
        have hpk := hpar k hk0 hkn
        refine Kr_aload_n C dX2_addUpTheTree_11 1 rfl ?_
        refine Kr_iload_n C dX2_addUpTheTree_12 0 rfl ?_
        refine Kr_callVI (As := [.int (nI k)]) (rest := []) C dX2_addUpTheTree_13 s_X2_122 (Kc_X3_hasParent l G hG (mrow M r f) g V hT hV2 k hk0 hkn) (by decide) rfl rfl rfl rfl (Nat.le_of_ble_eq_true rfl) (Nat.le_of_ble_eq_true rfl) (Nat.le_of_ble_eq_true rfl) (pk_I ?_)
        refine Kr_if_eq (tgt := 33) C dX2_addUpTheTree_16 (by decide) (fun h => absurd h (by decide)) (fun _ => ?_)
        refine Kr_aload_n C dX2_addUpTheTree_19 2 rfl ?_
        refine Kr_aload_n C dX2_addUpTheTree_20 1 rfl ?_
        refine Kr_getr (q2 := 3) C dX2_addUpTheTree_21 0 f_X2_126 rfl rfl ?_
        refine Kr_iload_n C dX2_addUpTheTree_24 0 rfl ?_
        refine Kr_ialdN (j := k) (v := nI (vP V k)) C dX2_addUpTheTree_25 rfl (rfl) (by omega) (by decide) ((hV2.at 0 (by decide) hkn).trans hpk.1) ?_
        refine Kr_dup2 C dX2_addUpTheTree_26 rfl rfl ?_
        refine Kr_ialdN (j := vP V k) (v := f (vP V k)) C dX2_addUpTheTree_27 (hr) (rfl) (by omega) (by decide) (by rw [mrow_at]) ?_
        refine Kr_aload_n C dX2_addUpTheTree_28 2 rfl ?_
        refine Kr_iload_n C dX2_addUpTheTree_29 0 rfl ?_
        refine Kr_ialdN (j := k) (v := f k) C dX2_addUpTheTree_30 (hr) (rfl) (by omega) (by decide) (by rw [mrow_at]) ?_
        refine Kr_iadd C dX2_addUpTheTree_31 ?_
        refine Kr_iastN (j := vP V k) C dX2_addUpTheTree_32 (hr) (rfl) (by omega) (by decide) ?_
        refine Kr_mem (M' := mrow M r (upd f (vP V k) (f (vP V k) + f k))) (mset_row _ _ _ _ _) ?_
        refine Kr_iinc (v := nI (k - 1)) (L' := [(2, .int (nI (k - 1))), (0, .ref (mA G 2)), (1, .ref (mA G r))]) C dX2_addUpTheTree_33 0 rfl (nI_dec1 (by omega)) (by decide) rfl ?_
        refine Kr_goto (tgt := 7) C dX2_addUpTheTree_36 (by decide) ?_
        refine Kr_sub (L' := [(2, .int (nI (k - 1))), (0, .ref (mA G 2)), (1, .ref (mA G r))]) [0, 1, 2] rfl ?_
        exact ih7 (k - 1) (upd f (vP V k) (f (vP V k) + f k)) (by omega) (by rw [← hf, addUp_s _ hk0]) (by omega)
  refine Kr_mem (M' := mrow M r (M r)) (mrow_self M r).symm ?_
  refine Kr_sub (L' := [(2, .int (nI (vN V - 1))), (0, .ref (mA G 2)), (1, .ref (mA G r))]) [0, 1, 2] rfl ?_
  exact lp7 _ (vN V - 1) (M r) (by omega) rfl (Nat.lt_succ_self _)

set_option maxRecDepth 20000 in
set_option maxHeartbeats 1000000 in
theorem Kc_X2_settleFlows (l : Launch) (G : mG) (hG : KmInj G) (M : Mem) (g : Glo) (V : View) (hT : wfT V) (hV : cNet M 2 V) (H : Nat) (hH : KisHour H) (hH9 : 70 < H) : KmcV l G yX2_settleFlows cX2_settleFlows 3 3 [.ref (mA G H), .ref (mA G 2)] M g (fun M' g' => (∃ f, M' = mrow M (H + 1) f ∧ ∀ j, j < vN V → f j = flowF V j) ∧ g' = g) := by
  refine KmcV_of (L0 := [(0, .ref (mA G H)), (1, .ref (mA G 2))]) hG (by decide) (Nat.le_of_ble_eq_true rfl) rfl ?_
  intro p e s m args below meth c Q C hend
  have hT0 := hT
  obtain ⟨hn1, hn16, hb4, ⟨hd0, hd3, hd5, hd6⟩, hpar⟩ := hT0
  refine Kr_iconst (v := nI 0) C dX2_settleFlows_0 rfl ?_
  refine Kr_istore_n (L' := [(2, .int (nI 0)), (0, .ref (mA G H)), (1, .ref (mA G 2))]) C dX2_settleFlows_1 (by decide) rfl ?_
  have lp2 : ∀ (fu : Nat) (k : Nat) (f : Nat → Int32), (k ≤ vN V) → (∀ j, j < k → f j = vD V 3 j + vD V 5 j) → (vN V - k) < fu → KAt p l e (rmD 3 0 0) s m args below meth c G 3 0 0 Q (mrow M (H + 1) f) g [(2, .int (nI k)), (0, .ref (mA G H)), (1, .ref (mA G 2))] 2 [] := by
    intro fu
    induction fu with
    | zero => intro k f hkn hf hfu; exact absurd hfu (Nat.not_lt_zero _)
    | succ fu ih2 =>
      intro k f hkn hf hfu2
      have hV2 : cNet (mrow M (H + 1) f) 2 V := hV.off (offR.row f (Nat.le_refl _) (Nat.le_refl _)) (by omega)
      refine Kr_iload_n C dX2_settleFlows_2 0 rfl ?_
      refine Kr_aload_n C dX2_settleFlows_3 2 rfl ?_
      refine Kr_geti C dX2_settleFlows_4 8 f_X2_65 rfl rfl ?_
      refine Kr_valI (y := nI (vN V)) (hV2.1) ?_
      refine Kr_icmp_ge (tgt := 35) C dX2_settleFlows_7 (by decide) (fun c7 => ?_) (fun c7 => ?_)
      ·
        have hkn2 : k = vN V := by have := le_of_le (by omega) (by omega) c7; omega
        refine Kr_aload_n C dX2_settleFlows_35 2 rfl ?_
        refine Kr_aload_n C dX2_settleFlows_36 1 rfl ?_
        refine Kr_getr (q2 := (H + 1)) C dX2_settleFlows_37 0 f_X2_9 (hH.1) rfl ?_
        refine Kr_callSV (As := [.ref (mA G 2), .ref (mA G (H + 1))]) (rest := []) C dX2_settleFlows_40 s_X2_76 (Kc_X2_addUpTheTree l G hG (mrow M (H + 1) f) g V hT hV2 (H + 1) hH.2.1 (by omega)) (by decide) rfl rfl (Nat.le_of_ble_eq_true rfl) (Nat.le_of_ble_eq_true rfl) (Nat.le_of_ble_eq_true rfl) (pk_V ?_)
        exact hend _ _ _ _ dX2_settleFlows_43 (⟨⟨_, mrow_mrow _ _ _ _, fun j hj => by rw [mrow_at]; exact addUp_cong (vN V - 1) _ _ (by omega) (fun j h1 h2 => (hpar j h1 (by omega)).2) (fun j hj => by by_cases e : j = 0; (subst e; rw [hf 0 (by omega), hd3, hd5]; rfl); rw [hf j (by omega), if_neg e]) j hj⟩, rfl⟩)
      ·
        have hlt : k < vN V := lt_of_nle (by omega) c7
        refine Kr_aload_n C dX2_settleFlows_10 1 rfl ?_
        refine Kr_getr (q2 := (H + 1)) C dX2_settleFlows_11 0 f_X2_9 (hH.1) rfl ?_
        refine Kr_iload_n C dX2_settleFlows_14 0 rfl ?_
        refine Kr_aload_n C dX2_settleFlows_15 2 rfl ?_
        refine Kr_getr (q2 := 6) C dX2_settleFlows_16 3 f_X2_70 rfl rfl ?_
        refine Kr_iload_n C dX2_settleFlows_19 0 rfl ?_
        refine Kr_ialdN (j := k) (v := vD V 3 k) C dX2_settleFlows_20 rfl (rfl) (by omega) (by decide) (hV2.at 3 (by decide) hlt) ?_
        refine Kr_aload_n C dX2_settleFlows_21 2 rfl ?_
        refine Kr_getr (q2 := 8) C dX2_settleFlows_22 5 f_X2_73 rfl rfl ?_
        refine Kr_iload_n C dX2_settleFlows_25 0 rfl ?_
        refine Kr_ialdN (j := k) (v := vD V 5 k) C dX2_settleFlows_26 rfl (rfl) (by omega) (by decide) (hV2.at 5 (by decide) hlt) ?_
        refine Kr_iadd C dX2_settleFlows_27 ?_
        refine Kr_iastN (j := k) C dX2_settleFlows_28 ((hH).2.1) (rfl) (by omega) (by decide) ?_
        refine Kr_mem (M' := mrow M (H + 1) (upd f k (vD V 3 k + vD V 5 k))) (mset_row _ _ _ _ _) ?_
        refine Kr_iinc (v := nI (k + 1)) (L' := [(2, .int (nI (k + 1))), (0, .ref (mA G H)), (1, .ref (mA G 2))]) C dX2_settleFlows_29 0 rfl (nI_inc _) (by decide) rfl ?_
        refine Kr_goto (tgt := 2) C dX2_settleFlows_32 (by decide) ?_
        refine Kr_sub (L' := [(2, .int (nI (k + 1))), (0, .ref (mA G H)), (1, .ref (mA G 2))]) [0, 1, 2] rfl ?_
        exact ih2 (k + 1) (upd f k (vD V 3 k + vD V 5 k)) (by omega) (fun j hj => by rcases Nat.lt_or_ge j k with q | q; rw [upd_ne (by omega)]; exact hf j q; (have e9 : j = k := by omega); subst e9; rw [upd_at]) (by omega)
  refine Kr_mem (M' := mrow M (H + 1) (M (H + 1))) (mrow_self _ _).symm ?_
  refine Kr_sub (L' := [(2, .int (nI 0)), (0, .ref (mA G H)), (1, .ref (mA G 2))]) [0, 1, 2] rfl ?_
  exact lp2 _ 0 (M (H + 1)) (by omega) (fun j hj => by omega) (Nat.lt_succ_self _)

set_option maxRecDepth 20000 in
set_option maxHeartbeats 1000000 in
theorem Kc_X2_warmthBehind (l : Launch) (G : mG) (hG : KmInj G) (M : Mem) (g : Glo) (a b w f : Int32) (hz : ¬ f ≤ 0 → ¬ 1000 * f = 0) : KmcI l G yX2_warmthBehind cX2_warmthBehind 5 .int 1 [.int a, .int b, .int w, .int f] M g (fun r M' g' => r = behindF a b w f ∧ M' = M ∧ g' = g) := by
  refine KmcI_of (L0 := [(0, .int a), (1, .int b), (2, .int w), (3, .int f)]) hG (by decide) (Nat.le_of_ble_eq_true rfl) rfl ?_
  intro p e s m args below meth c Q C hend
  refine Kr_iload_n C dX2_warmthBehind_0 3 rfl ?_
  refine Kr_if_gt (tgt := 10) C dX2_warmthBehind_1 (by decide) (fun c1 => ?_) (fun c1 => ?_)
  ·
    refine Kr_iload_n C dX2_warmthBehind_10 0 rfl ?_
    refine Kr_iload_n C dX2_warmthBehind_11 1 rfl ?_
    refine Kr_icmp_gt (tgt := 17) C dX2_warmthBehind_12 (by decide) (fun c12 => ?_) (fun c12 => ?_)
    ·
      refine Kr_iload_n C dX2_warmthBehind_17 0 rfl ?_
      refine Kr_iload_n C dX2_warmthBehind_18 1 rfl ?_
      refine Kr_isub C dX2_warmthBehind_19 ?_
      refine Kr_istore (L' := [(4, .int (a - b)), (0, .int a), (1, .int b), (2, .int w), (3, .int f)]) C dX2_warmthBehind_20 (by decide) rfl ?_
      refine Kr_iload_n C dX2_warmthBehind_22 1 rfl ?_
      refine Kr_iload C dX2_warmthBehind_23 0 rfl ?_
      refine Kr_iload C dX2_warmthBehind_25 0 rfl ?_
      refine Kr_iload_n C dX2_warmthBehind_27 3 rfl ?_
      refine Kr_imul C dX2_warmthBehind_28 ?_
      refine Kr_sipush (v := 1000) C dX2_warmthBehind_29 rfl ?_
      refine Kr_iload_n C dX2_warmthBehind_32 4 rfl ?_
      refine Kr_imul C dX2_warmthBehind_33 ?_
      refine Kr_idiv C dX2_warmthBehind_34 (hz (i32_nle.mpr c1)) ?_
      refine Kr_min (v := minI (a - b) ((a - b) * w / (1000 * f))) C dX2_warmthBehind_35 s_X2_110 (Nat.le_of_ble_eq_true rfl) (Nat.le_of_ble_eq_true rfl) (Nat.le_of_ble_eq_true rfl) (rfl) ?_
      refine Kr_isub C dX2_warmthBehind_38 ?_
      exact hend _ _ _ _ _ dX2_warmthBehind_39 (rfl) (⟨by unfold behindF; rw [if_neg (i32_nle.mpr c1), if_neg (i32_nle.mpr c12)], rfl, rfl⟩)
    ·
      refine Kr_iload_n C dX2_warmthBehind_15 0 rfl ?_
      exact hend _ _ _ _ _ dX2_warmthBehind_16 (rfl) (⟨by unfold behindF; rw [if_neg (i32_nle.mpr c1), if_pos (i32_nlt.mp c12)], rfl, rfl⟩)
  ·
    refine Kr_iload_n C dX2_warmthBehind_4 0 rfl ?_
    refine Kr_iload_n C dX2_warmthBehind_5 1 rfl ?_
    refine Kr_min (v := minI a b) C dX2_warmthBehind_6 s_X2_110 (Nat.le_of_ble_eq_true rfl) (Nat.le_of_ble_eq_true rfl) (Nat.le_of_ble_eq_true rfl) (rfl) ?_
    exact hend _ _ _ _ _ dX2_warmthBehind_9 (rfl) (⟨by unfold behindF; rw [if_pos (i32_nlt.mp c1)], rfl, rfl⟩)

set_option maxRecDepth 20000 in
set_option maxHeartbeats 1000000 in
theorem Kc_X2_warmthAbove (l : Launch) (G : mG) (hG : KmInj G) (M : Mem) (g : Glo) (V : View) (hT : wfT V) (hV : cNet M 2 V) (H : Nat) (hH : KisHour H) (hH9 : 70 < H) (j : Nat) (h0 : 0 < j) (hj : j < vN V) : KmcI l G yX2_warmthAbove cX2_warmthAbove 3 .int 2 [.ref (mA G H), .ref (mA G 2), .int (nI j)] M g (fun r M' g' => r = M (H + 2) (vP V j) ∧ M' = M ∧ g' = g) := by
  refine KmcI_of (L0 := [(0, .ref (mA G H)), (1, .ref (mA G 2)), (2, .int (nI j))]) hG (by decide) (Nat.le_of_ble_eq_true rfl) rfl ?_
  intro p e s m args below meth c Q C hend
  have hT0 := hT
  obtain ⟨hn1, hn16, hb4, ⟨hd0, hd3, hd5, hd6⟩, hpar⟩ := hT0
  obtain ⟨hp1, hp2⟩ := hpar j h0 hj
  refine Kr_aload_n C dX2_warmthAbove_0 1 rfl ?_
  refine Kr_iload_n C dX2_warmthAbove_1 2 rfl ?_
  refine Kr_callVI (As := [.int (nI j)]) (rest := []) C dX2_warmthAbove_2 s_X2_122 (Kc_X3_hasParent l G hG M g V hT hV j h0 hj) (by decide) rfl rfl rfl rfl (Nat.le_of_ble_eq_true rfl) (Nat.le_of_ble_eq_true rfl) (Nat.le_of_ble_eq_true rfl) (pk_I ?_)
  refine Kr_if_eq (tgt := 22) C dX2_warmthAbove_5 (by decide) (fun h => absurd h (by decide)) (fun _ => ?_)
  refine Kr_aload_n C dX2_warmthAbove_8 0 rfl ?_
  refine Kr_getr (q2 := (H + 2)) C dX2_warmthAbove_9 1 f_X2_15 (hH.1) rfl ?_
  refine Kr_aload_n C dX2_warmthAbove_12 1 rfl ?_
  refine Kr_getr (q2 := 3) C dX2_warmthAbove_13 0 f_X2_126 rfl rfl ?_
  refine Kr_iload_n C dX2_warmthAbove_16 2 rfl ?_
  refine Kr_ialdN (j := j) (v := nI (vP V j)) C dX2_warmthAbove_17 rfl (rfl) (by omega) (by decide) ((hV.at 0 (by decide) hj).trans hp1) ?_
  refine Kr_ialdN (j := vP V j) (v := M (H + 2) (vP V j)) C dX2_warmthAbove_18 ((hH).2.2.1) (rfl) (by omega) (by decide) (rfl) ?_
  refine Kr_goto (tgt := 23) C dX2_warmthAbove_19 (by decide) ?_
  exact hend _ _ _ _ _ dX2_warmthAbove_23 (rfl) (⟨rfl, rfl, rfl⟩)

set_option maxRecDepth 20000 in
set_option maxHeartbeats 1000000 in
theorem Kc_X2_returnOf (l : Launch) (G : mG) (hG : KmInj G) (M : Mem) (g : Glo) (V : View) (hT : wfT V) (hV : cNet M 2 V) (H : Nat) (hH : KisHour H) (hH9 : 70 < H) (j : Nat) (hj : j < vN V) : KmcI l G yX2_returnOf cX2_returnOf 3 .int 1 [.ref (mA G H), .ref (mA G 2), .int (nI j)] M g (fun r M' g' => r = minI (vD V 4 j) (M (H + 2) j) ∧ M' = M ∧ g' = g) := by
  refine KmcI_of (L0 := [(0, .ref (mA G H)), (1, .ref (mA G 2)), (2, .int (nI j))]) hG (by decide) (Nat.le_of_ble_eq_true rfl) rfl ?_
  intro p e s m args below meth c Q C hend
  have hT0 := hT
  obtain ⟨hn1, hn16, hb4, ⟨hd0, hd3, hd5, hd6⟩, hpar⟩ := hT0
  refine Kr_aload_n C dX2_returnOf_0 1 rfl ?_
  refine Kr_getr (q2 := 7) C dX2_returnOf_1 4 f_X2_119 rfl rfl ?_
  refine Kr_iload_n C dX2_returnOf_4 2 rfl ?_
  refine Kr_ialdN (j := j) (v := vD V 4 j) C dX2_returnOf_5 rfl (rfl) (by omega) (by decide) (hV.at 4 (by decide) hj) ?_
  refine Kr_aload_n C dX2_returnOf_6 0 rfl ?_
  refine Kr_getr (q2 := (H + 2)) C dX2_returnOf_7 1 f_X2_15 (hH.1) rfl ?_
  refine Kr_iload_n C dX2_returnOf_10 2 rfl ?_
  refine Kr_ialdN (j := j) (v := M (H + 2) j) C dX2_returnOf_11 ((hH).2.2.1) (rfl) (by omega) (by decide) (rfl) ?_
  refine Kr_min (v := minI (vD V 4 j) (M (H + 2) j)) C dX2_returnOf_12 s_X2_110 (Nat.le_of_ble_eq_true rfl) (Nat.le_of_ble_eq_true rfl) (Nat.le_of_ble_eq_true rfl) (rfl) ?_
  exact hend _ _ _ _ _ dX2_returnOf_15 (rfl) (⟨rfl, rfl, rfl⟩)

set_option maxRecDepth 20000 in
set_option maxHeartbeats 1000000 in
theorem Kc_X2_settleWarmth (l : Launch) (G : mG) (hG : KmInj G) (M : Mem) (g : Glo) (V : View) (hT : wfT V) (hV : cNet M 2 V) (H : Nat) (hH : KisHour H) (hH9 : 70 < H) (sup : Int32) (hgd : M 1 3 = vS V 1) (hfl : ∀ j, j < vN V → M (H + 1) j = flowF V j) (hdv : ∀ j, 0 < j → j < vN V → ¬ flowF V j ≤ 0 → ¬ 1000 * flowF V j = 0) : KmcV l G yX2_settleWarmth cX2_settleWarmth 6 3 [.ref (mA G H), .ref (mA G 1), .int sup] M g (fun M' g' => (∃ f, M' = mrow M (H + 2) f ∧ ∀ j, j < vN V → f j = warmF V sup j) ∧ g' = g) := by
  refine KmcV_of (L0 := [(0, .ref (mA G H)), (1, .ref (mA G 1)), (2, .int sup)]) hG (by decide) (Nat.le_of_ble_eq_true rfl) rfl ?_
  intro p e s m args below meth c Q C hend
  have hT0 := hT
  obtain ⟨hn1, hn16, hb4, ⟨hd0, hd3, hd5, hd6⟩, hpar⟩ := hT0
  refine Kr_aload_n C dX2_settleWarmth_0 1 rfl ?_
  refine Kr_getr (q2 := 2) C dX2_settleWarmth_1 0 f_X2_34 rfl rfl ?_
  refine Kr_astore_n (L' := [(3, .ref (mA G 2)), (0, .ref (mA G H)), (1, .ref (mA G 1)), (2, .int sup)]) C dX2_settleWarmth_4 (by decide) rfl ?_
  refine Kr_aload_n C dX2_settleWarmth_5 1 rfl ?_
  refine Kr_getr (q2 := (H + 2)) C dX2_settleWarmth_6 1 f_X2_15 (hH.1) rfl ?_
  refine Kr_iconst (v := 0) C dX2_settleWarmth_9 rfl ?_
  refine Kr_iload_n C dX2_settleWarmth_10 3 rfl ?_
  refine Kr_iastN (j := 0) C dX2_settleWarmth_11 ((hH).2.2.1) (rfl) (by omega) (by decide) ?_
  refine Kr_mem (M' := mrow M (H + 2) (upd (M (H + 2)) 0 sup)) (rfl) ?_
  refine Kr_iconst (v := nI 1) C dX2_settleWarmth_12 rfl ?_
  refine Kr_istore (L' := [(4, .int (nI 1)), (3, .ref (mA G 2)), (0, .ref (mA G H)), (1, .ref (mA G 1)), (2, .int sup)]) C dX2_settleWarmth_13 (by decide) rfl ?_
  have lp15 : ∀ (fu : Nat) (k : Nat) (f : Nat → Int32), (0 < k) → (k ≤ vN V) → (∀ j, j < k → f j = warmF V sup j) → (vN V - k) < fu → KAt p l e (rmD 3 0 0) s m args below meth c G 6 0 0 Q (mrow M (H + 2) f) g [(4, .int (nI k)), (3, .ref (mA G 2)), (0, .ref (mA G H)), (1, .ref (mA G 1)), (2, .int sup)] 15 [] := by
    intro fu
    induction fu with
    | zero => intro k f hk0 hkn hf hfu; exact absurd hfu (Nat.not_lt_zero _)
    | succ fu ih15 =>
      intro k f hk0 hkn hf hfu15
      have hV2 : cNet (mrow M (H + 2) f) 2 V := hV.off (offR.row f (Nat.le_refl _) (Nat.le_refl _)) (by omega)
      refine Kr_iload C dX2_settleWarmth_15 0 rfl ?_
      refine Kr_aload_n C dX2_settleWarmth_17 1 rfl ?_
      refine Kr_geti C dX2_settleWarmth_18 8 f_X2_65 rfl rfl ?_
      refine Kr_valI (y := nI (vN V)) (hV2.1) ?_
      refine Kr_icmp_ge (tgt := 77) C dX2_settleWarmth_21 (by decide) (fun c21 => ?_) (fun c21 => ?_)
      ·
        have hkn2 : k = vN V := by have := le_of_le (by omega) (by omega) c21; omega
        exact hend _ _ _ _ dX2_settleWarmth_77 (⟨⟨_, rfl, fun j hj => hf j (by omega)⟩, rfl⟩)
      ·
        have hlt : k < vN V := lt_of_nle (by omega) c21
        refine Kr_aload_n C dX2_settleWarmth_24 1 rfl ?_
        refine Kr_getr (q2 := 5) C dX2_settleWarmth_25 2 f_X2_80 rfl rfl ?_
        refine Kr_iload C dX2_settleWarmth_28 0 rfl ?_
        refine Kr_ialdN (j := k) (v := vD V 2 k) C dX2_settleWarmth_30 rfl (rfl) (by omega) (by decide) (hV2.at 2 (by decide) hlt) ?_
        refine Kr_aload_n C dX2_settleWarmth_31 1 rfl ?_
        refine Kr_getr (q2 := 4) C dX2_settleWarmth_32 1 f_X2_83 rfl rfl ?_
        refine Kr_iload C dX2_settleWarmth_35 0 rfl ?_
        refine Kr_ialdN (j := k) (v := vD V 1 k) C dX2_settleWarmth_37 rfl (rfl) (by omega) (by decide) (hV2.at 1 (by decide) hlt) ?_
        refine Kr_imul C dX2_settleWarmth_38 ?_
        refine Kr_istore (L' := [(5, .int ((vD V 2 k) * (vD V 1 k))), (4, .int (nI k)), (3, .ref (mA G 2)), (0, .ref (mA G H)), (1, .ref (mA G 1)), (2, .int sup)]) C dX2_settleWarmth_39 (by decide) rfl ?_
        refine Kr_aload_n C dX2_settleWarmth_41 3 rfl ?_
        refine Kr_getr (q2 := (H + 2)) C dX2_settleWarmth_42 1 f_X2_15 (hH.1) rfl ?_
        refine Kr_iload C dX2_settleWarmth_45 1 rfl ?_
        refine Kr_aload_n C dX2_settleWarmth_47 3 rfl ?_
        refine Kr_aload_n C dX2_settleWarmth_48 2 rfl ?_
        refine Kr_iload C dX2_settleWarmth_49 1 rfl ?_
        refine Kr_callVI (As := [.ref (mA G 2), .int (nI k)]) (rest := [.int (nI k), .ref (mA G (H + 2))]) C dX2_settleWarmth_51 s_X2_86 (Kc_X2_warmthAbove l G hG (mrow M (H + 2) f) g V hT hV2 H hH hH9 k hk0 hlt) (by decide) (hH.1) rfl rfl rfl (Nat.le_of_ble_eq_true rfl) (Nat.le_of_ble_eq_true rfl) (Nat.le_of_ble_eq_true rfl) (pk_I ?_)
        refine Kr_valI (y := f (vP V k)) (by rw [mrow_at]) ?_
        refine Kr_aload_n C dX2_settleWarmth_54 4 rfl ?_
        refine Kr_geti C dX2_settleWarmth_55 3 f_X2_90 rfl rfl ?_
        refine Kr_valI (y := vS V 1) ((congrFun (mrow_ne (by omega) f) 3).trans hgd) ?_
        refine Kr_iload C dX2_settleWarmth_58 0 rfl ?_
        refine Kr_aload_n C dX2_settleWarmth_60 3 rfl ?_
        refine Kr_getr (q2 := (H + 1)) C dX2_settleWarmth_61 0 f_X2_9 (hH.1) rfl ?_
        refine Kr_iload C dX2_settleWarmth_64 1 rfl ?_
        refine Kr_ialdN (j := k) (v := flowF V k) C dX2_settleWarmth_66 ((hH).2.1) (rfl) (by omega) (by decide) ((congrFun (mrow_ne (by omega) f) k).trans (hfl k hlt)) ?_
        refine Kr_callSI (As := [.int (f (vP V k)), .int (vS V 1), .int ((vD V 2 k) * (vD V 1 k)), .int (flowF V k)]) (rest := [.int (nI k), .ref (mA G (H + 2))]) C dX2_settleWarmth_67 s_X2_93 (Kc_X2_warmthBehind l G hG (mrow M (H + 2) f) g (f (vP V k)) (vS V 1) (vD V 2 k * vD V 1 k) (flowF V k) (hdv k hk0 hlt)) (by decide) rfl rfl (Nat.le_of_ble_eq_true rfl) (Nat.le_of_ble_eq_true rfl) (Nat.le_of_ble_eq_true rfl) (pk_I ?_)
        refine Kr_iastN (j := k) C dX2_settleWarmth_70 ((hH).2.2.1) (rfl) (by omega) (by decide) ?_
        refine Kr_mem (M' := mrow M (H + 2) (upd f k (behindF (f (vP V k)) (vS V 1) (vD V 2 k * vD V 1 k) (flowF V k)))) (mset_row _ _ _ _ _) ?_
        refine Kr_iinc (v := nI (k + 1)) (L' := [(4, .int (nI (k + 1))), (5, .int ((vD V 2 k) * (vD V 1 k))), (3, .ref (mA G 2)), (0, .ref (mA G H)), (1, .ref (mA G 1)), (2, .int sup)]) C dX2_settleWarmth_71 1 rfl (nI_inc _) (by decide) rfl ?_
        refine Kr_goto (tgt := 15) C dX2_settleWarmth_74 (by decide) ?_
        refine Kr_sub (L' := [(4, .int (nI (k + 1))), (3, .ref (mA G 2)), (0, .ref (mA G H)), (1, .ref (mA G 1)), (2, .int sup)]) [0, 2, 3, 4, 5] rfl ?_
        exact ih15 (k + 1) _ (by omega) (by omega) (fun j hj => by rcases Nat.lt_or_ge j k with q | q; rw [upd_ne (by omega)]; exact hf j q; (have e9 : j = k := by omega); subst e9; rw [upd_at, warmF_s V sup hk0 (hpar j hk0 hlt).2, hf _ (hpar j hk0 hlt).2]; rfl) (by omega)
  refine Kr_sub (L' := [(4, .int (nI 1)), (3, .ref (mA G 2)), (0, .ref (mA G H)), (1, .ref (mA G 1)), (2, .int sup)]) [0, 1, 2, 3, 4] rfl ?_
  exact lp15 _ 1 (upd (M (H + 2)) 0 sup) (by omega) hn1 (fun j hj => by (have e9 : j = 0 := by omega); subst e9; rw [upd_at, warmF_0]) (Nat.lt_succ_self _)

set_option maxRecDepth 20000 in
set_option maxHeartbeats 1000000 in
theorem Kc_X2_settleReturns (l : Launch) (G : mG) (hG : KmInj G) (M : Mem) (g : Glo) (V : View) (hT : wfT V) (hV : cNet M 2 V) (H : Nat) (hH : KisHour H) (hH9 : 70 < H) (sup : Int32) (hw : ∀ j, j < vN V → M (H + 2) j = warmF V sup j) : KmcV l G yX2_settleReturns cX2_settleReturns 3 3 [.ref (mA G H), .ref (mA G 2)] M g (fun M' g' => (∃ f, M' = mrow M (H + 3) f ∧ ∀ j, j < vN V → f j = backF V sup j) ∧ g' = g) := by
  refine KmcV_of (L0 := [(0, .ref (mA G H)), (1, .ref (mA G 2))]) hG (by decide) (Nat.le_of_ble_eq_true rfl) rfl ?_
  intro p e s m args below meth c Q C hend
  have hT0 := hT
  obtain ⟨hn1, hn16, hb4, ⟨hd0, hd3, hd5, hd6⟩, hpar⟩ := hT0
  refine Kr_iconst (v := nI 0) C dX2_settleReturns_0 rfl ?_
  refine Kr_istore_n (L' := [(2, .int (nI 0)), (0, .ref (mA G H)), (1, .ref (mA G 2))]) C dX2_settleReturns_1 (by decide) rfl ?_
  have lp2 : ∀ (fu : Nat) (k : Nat) (f : Nat → Int32), (k ≤ vN V) → (∀ j, j < k → f j = vD V 3 j * rF V sup j) → (vN V - k) < fu → KAt p l e (rmD 3 0 0) s m args below meth c G 3 0 0 Q (mrow M (H + 3) f) g [(2, .int (nI k)), (0, .ref (mA G H)), (1, .ref (mA G 2))] 2 [] := by
    intro fu
    induction fu with
    | zero => intro k f hkn hf hfu; exact absurd hfu (Nat.not_lt_zero _)
    | succ fu ih2 =>
      intro k f hkn hf hfu2
      have hV2 : cNet (mrow M (H + 3) f) 2 V := hV.off (offR.row f (Nat.le_refl _) (Nat.le_refl _)) (by omega)
      refine Kr_iload_n C dX2_settleReturns_2 0 rfl ?_
      refine Kr_aload_n C dX2_settleReturns_3 2 rfl ?_
      refine Kr_geti C dX2_settleReturns_4 8 f_X2_65 rfl rfl ?_
      refine Kr_valI (y := nI (vN V)) (hV2.1) ?_
      refine Kr_icmp_ge (tgt := 35) C dX2_settleReturns_7 (by decide) (fun c7 => ?_) (fun c7 => ?_)
      ·
        have hkn2 : k = vN V := by have := le_of_le (by omega) (by omega) c7; omega
        refine Kr_aload_n C dX2_settleReturns_35 2 rfl ?_
        refine Kr_aload_n C dX2_settleReturns_36 1 rfl ?_
        refine Kr_getr (q2 := (H + 3)) C dX2_settleReturns_37 2 f_X2_18 (hH.1) rfl ?_
        refine Kr_callSV (As := [.ref (mA G 2), .ref (mA G (H + 3))]) (rest := []) C dX2_settleReturns_40 s_X2_76 (Kc_X2_addUpTheTree l G hG (mrow M (H + 3) f) g V hT hV2 (H + 3) hH.2.2.2.1 (by omega)) (by decide) rfl rfl (Nat.le_of_ble_eq_true rfl) (Nat.le_of_ble_eq_true rfl) (Nat.le_of_ble_eq_true rfl) (pk_V ?_)
        exact hend _ _ _ _ dX2_settleReturns_43 (⟨⟨_, mrow_mrow _ _ _ _, fun j hj => by rw [mrow_at]; exact addUp_cong (vN V - 1) _ _ (by omega) (fun j h1 h2 => (hpar j h1 (by omega)).2) (fun j hj => by by_cases e : j = 0; (subst e; rw [hf 0 (by omega), hd3, if_pos rfl, Int32.zero_mul]); rw [hf j (by omega), if_neg e]) j hj⟩, rfl⟩)
      ·
        have hlt : k < vN V := lt_of_nle (by omega) c7
        refine Kr_aload_n C dX2_settleReturns_10 1 rfl ?_
        refine Kr_getr (q2 := (H + 3)) C dX2_settleReturns_11 2 f_X2_18 (hH.1) rfl ?_
        refine Kr_iload_n C dX2_settleReturns_14 0 rfl ?_
        refine Kr_aload_n C dX2_settleReturns_15 2 rfl ?_
        refine Kr_getr (q2 := 6) C dX2_settleReturns_16 3 f_X2_70 rfl rfl ?_
        refine Kr_iload_n C dX2_settleReturns_19 0 rfl ?_
        refine Kr_ialdN (j := k) (v := vD V 3 k) C dX2_settleReturns_20 rfl (rfl) (by omega) (by decide) (hV2.at 3 (by decide) hlt) ?_
        refine Kr_aload_n C dX2_settleReturns_21 1 rfl ?_
        refine Kr_aload_n C dX2_settleReturns_22 2 rfl ?_
        refine Kr_iload_n C dX2_settleReturns_23 0 rfl ?_
        refine Kr_callVI (As := [.ref (mA G 2), .int (nI k)]) (rest := [.int (vD V 3 k), .int (nI k), .ref (mA G (H + 3))]) C dX2_settleReturns_24 s_X2_97 (Kc_X2_returnOf l G hG (mrow M (H + 3) f) g V hT hV2 H hH hH9 k hlt) (by decide) (hH.1) rfl rfl rfl (Nat.le_of_ble_eq_true rfl) (Nat.le_of_ble_eq_true rfl) (Nat.le_of_ble_eq_true rfl) (pk_I ?_)
        refine Kr_valI (y := rF V sup k) (by rw [mrow_ne (by omega), hw k hlt]; rfl) ?_
        refine Kr_imul C dX2_settleReturns_27 ?_
        refine Kr_iastN (j := k) C dX2_settleReturns_28 ((hH).2.2.2.1) (rfl) (by omega) (by decide) ?_
        refine Kr_mem (M' := mrow M (H + 3) (upd f k (vD V 3 k * rF V sup k))) (mset_row _ _ _ _ _) ?_
        refine Kr_iinc (v := nI (k + 1)) (L' := [(2, .int (nI (k + 1))), (0, .ref (mA G H)), (1, .ref (mA G 2))]) C dX2_settleReturns_29 0 rfl (nI_inc _) (by decide) rfl ?_
        refine Kr_goto (tgt := 2) C dX2_settleReturns_32 (by decide) ?_
        refine Kr_sub (L' := [(2, .int (nI (k + 1))), (0, .ref (mA G H)), (1, .ref (mA G 2))]) [0, 1, 2] rfl ?_
        exact ih2 (k + 1) (upd f k (vD V 3 k * rF V sup k)) (by omega) (fun j hj => by rcases Nat.lt_or_ge j k with q | q; rw [upd_ne (by omega)]; exact hf j q; (have e9 : j = k := by omega); subst e9; rw [upd_at]) (by omega)
  refine Kr_mem (M' := mrow M (H + 3) (M (H + 3))) (mrow_self _ _).symm ?_
  refine Kr_sub (L' := [(2, .int (nI 0)), (0, .ref (mA G H)), (1, .ref (mA G 2))]) [0, 1, 2] rfl ?_
  exact lp2 _ 0 (M (H + 3)) (by omega) (fun j hj => by omega) (Nat.lt_succ_self _)

set_option maxRecDepth 20000 in
set_option maxHeartbeats 1000000 in
theorem Kc_X2_settleLoads (l : Launch) (G : mG) (hG : KmInj G) (M : Mem) (g : Glo) (V : View) (hT : wfT V) (hV : cBoi M 11 V) (H : Nat) (hH : KisHour H) (hH9 : 70 < H) (nd : Int32) (hnd : M H 4 = nd) : KmcV l G yX2_settleLoads cX2_settleLoads 5 3 [.ref (mA G H), .ref (mA G 11)] M g (fun M' g' => (∃ f, M' = mset (mset (mrow M (H + 4) f) H 6 (costF V nd)) H 5 (unmetF V nd) ∧ ∀ b, b < vB V → f b = loadF V nd b) ∧ g' = g) := by
  refine KmcV_of (L0 := [(0, .ref (mA G H)), (1, .ref (mA G 11))]) hG (by decide) (Nat.le_of_ble_eq_true rfl) rfl ?_
  intro p e s m args below meth c Q C hend
  have hT0 := hT
  obtain ⟨hn1, hn16, hb4, ⟨hd0, hd3, hd5, hd6⟩, hpar⟩ := hT0
  have hVg : ∀ (f : Nat → Int32) (c : Int32), cBoi (mset (mrow M (H + 4) f) H 6 c) 11 V := fun f c => hV.off (a := H) (b := H + 4) (fun q hq => by rw [mset_ne (by omega), mrow_ne (by omega)]) (by omega)
  refine Kr_aload_n C dX2_settleLoads_0 0 rfl ?_
  refine Kr_geti C dX2_settleLoads_1 4 f_X2_24 (hH.1) rfl ?_
  refine Kr_valI (y := nd) (hnd) ?_
  refine Kr_istore_n (L' := [(2, .int nd), (0, .ref (mA G H)), (1, .ref (mA G 11))]) C dX2_settleLoads_4 (by decide) rfl ?_
  refine Kr_aload_n C dX2_settleLoads_5 1 rfl ?_
  refine Kr_iconst (v := 0) C dX2_settleLoads_6 rfl ?_
  refine Kr_puti C dX2_settleLoads_7 6 fi_X2_31 (hH.1) rfl ?_
  refine Kr_mem (M' := mset (mrow M (H + 4) (M (H + 4))) H 6 (csF V nd 0)) (by rw [mrow_self]; rfl) ?_
  refine Kr_iconst (v := nI 0) C dX2_settleLoads_10 rfl ?_
  refine Kr_istore_n (L' := [(3, .int (nI 0)), (2, .int nd), (0, .ref (mA G H)), (1, .ref (mA G 11))]) C dX2_settleLoads_11 (by decide) rfl ?_
  have lp12 : ∀ (fu : Nat) (k : Nat) (f : Nat → Int32) (lf : Int32), (k ≤ vB V) → (∀ p, p < k → f (boilAt V p) = ldV V (lfF V nd p) (boilAt V p)) → (lf = lfF V nd k) → (vB V - k) < fu → KAt p l e (rmD 3 0 0) s m args below meth c G 5 0 0 Q (mset (mrow M (H + 4) f) H 6 (csF V nd k)) g [(3, .int (nI k)), (2, .int lf), (0, .ref (mA G H)), (1, .ref (mA G 11))] 12 [] := by
    intro fu
    induction fu with
    | zero => intro k f lf hkn hf hl hfu; exact absurd hfu (Nat.not_lt_zero _)
    | succ fu ih12 =>
      intro k f lf hkn hf hl hfu12
      refine Kr_iload_n C dX2_settleLoads_12 0 rfl ?_
      refine Kr_aload_n C dX2_settleLoads_13 3 rfl ?_
      refine Kr_geti C dX2_settleLoads_14 3 f_X2_100 rfl rfl ?_
      refine Kr_valI (y := nI (vB V)) ((hVg _ _).1) ?_
      refine Kr_icmp_ge (tgt := 144) C dX2_settleLoads_17 (by decide) (fun c17 => ?_) (fun c17 => ?_)
      ·
        have hkn2 : k = vB V := by have := le_of_le (by omega) (by omega) c17; omega
        refine Kr_aload_n C dX2_settleLoads_144 2 rfl ?_
        refine Kr_iload_n C dX2_settleLoads_145 1 rfl ?_
        refine Kr_puti C dX2_settleLoads_146 5 fi_X2_28 (hH.1) rfl ?_
        exact hend _ _ _ _ dX2_settleLoads_149 (⟨⟨f, by rw [hl, hkn2]; rfl, fun b hb => by have h9 := hf (placeN V b) (by have := placeN_lt V hb; omega); rw [boilAt_place V hb] at h9; exact h9⟩, rfl⟩)
      ·
        have hlt : k < vB V := lt_of_nle (by omega) c17
        have hb := (boilAt_spec V hlt).1
        refine Kr_aload_n C dX2_settleLoads_20 3 rfl ?_
        refine Kr_iload_n C dX2_settleLoads_21 0 rfl ?_
        refine Kr_callVI (As := [.int (nI k)]) (rest := []) C dX2_settleLoads_22 s_X2_103 (Kc_X0_atPlace l G hG (mset (mrow M (H + 4) f) H 6 (csF V nd k)) g V hT (hVg f (csF V nd k)) k hlt) (by decide) rfl rfl rfl rfl (Nat.le_of_ble_eq_true rfl) (Nat.le_of_ble_eq_true rfl) (Nat.le_of_ble_eq_true rfl) (pk_I ?_)
        refine Kr_istore (L' := [(4, .int (nI (boilAt V k))), (3, .int (nI k)), (2, .int lf), (0, .ref (mA G H)), (1, .ref (mA G 11))]) C dX2_settleLoads_25 (by decide) rfl ?_
        refine Kr_iload C dX2_settleLoads_27 0 rfl ?_
        refine Kr_iconst (v := (-1)) C dX2_settleLoads_29 rfl ?_
        refine Kr_icmp_ne (tgt := 36) C dX2_settleLoads_30 (by decide) (fun _ => ?_) (fun h => absurd h (nI_nm1 (by omega)))
        refine Kr_aload_n C dX2_settleLoads_36 3 rfl ?_
        refine Kr_getr (q2 := (H + 4)) C dX2_settleLoads_37 3 f_X2_21 (hH.1) rfl ?_
        refine Kr_iload C dX2_settleLoads_40 0 rfl ?_
        refine Kr_aload_n C dX2_settleLoads_42 4 rfl ?_
        refine Kr_getr (q2 := 12) C dX2_settleLoads_43 0 f_X2_107 rfl rfl ?_
        refine Kr_iload C dX2_settleLoads_46 0 rfl ?_
        refine Kr_ialdN (j := boilAt V k) (v := vO V 0 (boilAt V k)) C dX2_settleLoads_48 rfl (rfl) (by omega) (by decide) ((hVg _ _).at 0 (by decide) hb) ?_
        refine Kr_iload_n C dX2_settleLoads_49 2 rfl ?_
        refine Kr_min (v := minI (vO V 0 (boilAt V k)) lf) C dX2_settleLoads_50 s_X2_110 (Nat.le_of_ble_eq_true rfl) (Nat.le_of_ble_eq_true rfl) (Nat.le_of_ble_eq_true rfl) (rfl) ?_
        refine Kr_iastN (j := boilAt V k) C dX2_settleLoads_53 ((hH).2.2.2.2) (rfl) (by omega) (by decide) ?_
        refine Kr_mem (M' := mset (mrow M (H + 4) (upd f (boilAt V k) (minI (vO V 0 (boilAt V k)) lf))) H 6 (csF V nd k)) (mset_row_c (by omega)) ?_
        refine Kr_aload_n C dX2_settleLoads_54 3 rfl ?_
        refine Kr_getr (q2 := (H + 4)) C dX2_settleLoads_55 3 f_X2_21 (hH.1) rfl ?_
        refine Kr_iload C dX2_settleLoads_58 0 rfl ?_
        refine Kr_ialdN (j := boilAt V k) (v := minI (vO V 0 (boilAt V k)) lf) C dX2_settleLoads_60 ((hH).2.2.2.2) (rfl) (by omega) (by decide) (by rw [mset_ne (by omega), mrow_at, upd_at]) ?_
        refine Kr_if_le (tgt := 100) C dX2_settleLoads_61 (by decide) (fun c61 => ?_) (fun c61 => ?_)
        ·
          refine Kr_iload_n C dX2_settleLoads_100 2 rfl ?_
          refine Kr_aload_n C dX2_settleLoads_101 3 rfl ?_
          refine Kr_getr (q2 := (H + 4)) C dX2_settleLoads_102 3 f_X2_21 (hH.1) rfl ?_
          refine Kr_iload C dX2_settleLoads_105 0 rfl ?_
          refine Kr_ialdN (j := boilAt V k) (v := minI (vO V 0 (boilAt V k)) lf) C dX2_settleLoads_107 ((hH).2.2.2.2) (rfl) (by omega) (by decide) (by rw [mset_ne (by omega), mrow_at, upd_at]) ?_
          refine Kr_isub C dX2_settleLoads_108 ?_
          refine Kr_istore_n (L' := [(2, .int (lf - (minI (vO V 0 (boilAt V k)) lf))), (4, .int (nI (boilAt V k))), (3, .int (nI k)), (0, .ref (mA G H)), (1, .ref (mA G 11))]) C dX2_settleLoads_109 (by decide) rfl ?_
          have hld : ldV V lf (boilAt V k) = minI (vO V 0 (boilAt V k)) lf := if_neg (fun h => i32_nlt.mpr c61 h.1)
          have hnx : nxL V lf (boilAt V k) = lf - minI (vO V 0 (boilAt V k)) lf := if_neg (fun h => i32_nlt.mpr c61 h.1)
          refine Kr_aload_n C dX2_settleLoads_110 3 rfl ?_
          refine Kr_dup C dX2_settleLoads_111 rfl ?_
          refine Kr_geti C dX2_settleLoads_112 6 f_X2_31 (hH.1) rfl ?_
          refine Kr_valI (y := csF V nd k) (by rw [mset_at, upd_at]) ?_
          refine Kr_aload_n C dX2_settleLoads_115 3 rfl ?_
          refine Kr_getr (q2 := (H + 4)) C dX2_settleLoads_116 3 f_X2_21 (hH.1) rfl ?_
          refine Kr_iload C dX2_settleLoads_119 1 rfl ?_
          refine Kr_ialdN (j := boilAt V k) (v := minI (vO V 0 (boilAt V k)) lf) C dX2_settleLoads_121 ((hH).2.2.2.2) (rfl) (by omega) (by decide) (by rw [mset_ne (by omega), mrow_at, upd_at]) ?_
          refine Kr_aload_n C dX2_settleLoads_122 4 rfl ?_
          refine Kr_getr (q2 := 14) C dX2_settleLoads_123 2 f_X2_116 rfl rfl ?_
          refine Kr_iload C dX2_settleLoads_126 1 rfl ?_
          refine Kr_ialdN (j := boilAt V k) (v := vO V 2 (boilAt V k)) C dX2_settleLoads_128 rfl (rfl) (by omega) (by decide) ((hVg _ _).at 2 (by decide) hb) ?_
          refine Kr_imul C dX2_settleLoads_129 ?_
          refine Kr_sipush (v := 1000) C dX2_settleLoads_130 rfl ?_
          refine Kr_idiv C dX2_settleLoads_133 (by decide) ?_
          refine Kr_iadd C dX2_settleLoads_134 ?_
          refine Kr_puti C dX2_settleLoads_135 6 fi_X2_31 (hH.1) rfl ?_
          refine Kr_mem (M' := mset (mrow M (H + 4) (upd f (boilAt V k) (minI (vO V 0 (boilAt V k)) lf))) H 6 (csF V nd (k + 1))) (by rw [mset_again, csF, ← hl, hld]) ?_
          refine Kr_iinc (v := nI (k + 1)) (L' := [(3, .int (nI (k + 1))), (2, .int (lf - (minI (vO V 0 (boilAt V k)) lf))), (4, .int (nI (boilAt V k))), (0, .ref (mA G H)), (1, .ref (mA G 11))]) C dX2_settleLoads_138 2 rfl (nI_inc _) (by decide) rfl ?_
          refine Kr_goto (tgt := 12) C dX2_settleLoads_141 (by decide) ?_
          refine Kr_sub (L' := [(3, .int (nI (k + 1))), (2, .int (lf - (minI (vO V 0 (boilAt V k)) lf))), (0, .ref (mA G H)), (1, .ref (mA G 11))]) [0, 1, 3, 4] rfl ?_
          exact ih12 (k + 1) (upd f (boilAt V k) (minI (vO V 0 (boilAt V k)) lf)) _ (by omega) (fun p hp => by rcases Nat.lt_or_ge p k with q | q; (rw [upd_ne (fun e9 => by have h8 := (boilAt_spec V (k := p) (by omega)).2.1; have h9 := (boilAt_spec V hlt).2.1; rw [e9] at h8; omega)]; exact hf p q); (have e9 : p = k := by omega); subst e9; rw [upd_at, ← hl, hld]) (by rw [lfF, ← hl, hnx]) (by omega)
        ·
          refine Kr_aload_n C dX2_settleLoads_64 3 rfl ?_
          refine Kr_getr (q2 := (H + 4)) C dX2_settleLoads_65 3 f_X2_21 (hH.1) rfl ?_
          refine Kr_iload C dX2_settleLoads_68 0 rfl ?_
          refine Kr_ialdN (j := boilAt V k) (v := minI (vO V 0 (boilAt V k)) lf) C dX2_settleLoads_70 ((hH).2.2.2.2) (rfl) (by omega) (by decide) (by rw [mset_ne (by omega), mrow_at, upd_at]) ?_
          refine Kr_aload_n C dX2_settleLoads_71 4 rfl ?_
          refine Kr_getr (q2 := 13) C dX2_settleLoads_72 1 f_X2_113 rfl rfl ?_
          refine Kr_iload C dX2_settleLoads_75 0 rfl ?_
          refine Kr_ialdN (j := boilAt V k) (v := vO V 1 (boilAt V k)) C dX2_settleLoads_77 rfl (rfl) (by omega) (by decide) ((hVg _ _).at 1 (by decide) hb) ?_
          refine Kr_icmp_ge (tgt := 100) C dX2_settleLoads_78 (by decide) (fun c78 => ?_) (fun c78 => ?_)
          ·
            refine Kr_iload_n C dX2_settleLoads_100 2 rfl ?_
            refine Kr_aload_n C dX2_settleLoads_101 3 rfl ?_
            refine Kr_getr (q2 := (H + 4)) C dX2_settleLoads_102 3 f_X2_21 (hH.1) rfl ?_
            refine Kr_iload C dX2_settleLoads_105 0 rfl ?_
            refine Kr_ialdN (j := boilAt V k) (v := minI (vO V 0 (boilAt V k)) lf) C dX2_settleLoads_107 ((hH).2.2.2.2) (rfl) (by omega) (by decide) (by rw [mset_ne (by omega), mrow_at, upd_at]) ?_
            refine Kr_isub C dX2_settleLoads_108 ?_
            refine Kr_istore_n (L' := [(2, .int (lf - (minI (vO V 0 (boilAt V k)) lf))), (4, .int (nI (boilAt V k))), (3, .int (nI k)), (0, .ref (mA G H)), (1, .ref (mA G 11))]) C dX2_settleLoads_109 (by decide) rfl ?_
            have hld : ldV V lf (boilAt V k) = minI (vO V 0 (boilAt V k)) lf := if_neg (fun h => i32_nlt.mpr c78 h.2)
            have hnx : nxL V lf (boilAt V k) = lf - minI (vO V 0 (boilAt V k)) lf := if_neg (fun h => i32_nlt.mpr c78 h.2)
            refine Kr_aload_n C dX2_settleLoads_110 3 rfl ?_
            refine Kr_dup C dX2_settleLoads_111 rfl ?_
            refine Kr_geti C dX2_settleLoads_112 6 f_X2_31 (hH.1) rfl ?_
            refine Kr_valI (y := csF V nd k) (by rw [mset_at, upd_at]) ?_
            refine Kr_aload_n C dX2_settleLoads_115 3 rfl ?_
            refine Kr_getr (q2 := (H + 4)) C dX2_settleLoads_116 3 f_X2_21 (hH.1) rfl ?_
            refine Kr_iload C dX2_settleLoads_119 1 rfl ?_
            refine Kr_ialdN (j := boilAt V k) (v := minI (vO V 0 (boilAt V k)) lf) C dX2_settleLoads_121 ((hH).2.2.2.2) (rfl) (by omega) (by decide) (by rw [mset_ne (by omega), mrow_at, upd_at]) ?_
            refine Kr_aload_n C dX2_settleLoads_122 4 rfl ?_
            refine Kr_getr (q2 := 14) C dX2_settleLoads_123 2 f_X2_116 rfl rfl ?_
            refine Kr_iload C dX2_settleLoads_126 1 rfl ?_
            refine Kr_ialdN (j := boilAt V k) (v := vO V 2 (boilAt V k)) C dX2_settleLoads_128 rfl (rfl) (by omega) (by decide) ((hVg _ _).at 2 (by decide) hb) ?_
            refine Kr_imul C dX2_settleLoads_129 ?_
            refine Kr_sipush (v := 1000) C dX2_settleLoads_130 rfl ?_
            refine Kr_idiv C dX2_settleLoads_133 (by decide) ?_
            refine Kr_iadd C dX2_settleLoads_134 ?_
            refine Kr_puti C dX2_settleLoads_135 6 fi_X2_31 (hH.1) rfl ?_
            refine Kr_mem (M' := mset (mrow M (H + 4) (upd f (boilAt V k) (minI (vO V 0 (boilAt V k)) lf))) H 6 (csF V nd (k + 1))) (by rw [mset_again, csF, ← hl, hld]) ?_
            refine Kr_iinc (v := nI (k + 1)) (L' := [(3, .int (nI (k + 1))), (2, .int (lf - (minI (vO V 0 (boilAt V k)) lf))), (4, .int (nI (boilAt V k))), (0, .ref (mA G H)), (1, .ref (mA G 11))]) C dX2_settleLoads_138 2 rfl (nI_inc _) (by decide) rfl ?_
            refine Kr_goto (tgt := 12) C dX2_settleLoads_141 (by decide) ?_
            refine Kr_sub (L' := [(3, .int (nI (k + 1))), (2, .int (lf - (minI (vO V 0 (boilAt V k)) lf))), (0, .ref (mA G H)), (1, .ref (mA G 11))]) [0, 1, 3, 4] rfl ?_
            exact ih12 (k + 1) (upd f (boilAt V k) (minI (vO V 0 (boilAt V k)) lf)) _ (by omega) (fun p hp => by rcases Nat.lt_or_ge p k with q | q; (rw [upd_ne (fun e9 => by have h8 := (boilAt_spec V (k := p) (by omega)).2.1; have h9 := (boilAt_spec V hlt).2.1; rw [e9] at h8; omega)]; exact hf p q); (have e9 : p = k := by omega); subst e9; rw [upd_at, ← hl, hld]) (by rw [lfF, ← hl, hnx]) (by omega)
          ·
            refine Kr_aload_n C dX2_settleLoads_81 3 rfl ?_
            refine Kr_getr (q2 := (H + 4)) C dX2_settleLoads_82 3 f_X2_21 (hH.1) rfl ?_
            refine Kr_iload C dX2_settleLoads_85 0 rfl ?_
            refine Kr_aload_n C dX2_settleLoads_87 4 rfl ?_
            refine Kr_getr (q2 := 13) C dX2_settleLoads_88 1 f_X2_113 rfl rfl ?_
            refine Kr_iload C dX2_settleLoads_91 0 rfl ?_
            refine Kr_ialdN (j := boilAt V k) (v := vO V 1 (boilAt V k)) C dX2_settleLoads_93 rfl (rfl) (by omega) (by decide) ((hVg _ _).at 1 (by decide) hb) ?_
            refine Kr_iastN (j := boilAt V k) C dX2_settleLoads_94 ((hH).2.2.2.2) (rfl) (by omega) (by decide) ?_
            refine Kr_mem (M' := mset (mrow M (H + 4) (upd f (boilAt V k) (vO V 1 (boilAt V k)))) H 6 (csF V nd k)) (by rw [mset_row_c (by omega), upd_upd]) ?_
            refine Kr_iconst (v := 0) C dX2_settleLoads_95 rfl ?_
            refine Kr_istore_n (L' := [(2, .int 0), (4, .int (nI (boilAt V k))), (3, .int (nI k)), (0, .ref (mA G H)), (1, .ref (mA G 11))]) C dX2_settleLoads_96 (by decide) rfl ?_
            refine Kr_goto (tgt := 110) C dX2_settleLoads_97 (by decide) ?_
            have hld : ldV V lf (boilAt V k) = vO V 1 (boilAt V k) := if_pos ⟨i32_nle.mp c61, i32_nle.mp c78⟩
            have hnx : nxL V lf (boilAt V k) = 0 := if_pos ⟨i32_nle.mp c61, i32_nle.mp c78⟩
            refine Kr_aload_n C dX2_settleLoads_110 3 rfl ?_
            refine Kr_dup C dX2_settleLoads_111 rfl ?_
            refine Kr_geti C dX2_settleLoads_112 6 f_X2_31 (hH.1) rfl ?_
            refine Kr_valI (y := csF V nd k) (by rw [mset_at, upd_at]) ?_
            refine Kr_aload_n C dX2_settleLoads_115 3 rfl ?_
            refine Kr_getr (q2 := (H + 4)) C dX2_settleLoads_116 3 f_X2_21 (hH.1) rfl ?_
            refine Kr_iload C dX2_settleLoads_119 1 rfl ?_
            refine Kr_ialdN (j := boilAt V k) (v := vO V 1 (boilAt V k)) C dX2_settleLoads_121 ((hH).2.2.2.2) (rfl) (by omega) (by decide) (by rw [mset_ne (by omega), mrow_at, upd_at]) ?_
            refine Kr_aload_n C dX2_settleLoads_122 4 rfl ?_
            refine Kr_getr (q2 := 14) C dX2_settleLoads_123 2 f_X2_116 rfl rfl ?_
            refine Kr_iload C dX2_settleLoads_126 1 rfl ?_
            refine Kr_ialdN (j := boilAt V k) (v := vO V 2 (boilAt V k)) C dX2_settleLoads_128 rfl (rfl) (by omega) (by decide) ((hVg _ _).at 2 (by decide) hb) ?_
            refine Kr_imul C dX2_settleLoads_129 ?_
            refine Kr_sipush (v := 1000) C dX2_settleLoads_130 rfl ?_
            refine Kr_idiv C dX2_settleLoads_133 (by decide) ?_
            refine Kr_iadd C dX2_settleLoads_134 ?_
            refine Kr_puti C dX2_settleLoads_135 6 fi_X2_31 (hH.1) rfl ?_
            refine Kr_mem (M' := mset (mrow M (H + 4) (upd f (boilAt V k) (vO V 1 (boilAt V k)))) H 6 (csF V nd (k + 1))) (by rw [mset_again, csF, ← hl, hld]) ?_
            refine Kr_iinc (v := nI (k + 1)) (L' := [(3, .int (nI (k + 1))), (2, .int 0), (4, .int (nI (boilAt V k))), (0, .ref (mA G H)), (1, .ref (mA G 11))]) C dX2_settleLoads_138 2 rfl (nI_inc _) (by decide) rfl ?_
            refine Kr_goto (tgt := 12) C dX2_settleLoads_141 (by decide) ?_
            refine Kr_sub (L' := [(3, .int (nI (k + 1))), (2, .int 0), (0, .ref (mA G H)), (1, .ref (mA G 11))]) [0, 1, 3, 4] rfl ?_
            exact ih12 (k + 1) (upd f (boilAt V k) (vO V 1 (boilAt V k))) _ (by omega) (fun p hp => by rcases Nat.lt_or_ge p k with q | q; (rw [upd_ne (fun e9 => by have h8 := (boilAt_spec V (k := p) (by omega)).2.1; have h9 := (boilAt_spec V hlt).2.1; rw [e9] at h8; omega)]; exact hf p q); (have e9 : p = k := by omega); subst e9; rw [upd_at, ← hl, hld]) (by rw [lfF, ← hl, hnx]) (by omega)
  refine Kr_sub (L' := [(3, .int (nI 0)), (2, .int nd), (0, .ref (mA G H)), (1, .ref (mA G 11))]) [0, 1, 2, 3] rfl ?_
  exact lp12 _ 0 (M (H + 4)) nd (by omega) (fun p hp => absurd hp (Nat.not_lt_zero p)) rfl (Nat.lt_succ_self _)

set_option maxRecDepth 20000 in
set_option maxHeartbeats 1000000 in
theorem Kc_X2_settle (l : Launch) (G : mG) (hG : KmInj G) (M : Mem) (g : Glo) (V : View) (hT : wfT V) (hV : cNet M 2 V) (hB : cBoi M 11 V) (H : Nat) (hH : KisHour H) (hH9 : 70 < H) (sup : Int32) (hgd : M 1 3 = vS V 1) (hdv : ∀ j, 0 < j → j < vN V → ¬ flowF V j ≤ 0 → ¬ 1000 * flowF V j = 0) : KmcV l G yX2_settle cX2_settle 3 4 [.ref (mA G H), .ref (mA G 1), .int sup] M g (fun M' g' => (hourOK M' H V sup ∧ offR M M' H (H + 4)) ∧ g' = g) := by
  refine KmcV_of (L0 := [(0, .ref (mA G H)), (1, .ref (mA G 1)), (2, .int sup)]) hG (by decide) (Nat.le_of_ble_eq_true rfl) rfl ?_
  intro p e s m args below meth c Q C hend
  have hT0 := hT
  obtain ⟨hn1, hn16, hb4, ⟨hd0, hd3, hd5, hd6⟩, hpar⟩ := hT0
  refine Kr_aload_n C dX2_settle_0 0 rfl ?_
  refine Kr_aload_n C dX2_settle_1 1 rfl ?_
  refine Kr_getr (q2 := 2) C dX2_settle_2 0 f_X2_34 rfl rfl ?_
  refine Kr_callVV (As := [.ref (mA G 2)]) (rest := []) C dX2_settle_5 s_X2_40 (Kc_X2_settleFlows l G hG M g V hT hV H hH hH9) (by decide) (hH.1) rfl rfl rfl (Nat.le_of_ble_eq_true rfl) (Nat.le_of_ble_eq_true rfl) (Nat.le_of_ble_eq_true rfl) (fun M5 g5 hp5 => ?_)
  obtain ⟨⟨f1, rfl, hf1⟩, eg5⟩ := hp5
  rw [eg5]
  refine Kr_aload_n C dX2_settle_8 0 rfl ?_
  refine Kr_aload_n C dX2_settle_9 1 rfl ?_
  refine Kr_iload_n C dX2_settle_10 2 rfl ?_
  refine Kr_callVV (As := [.ref (mA G 1), .int sup]) (rest := []) C dX2_settle_11 s_X2_44 (Kc_X2_settleWarmth l G hG (mrow M (H + 1) f1) g V hT (hV.off (a := H) (b := H + 4) (fun q hq => by rw [mrow_ne (by omega)]) (by omega)) H hH hH9 sup ((congrFun (mrow_ne (by omega) f1) 3).trans hgd) (fun j hj => by rw [mrow_at]; exact hf1 j hj) hdv) (by decide) (hH.1) rfl rfl rfl (Nat.le_of_ble_eq_true rfl) (Nat.le_of_ble_eq_true rfl) (Nat.le_of_ble_eq_true rfl) (fun M11 g11 hp11 => ?_)
  obtain ⟨⟨f2, rfl, hf2⟩, eg11⟩ := hp11
  rw [eg11]
  refine Kr_aload_n C dX2_settle_14 0 rfl ?_
  refine Kr_aload_n C dX2_settle_15 1 rfl ?_
  refine Kr_getr (q2 := 2) C dX2_settle_16 0 f_X2_34 rfl rfl ?_
  refine Kr_callVV (As := [.ref (mA G 2)]) (rest := []) C dX2_settle_19 s_X2_48 (Kc_X2_settleReturns l G hG (mrow (mrow M (H + 1) f1) (H + 2) f2) g V hT (hV.off (a := H) (b := H + 4) (fun q hq => by rw [mrow_ne (by omega), mrow_ne (by omega)]) (by omega)) H hH hH9 sup (fun j hj => by rw [mrow_at]; exact hf2 j hj)) (by decide) (hH.1) rfl rfl rfl (Nat.le_of_ble_eq_true rfl) (Nat.le_of_ble_eq_true rfl) (Nat.le_of_ble_eq_true rfl) (fun M19 g19 hp19 => ?_)
  obtain ⟨⟨f3, rfl, hf3⟩, eg19⟩ := hp19
  rw [eg19]
  refine Kr_aload_n C dX2_settle_22 0 rfl ?_
  refine Kr_iconst (v := 0) C dX2_settle_23 rfl ?_
  refine Kr_aload_n C dX2_settle_24 0 rfl ?_
  refine Kr_getr (q2 := (H + 1)) C dX2_settle_25 0 f_X2_9 (hH.1) rfl ?_
  refine Kr_iconst (v := 0) C dX2_settle_28 rfl ?_
  refine Kr_ialdN (j := 0) (v := flowF V 0) C dX2_settle_29 ((hH).2.1) (rfl) (by omega) (by decide) (by rw [mrow_ne (by omega), mrow_ne (by omega), mrow_at]; exact hf1 0 (by omega)) ?_
  refine Kr_iload_n C dX2_settle_30 2 rfl ?_
  refine Kr_imul C dX2_settle_31 ?_
  refine Kr_aload_n C dX2_settle_32 0 rfl ?_
  refine Kr_getr (q2 := (H + 3)) C dX2_settle_33 2 f_X2_18 (hH.1) rfl ?_
  refine Kr_iconst (v := 0) C dX2_settle_36 rfl ?_
  refine Kr_ialdN (j := 0) (v := backF V sup 0) C dX2_settle_37 ((hH).2.2.2.1) (rfl) (by omega) (by decide) (by rw [mrow_at]; exact hf3 0 (by omega)) ?_
  refine Kr_isub C dX2_settle_38 ?_
  refine Kr_max (v := needF V sup) C dX2_settle_39 s_X2_51 (Nat.le_of_ble_eq_true rfl) (Nat.le_of_ble_eq_true rfl) (Nat.le_of_ble_eq_true rfl) (rfl) ?_
  refine Kr_puti C dX2_settle_42 4 fi_X2_24 (hH.1) rfl ?_
  refine Kr_aload_n C dX2_settle_45 0 rfl ?_
  refine Kr_aload_n C dX2_settle_46 1 rfl ?_
  refine Kr_getr (q2 := 11) C dX2_settle_47 1 f_X2_57 rfl rfl ?_
  refine Kr_callVV (As := [.ref (mA G 11)]) (rest := []) C dX2_settle_50 s_X2_61 (Kc_X2_settleLoads l G hG (mset (mrow (mrow (mrow M (H + 1) f1) (H + 2) f2) (H + 3) f3) H 4 (needF V sup)) g V hT (hB.off (a := H) (b := H + 4) (fun q hq => by rw [mset_ne (by omega), mrow_ne (by omega), mrow_ne (by omega), mrow_ne (by omega)]) (by omega)) H hH hH9 (needF V sup) (by rw [mset_at, upd_at])) (by decide) (hH.1) rfl rfl rfl (Nat.le_of_ble_eq_true rfl) (Nat.le_of_ble_eq_true rfl) (Nat.le_of_ble_eq_true rfl) (fun M50 g50 hp50 => ?_)
  obtain ⟨⟨f4, rfl, hf4⟩, eg50⟩ := hp50
  rw [eg50]
  exact hend _ _ _ _ dX2_settle_53 (⟨hour_fin hf1 hf2 hf3 hf4, rfl⟩)

set_option maxRecDepth 20000 in
set_option maxHeartbeats 1000000 in
theorem Kc_X7_copyRow16 (l : Launch) (G : mG) (hG : KmInj G) (M : Mem) (g : Glo) (q0 q1 : Nat) (h0 : Klay q0 = (0, [16])) (h1 : Klay q1 = (0, [16])) : KmcV l G yX7_copyRow cX7_copyRow 2 1 [.ref (mA G q0), .ref (mA G q1)] M g (fun M' g' => (∃ f, M' = mrow M q1 f ∧ ∀ j, j < 16 → f j = M q0 j) ∧ g' = g) := by
  refine KmcV_of (L0 := [(0, .ref (mA G q0)), (1, .ref (mA G q1))]) hG (by decide) (Nat.le_of_ble_eq_true rfl) rfl ?_
  intro p e s m args below meth c Q C hend
  refine Kr_aload_n C dX7_copyRow_0 0 rfl ?_
  refine Kr_iconst (v := 0) C dX7_copyRow_1 rfl ?_
  refine Kr_aload_n C dX7_copyRow_2 1 rfl ?_
  refine Kr_iconst (v := 0) C dX7_copyRow_3 rfl ?_
  refine Kr_aload_n C dX7_copyRow_4 0 rfl ?_
  refine Kr_alen (v := 16) C dX7_copyRow_5 (h0) (by decide) rfl ?_
  refine Kr_aload_n C dX7_copyRow_6 1 rfl ?_
  refine Kr_alen (v := 16) C dX7_copyRow_7 (h1) (by decide) rfl ?_
  refine Kr_min (v := 16) C dX7_copyRow_8 s_X7_330 (Nat.le_of_ble_eq_true rfl) (Nat.le_of_ble_eq_true rfl) (Nat.le_of_ble_eq_true rfl) (by decide) ?_
  refine Kr_copy C dX7_copyRow_11 s_X7_335 (h0) (h1) (by decide) rfl (by decide) (Nat.le_of_ble_eq_true rfl) (fun f hf => ?_)
  exact hend _ _ _ _ dX7_copyRow_14 (⟨⟨f, rfl, hf⟩, rfl⟩)

set_option maxRecDepth 20000 in
set_option maxHeartbeats 1000000 in
theorem Kc_X5_hasMeter (l : Launch) (G : mG) (hG : KmInj G) (M : Mem) (g : Glo) (Z : Nat) (hZ : KisRegs Z) (hZ9 : 70 < Z) (j : Nat) (hj : j < 16) : KmcI l G yX5_hasMeter cX5_hasMeter 2 .boolean 1 [.ref (mA G Z), .int (nI j)] M g (fun r M' g' => r = b2i (decide (j = 0 ∨ ¬ M (Z + 1) j = 0)) ∧ M' = M ∧ g' = g) := by
  refine KmcI_of (L0 := [(0, .ref (mA G Z)), (1, .int (nI j))]) hG (by decide) (Nat.le_of_ble_eq_true rfl) rfl ?_
  intro p e s m args below meth c Q C hend
  refine Kr_iload_n C dX5_hasMeter_0 1 rfl ?_
  refine Kr_if_eq (tgt := 13) C dX5_hasMeter_1 (by decide) (fun c1 => ?_) (fun c1 => ?_)
  ·
    refine Kr_iconst (v := 1) C dX5_hasMeter_13 rfl ?_
    refine Kr_goto (tgt := 18) C dX5_hasMeter_14 (by decide) ?_
    exact hend _ _ _ _ _ dX5_hasMeter_18 (rfl) (⟨by have : j = 0 := (nI_eq (b := 0) (by omega) (by omega)).mp c1; simp [b2i, this], rfl, rfl⟩)
  ·
    refine Kr_aload_n C dX5_hasMeter_4 0 rfl ?_
    refine Kr_getr (q2 := (Z + 1)) C dX5_hasMeter_5 0 f_X5_9 (hZ.1) rfl ?_
    refine Kr_iload_n C dX5_hasMeter_8 1 rfl ?_
    refine Kr_ialdN (j := j) (v := M (Z + 1) j) C dX5_hasMeter_9 ((hZ).2.1) (rfl) (by omega) (by decide) (rfl) ?_
    refine Kr_if_eq (tgt := 17) C dX5_hasMeter_10 (by decide) (fun c10 => ?_) (fun c10 => ?_)
    ·
      refine Kr_iconst (v := 0) C dX5_hasMeter_17 rfl ?_
      exact hend _ _ _ _ _ dX5_hasMeter_18 (rfl) (⟨by have h9 : ¬ j = 0 := fun h => c1 (by rw [h]; rfl); simp [b2i, h9, c10], rfl, rfl⟩)
    ·
      refine Kr_iconst (v := 1) C dX5_hasMeter_13 rfl ?_
      refine Kr_goto (tgt := 18) C dX5_hasMeter_14 (by decide) ?_
      exact hend _ _ _ _ _ dX5_hasMeter_18 (rfl) (⟨by have h9 : ¬ j = 0 := fun h => c1 (by rw [h]; rfl); simp [b2i, h9, c10], rfl, rfl⟩)

set_option maxRecDepth 20000 in
set_option maxHeartbeats 1000000 in
theorem Kc_X5_takeMeters (l : Launch) (G : mG) (hG : KmInj G) (M : Mem) (g : Glo) (Z : Nat) (hZ : KisRegs Z) (hZ9 : 70 < Z) : KmcV l G yX5_takeMeters cX5_takeMeters 2 2 [.ref (mA G Z), .ref (mA G 2)] M g (fun M' g' => (∃ f, M' = mrow M (Z + 1) f ∧ ∀ j, j < 16 → f j = M 9 j) ∧ g' = g) := by
  refine KmcV_of (L0 := [(0, .ref (mA G Z)), (1, .ref (mA G 2))]) hG (by decide) (Nat.le_of_ble_eq_true rfl) rfl ?_
  intro p e s m args below meth c Q C hend
  refine Kr_aload_n C dX5_takeMeters_0 1 rfl ?_
  refine Kr_getr (q2 := 9) C dX5_takeMeters_1 6 f_X5_31 rfl rfl ?_
  refine Kr_aload_n C dX5_takeMeters_4 0 rfl ?_
  refine Kr_getr (q2 := (Z + 1)) C dX5_takeMeters_5 0 f_X5_9 (hZ.1) rfl ?_
  refine Kr_callNV (As := [.ref (mA G 9), .ref (mA G (Z + 1))]) (rest := []) C dX5_takeMeters_8 s_X5_34 (Kc_X7_copyRow16 l G hG M g 9 (Z + 1) rfl hZ.2.1) (by decide) rfl rfl (Nat.le_of_ble_eq_true rfl) (Nat.le_of_ble_eq_true rfl) (Nat.le_of_ble_eq_true rfl) (fun M8 g8 hp8 => ?_)
  obtain ⟨⟨f, rfl, hf⟩, eg8⟩ := hp8
  rw [eg8]
  exact hend _ _ _ _ dX5_takeMeters_11 (⟨⟨f, rfl, hf⟩, rfl⟩)

set_option maxRecDepth 20000 in
set_option maxHeartbeats 1000000 in
theorem Kc_X5_clearCounts (l : Launch) (G : mG) (hG : KmInj G) (M : Mem) (g : Glo) (Z : Nat) (hZ : KisRegs Z) (hZ9 : 70 < Z) (n : Nat) (hn : n ≤ 16) (hc : M Z 5 = nI n) : KmcV l G yX5_clearCounts cX5_clearCounts 2 1 [.ref (mA G Z)] M g (fun M' g' => (∃ f2 f3 f4 f5, M' = mR M Z (nI n) f2 f3 f4 f5 ∧ f2 0 = 0 ∧ ∀ j, j < n → f3 j = (if j = 0 then 0 else 1) ∧ f4 j = 0 ∧ f5 j = 0) ∧ g' = g) := by
  refine KmcV_of (L0 := [(0, .ref (mA G Z))]) hG (by decide) (Nat.le_of_ble_eq_true rfl) rfl ?_
  intro p e s m args below meth c Q C hend
  refine Kr_mem (M' := mR M Z (nI n) (M (Z + 2)) (M (Z + 3)) (M (Z + 4)) (M (Z + 5))) (mR_id hc) ?_
  refine Kr_aload_n C dX5_clearCounts_0 0 rfl ?_
  refine Kr_getr (q2 := (Z + 2)) C dX5_clearCounts_1 1 f_X5_15 (hZ.1) rfl ?_
  refine Kr_iconst (v := 0) C dX5_clearCounts_4 rfl ?_
  refine Kr_iconst (v := 0) C dX5_clearCounts_5 rfl ?_
  refine Kr_iastN (j := 0) C dX5_clearCounts_6 ((hZ).2.2.1) (rfl) (by omega) (by decide) ?_
  refine Kr_mem (M' := mR M Z (nI n) (upd (M (Z + 2)) 0 0) (M (Z + 3)) (M (Z + 4)) (M (Z + 5))) (mR_s2) ?_
  refine Kr_iconst (v := nI 0) C dX5_clearCounts_7 rfl ?_
  refine Kr_istore_n (L' := [(1, .int (nI 0)), (0, .ref (mA G Z))]) C dX5_clearCounts_8 (by decide) rfl ?_
  have lp9 : ∀ (fu : Nat) (k : Nat) (f2 f3 f4 f5 : Nat → Int32), (k ≤ n) → (f2 0 = 0) → (∀ j, j < k → f3 j = (if j = 0 then 0 else 1) ∧ f4 j = 0 ∧ f5 j = 0) → (n - k) < fu → KAt p l e (rmD 1 0 0) s m args below meth c G 2 0 0 Q (mR M Z (nI n) (f2) (f3) (f4) (f5)) g [(1, .int (nI k)), (0, .ref (mA G Z))] 9 [] := by
    intro fu
    induction fu with
    | zero => intro k f2 f3 f4 f5 hkn h2 hf hfu; exact absurd hfu (Nat.not_lt_zero _)
    | succ fu ih9 =>
      intro k f2 f3 f4 f5 hkn h2 hf hfu9
      refine Kr_iload_n C dX5_clearCounts_9 0 rfl ?_
      refine Kr_aload_n C dX5_clearCounts_10 1 rfl ?_
      refine Kr_geti C dX5_clearCounts_11 5 f_X5_27 (hZ.1) rfl ?_
      refine Kr_valI (y := nI n) (mR_c) ?_
      refine Kr_icmp_ge (tgt := 52) C dX5_clearCounts_14 (by decide) (fun c14 => ?_) (fun c14 => ?_)
      ·
        have hkn2 : k = n := by have := le_of_le (by omega) (by omega) c14; omega
        exact hend _ _ _ _ dX5_clearCounts_52 (⟨⟨f2, f3, f4, f5, rfl, h2, fun j hj => hf j (by omega)⟩, rfl⟩)
      ·
        have hlt : k < n := lt_of_nle (by omega) c14
        refine Kr_aload_n C dX5_clearCounts_17 1 rfl ?_
        refine Kr_getr (q2 := (Z + 4)) C dX5_clearCounts_18 3 f_X5_21 (hZ.1) rfl ?_
        refine Kr_iload_n C dX5_clearCounts_21 0 rfl ?_
        refine Kr_iconst (v := 0) C dX5_clearCounts_22 rfl ?_
        refine Kr_iastN (j := k) C dX5_clearCounts_23 ((hZ).2.2.2.2.1) (rfl) (by omega) (by decide) ?_
        refine Kr_mem (M' := mR M Z (nI n) (f2) (f3) (upd f4 k 0) (f5)) (mR_s4) ?_
        refine Kr_aload_n C dX5_clearCounts_24 1 rfl ?_
        refine Kr_getr (q2 := (Z + 5)) C dX5_clearCounts_25 4 f_X5_24 (hZ.1) rfl ?_
        refine Kr_iload_n C dX5_clearCounts_28 0 rfl ?_
        refine Kr_iconst (v := 0) C dX5_clearCounts_29 rfl ?_
        refine Kr_iastN (j := k) C dX5_clearCounts_30 ((hZ).2.2.2.2.2) (rfl) (by omega) (by decide) ?_
        refine Kr_mem (M' := mR M Z (nI n) (f2) (f3) (upd f4 k 0) (upd f5 k 0)) (mR_s5) ?_
        refine Kr_aload_n C dX5_clearCounts_31 1 rfl ?_
        refine Kr_getr (q2 := (Z + 3)) C dX5_clearCounts_32 2 f_X5_18 (hZ.1) rfl ?_
        refine Kr_iload_n C dX5_clearCounts_35 0 rfl ?_
        refine Kr_iload_n C dX5_clearCounts_36 0 rfl ?_
        refine Kr_if_ne (tgt := 44) C dX5_clearCounts_37 (by decide) (fun c37 => ?_) (fun c37 => ?_)
        ·
          refine Kr_iconst (v := 1) C dX5_clearCounts_44 rfl ?_
          refine Kr_iastN (j := k) C dX5_clearCounts_45 ((hZ).2.2.2.1) (rfl) (by omega) (by decide) ?_
          refine Kr_mem (M' := mR M Z (nI n) (f2) (upd f3 k 1) (upd f4 k 0) (upd f5 k 0)) (mR_s3) ?_
          refine Kr_iinc (v := nI (k + 1)) (L' := [(1, .int (nI (k + 1))), (0, .ref (mA G Z))]) C dX5_clearCounts_46 0 rfl (nI_inc _) (by decide) rfl ?_
          refine Kr_goto (tgt := 9) C dX5_clearCounts_49 (by decide) ?_
          refine Kr_sub (L' := [(1, .int (nI (k + 1))), (0, .ref (mA G Z))]) [0, 1] rfl ?_
          exact ih9 (k + 1) _ _ _ _ (by omega) h2 (fun j hj => by rcases Nat.lt_or_ge j k with q | q; (rw [upd_ne (by omega), upd_ne (by omega), upd_ne (by omega)]; exact hf j q); (have e9 : j = k := by omega); subst e9; rw [upd_at, upd_at, upd_at]; exact ⟨(if_neg (fun h => c37 (by rw [h]; rfl))).symm, rfl, rfl⟩) (by omega)
        ·
          refine Kr_iconst (v := 0) C dX5_clearCounts_40 rfl ?_
          refine Kr_goto (tgt := 45) C dX5_clearCounts_41 (by decide) ?_
          refine Kr_iastN (j := k) C dX5_clearCounts_45 ((hZ).2.2.2.1) (rfl) (by omega) (by decide) ?_
          refine Kr_mem (M' := mR M Z (nI n) (f2) (upd f3 k 0) (upd f4 k 0) (upd f5 k 0)) (mR_s3) ?_
          refine Kr_iinc (v := nI (k + 1)) (L' := [(1, .int (nI (k + 1))), (0, .ref (mA G Z))]) C dX5_clearCounts_46 0 rfl (nI_inc _) (by decide) rfl ?_
          refine Kr_goto (tgt := 9) C dX5_clearCounts_49 (by decide) ?_
          refine Kr_sub (L' := [(1, .int (nI (k + 1))), (0, .ref (mA G Z))]) [0, 1] rfl ?_
          exact ih9 (k + 1) _ _ _ _ (by omega) h2 (fun j hj => by rcases Nat.lt_or_ge j k with q | q; (rw [upd_ne (by omega), upd_ne (by omega), upd_ne (by omega)]; exact hf j q); (have e9 : j = k := by omega); subst e9; rw [upd_at, upd_at, upd_at]; exact ⟨(if_pos ((nI_eq (b := 0) (by omega) (by omega)).mp c37)).symm, rfl, rfl⟩) (by omega)
  refine Kr_sub (L' := [(1, .int (nI 0)), (0, .ref (mA G Z))]) [0, 1] rfl ?_
  exact lp9 _ 0 _ _ _ _ (by omega) (upd_at _ _ _) (fun j hj => absurd hj (Nat.not_lt_zero j)) (Nat.lt_succ_self _)

set_option maxRecDepth 20000 in
set_option maxHeartbeats 1000000 in
theorem Kc_X5_headAbove (l : Launch) (G : mG) (hG : KmInj G) (M : Mem) (g : Glo) (V : View) (hT : wfT V) (hV : cNet M 2 V) (Z : Nat) (hZ : KisRegs Z) (hZ9 : 70 < Z) (j h : Nat) (h0 : 0 < j) (hj : j < vN V) (hh : M (Z + 2) (vP V j) = nI h) (hlt : h < j) : KmcI l G yX5_headAbove cX5_headAbove 4 .int 2 [.ref (mA G Z), .ref (mA G 2), .int (nI j)] M g (fun r M' g' => r = nI h ∧ M' = M ∧ g' = g) := by
  refine KmcI_of (L0 := [(0, .ref (mA G Z)), (1, .ref (mA G 2)), (2, .int (nI j))]) hG (by decide) (Nat.le_of_ble_eq_true rfl) rfl ?_
  intro p e s m args below meth c Q C hend
  have hT0 := hT
  obtain ⟨hn1, hn16, hb4, ⟨hd0, hd3, hd5, hd6⟩, hpar⟩ := hT0
  obtain ⟨hp1, hp2⟩ := hpar j h0 hj
  refine Kr_aload_n C dX5_headAbove_0 1 rfl ?_
  refine Kr_iload_n C dX5_headAbove_1 2 rfl ?_
  refine Kr_callVI (As := [.int (nI j)]) (rest := []) C dX5_headAbove_2 s_X5_57 (Kc_X3_hasParent l G hG M g V hT hV j h0 hj) (by decide) rfl rfl rfl rfl (Nat.le_of_ble_eq_true rfl) (Nat.le_of_ble_eq_true rfl) (Nat.le_of_ble_eq_true rfl) (pk_I ?_)
  refine Kr_if_eq (tgt := 22) C dX5_headAbove_5 (by decide) (fun h => absurd h (by decide)) (fun _ => ?_)
  refine Kr_aload_n C dX5_headAbove_8 0 rfl ?_
  refine Kr_getr (q2 := (Z + 2)) C dX5_headAbove_9 1 f_X5_15 (hZ.1) rfl ?_
  refine Kr_aload_n C dX5_headAbove_12 1 rfl ?_
  refine Kr_getr (q2 := 3) C dX5_headAbove_13 0 f_X5_60 rfl rfl ?_
  refine Kr_iload_n C dX5_headAbove_16 2 rfl ?_
  refine Kr_ialdN (j := j) (v := nI (vP V j)) C dX5_headAbove_17 rfl (rfl) (by omega) (by decide) ((hV.at 0 (by decide) hj).trans hp1) ?_
  refine Kr_ialdN (j := vP V j) (v := nI h) C dX5_headAbove_18 ((hZ).2.2.1) (rfl) (by omega) (by decide) (hh) ?_
  refine Kr_goto (tgt := 23) C dX5_headAbove_19 (by decide) ?_
  refine Kr_istore_n (L' := [(3, .int (nI h)), (0, .ref (mA G Z)), (1, .ref (mA G 2)), (2, .int (nI j))]) C dX5_headAbove_23 (by decide) rfl ?_
  refine Kr_iload_n C dX5_headAbove_24 0 rfl ?_
  refine Kr_if_lt (tgt := 37) C dX5_headAbove_25 (by decide) (fun h => absurd h (nI_pos (by omega))) (fun _ => ?_)
  refine Kr_iload_n C dX5_headAbove_28 0 rfl ?_
  refine Kr_iload_n C dX5_headAbove_29 3 rfl ?_
  refine Kr_icmp_ge (tgt := 37) C dX5_headAbove_30 (by decide) (fun h => absurd h (nI_ge hlt (by omega))) (fun _ => ?_)
  refine Kr_iload_n C dX5_headAbove_33 0 rfl ?_
  refine Kr_goto (tgt := 38) C dX5_headAbove_34 (by decide) ?_
  exact hend _ _ _ _ _ dX5_headAbove_38 (rfl) (⟨rfl, rfl, rfl⟩)

set_option maxRecDepth 20000 in
set_option maxHeartbeats 1000000 in
theorem Kc_X5_countBranches (l : Launch) (G : mG) (hG : KmInj G) (M : Mem) (g : Glo) (V : View) (hT : wfT V) (hV : cNet M 2 V) (Z : Nat) (hZ : KisRegs Z) (hZ9 : 70 < Z) (hc : M Z 5 = nI (vN V)) : KmcV l G yX5_countBranches cX5_countBranches 3 2 [.ref (mA G Z), .ref (mA G 2)] M g (fun M' g' => M' = mrow M (Z + 3) (ibUp (vP V) (M (Z + 1)) (vN V - 1) (M (Z + 3))) ∧ g' = g) := by
  refine KmcV_of (L0 := [(0, .ref (mA G Z)), (1, .ref (mA G 2))]) hG (by decide) (Nat.le_of_ble_eq_true rfl) rfl ?_
  intro p e s m args below meth c Q C hend
  have hT0 := hT
  obtain ⟨hn1, hn16, hb4, ⟨hd0, hd3, hd5, hd6⟩, hpar⟩ := hT0
  refine Kr_aload_n C dX5_countBranches_0 0 rfl ?_
  refine Kr_geti C dX5_countBranches_1 5 f_X5_27 (hZ.1) rfl ?_
  refine Kr_valI (y := nI (vN V)) (hc) ?_
  refine Kr_iconst (v := 1) C dX5_countBranches_4 rfl ?_
  refine Kr_isub C dX5_countBranches_5 ?_
  refine Kr_valI (y := nI (vN V - 1)) (pk_sub (by omega)) ?_
  refine Kr_istore_n (L' := [(2, .int (nI (vN V - 1))), (0, .ref (mA G Z)), (1, .ref (mA G 2))]) C dX5_countBranches_6 (by decide) rfl ?_
  have lp7 : ∀ (fu : Nat) (k : Nat) (f : Nat → Int32), (k < vN V) → (ibUp (vP V) (M (Z + 1)) k f = ibUp (vP V) (M (Z + 1)) (vN V - 1) (M (Z + 3))) → k < fu → KAt p l e (rmD 2 0 0) s m args below meth c G 3 0 0 Q (mrow M (Z + 3) f) g [(2, .int (nI k)), (0, .ref (mA G Z)), (1, .ref (mA G 2))] 7 [] := by
    intro fu
    induction fu with
    | zero => intro k f hkn hf hfu; exact absurd hfu (Nat.not_lt_zero _)
    | succ fu ih7 =>
      intro k f hkn hf hfu7
      have hV2 : cNet (mrow M (Z + 3) f) 2 V := hV.off (offR.row f (Nat.le_refl _) (Nat.le_refl _)) (by omega)
      refine Kr_iload_n C dX5_countBranches_7 0 rfl ?_
      refine Kr_if_le (tgt := 53) C dX5_countBranches_8 (by decide) (fun c8 => ?_) (fun c8 => ?_)
      ·
        have hk0 : k = 0 := by rcases Nat.eq_zero_or_pos k with q | q; exact q; exact absurd c8 (nI_nle q (by omega))
        exact hend _ _ _ _ dX5_countBranches_53 (⟨by rw [← hf, hk0]; rfl, rfl⟩)
      ·
        have hk0 : 0 < k := by rcases Nat.eq_zero_or_pos k with q | q; exact absurd (by subst q; decide) c8; exact q
        have hpk := hpar k hk0 hkn
        refine Kr_aload_n C dX5_countBranches_11 1 rfl ?_
        refine Kr_iload_n C dX5_countBranches_12 0 rfl ?_
        refine Kr_callVI (As := [.int (nI k)]) (rest := []) C dX5_countBranches_13 s_X5_42 (Kc_X5_hasMeter l G hG (mrow M (Z + 3) f) g Z hZ hZ9 k (by omega)) (by decide) (hZ.1) rfl rfl rfl (Nat.le_of_ble_eq_true rfl) (Nat.le_of_ble_eq_true rfl) (Nat.le_of_ble_eq_true rfl) (pk_I ?_)
        refine Kr_if_ne (tgt := 47) C dX5_countBranches_16 (by decide) (fun c16 => ?_) (fun c16 => ?_)
        ·
          have hm16 : ¬ M (Z + 1) k = 0 := by have h9 := of_decide_eq_true (b2i_1.mp c16); rw [mrow_ne (by omega)] at h9; exact h9.resolve_left (by omega)
          refine Kr_mem (M' := mrow M (Z + 3) f) (rfl) ?_
          refine Kr_iinc (v := nI (k - 1)) (L' := [(2, .int (nI (k - 1))), (0, .ref (mA G Z)), (1, .ref (mA G 2))]) C dX5_countBranches_47 0 rfl (nI_dec1 (by omega)) (by decide) rfl ?_
          refine Kr_goto (tgt := 7) C dX5_countBranches_50 (by decide) ?_
          refine Kr_sub (L' := [(2, .int (nI (k - 1))), (0, .ref (mA G Z)), (1, .ref (mA G 2))]) [0, 1, 2] rfl ?_
          exact ih7 (k - 1) (f) (by omega) (by rw [← hf, ibUp_s _ _ hk0, if_neg hm16]) (by omega)
        ·
          have hm16 : M (Z + 1) k = 0 := by have h9 := of_decide_eq_false (b2i_0.mp c16); rw [mrow_ne (by omega)] at h9; exact Classical.byContradiction (fun z => h9 (Or.inr z))
          refine Kr_aload_n C dX5_countBranches_19 2 rfl ?_
          refine Kr_iload_n C dX5_countBranches_20 0 rfl ?_
          refine Kr_callVI (As := [.int (nI k)]) (rest := []) C dX5_countBranches_21 s_X5_57 (Kc_X3_hasParent l G hG (mrow M (Z + 3) f) g V hT hV2 k hk0 hkn) (by decide) rfl rfl rfl rfl (Nat.le_of_ble_eq_true rfl) (Nat.le_of_ble_eq_true rfl) (Nat.le_of_ble_eq_true rfl) (pk_I ?_)
          refine Kr_if_eq (tgt := 47) C dX5_countBranches_24 (by decide) (fun h => absurd h (by decide)) (fun _ => ?_)
          refine Kr_aload_n C dX5_countBranches_27 1 rfl ?_
          refine Kr_getr (q2 := (Z + 3)) C dX5_countBranches_28 2 f_X5_18 (hZ.1) rfl ?_
          refine Kr_aload_n C dX5_countBranches_31 2 rfl ?_
          refine Kr_getr (q2 := 3) C dX5_countBranches_32 0 f_X5_60 rfl rfl ?_
          refine Kr_iload_n C dX5_countBranches_35 0 rfl ?_
          refine Kr_ialdN (j := k) (v := nI (vP V k)) C dX5_countBranches_36 rfl (rfl) (by omega) (by decide) ((hV2.at 0 (by decide) hkn).trans hpk.1) ?_
          refine Kr_dup2 C dX5_countBranches_37 rfl rfl ?_
          refine Kr_ialdN (j := vP V k) (v := f (vP V k)) C dX5_countBranches_38 ((hZ).2.2.2.1) (rfl) (by omega) (by decide) (by rw [mrow_at]) ?_
          refine Kr_aload_n C dX5_countBranches_39 1 rfl ?_
          refine Kr_getr (q2 := (Z + 3)) C dX5_countBranches_40 2 f_X5_18 (hZ.1) rfl ?_
          refine Kr_iload_n C dX5_countBranches_43 0 rfl ?_
          refine Kr_ialdN (j := k) (v := f k) C dX5_countBranches_44 ((hZ).2.2.2.1) (rfl) (by omega) (by decide) (by rw [mrow_at]) ?_
          refine Kr_iadd C dX5_countBranches_45 ?_
          refine Kr_iastN (j := vP V k) C dX5_countBranches_46 ((hZ).2.2.2.1) (rfl) (by omega) (by decide) ?_
          refine Kr_mem (M' := mrow M (Z + 3) (upd f (vP V k) (f (vP V k) + f k))) (mset_row _ _ _ _ _) ?_
          refine Kr_iinc (v := nI (k - 1)) (L' := [(2, .int (nI (k - 1))), (0, .ref (mA G Z)), (1, .ref (mA G 2))]) C dX5_countBranches_47 0 rfl (nI_dec1 (by omega)) (by decide) rfl ?_
          refine Kr_goto (tgt := 7) C dX5_countBranches_50 (by decide) ?_
          refine Kr_sub (L' := [(2, .int (nI (k - 1))), (0, .ref (mA G Z)), (1, .ref (mA G 2))]) [0, 1, 2] rfl ?_
          exact ih7 (k - 1) (upd f (vP V k) (f (vP V k) + f k)) (by omega) (by rw [← hf, ibUp_s _ _ hk0, if_pos hm16]) (by omega)
  refine Kr_mem (M' := mrow M (Z + 3) (M (Z + 3))) (mrow_self _ _).symm ?_
  refine Kr_sub (L' := [(2, .int (nI (vN V - 1))), (0, .ref (mA G Z)), (1, .ref (mA G 2))]) [0, 1, 2] rfl ?_
  exact lp7 _ (vN V - 1) (M (Z + 3)) (by omega) rfl (Nat.lt_succ_self _)

set_option maxRecDepth 20000 in
set_option maxHeartbeats 1000000 in
theorem Kc_X5_settle (l : Launch) (G : mG) (hG : KmInj G) (M : Mem) (g : Glo) (V : View) (hT : wfT V) (hV : cNet M 2 V) (Z : Nat) (hZ : KisRegs Z) (hZ9 : 70 < Z) : KmcV l G yX5_settle cX5_settle 4 3 [.ref (mA G Z), .ref (mA G 2)] M g (fun M' g' => (rgOK M' Z V (M (Z + 1)) ∧ offR M M' Z (Z + 5)) ∧ g' = g) := by
  refine KmcV_of (L0 := [(0, .ref (mA G Z)), (1, .ref (mA G 2))]) hG (by decide) (Nat.le_of_ble_eq_true rfl) rfl ?_
  intro p e s m args below meth c Q C hend
  have hT0 := hT
  obtain ⟨hn1, hn16, hb4, ⟨hd0, hd3, hd5, hd6⟩, hpar⟩ := hT0
  have hVg : ∀ f2 f3 f4 f5 : Nat → Int32, cNet (mR M Z (nI (vN V)) f2 f3 f4 f5) 2 V := fun f2 f3 f4 f5 => hV.off (a := Z) (b := Z + 5) (fun q hq => mR_o (by omega)) (by omega)
  refine Kr_aload_n C dX5_settle_0 0 rfl ?_
  refine Kr_aload_n C dX5_settle_1 1 rfl ?_
  refine Kr_geti C dX5_settle_2 8 f_X5_38 rfl rfl ?_
  refine Kr_valI (y := nI (vN V)) (hV.1) ?_
  refine Kr_puti C dX5_settle_5 5 fi_X5_27 (hZ.1) rfl ?_
  refine Kr_mem (M' := mR M Z (nI (vN V)) (M (Z + 2)) (M (Z + 3)) (M (Z + 4)) (M (Z + 5))) (mR_set) ?_
  refine Kr_aload_n C dX5_settle_8 0 rfl ?_
  refine Kr_callVV (As := []) (rest := []) C dX5_settle_9 s_X5_39 (Kc_X5_clearCounts l G hG (mR M Z (nI (vN V)) (M (Z + 2)) (M (Z + 3)) (M (Z + 4)) (M (Z + 5))) g Z hZ hZ9 (vN V) hn16 mR_c) (by decide) (hZ.1) rfl rfl rfl (Nat.le_of_ble_eq_true rfl) (Nat.le_of_ble_eq_true rfl) (Nat.le_of_ble_eq_true rfl) (fun M9 g9 hp9 => ?_)
  obtain ⟨⟨f2, f3, f4, f5, rfl, hf2, hf⟩, eg9⟩ := hp9
  rw [eg9]
  rw [mR_mR]
  refine Kr_iconst (v := nI 1) C dX5_settle_12 rfl ?_
  refine Kr_istore_n (L' := [(2, .int (nI 1)), (0, .ref (mA G Z)), (1, .ref (mA G 2))]) C dX5_settle_13 (by decide) rfl ?_
  have lp14 : ∀ (fu : Nat) (k : Nat) (f2 f4 f5 : Nat → Int32), (0 < k) → (k ≤ vN V) → (∀ j, j < k → f2 j = nI (hdF V (M (Z + 1)) j)) → (∀ t, t < vN V → f4 t = szR V (M (Z + 1)) k t) → (∀ t, t < vN V → f5 t = lkR V (M (Z + 1)) k t) → (vN V - k) < fu → KAt p l e (rmD 3 0 0) s m args below meth c G 4 0 0 Q (mR M Z (nI (vN V)) (f2) (f3) (f4) (f5)) g [(2, .int (nI k)), (0, .ref (mA G Z)), (1, .ref (mA G 2))] 14 [] := by
    intro fu
    induction fu with
    | zero => intro k f2 f4 f5 hk0 hkn h2 h4 h5 hfu; exact absurd hfu (Nat.not_lt_zero _)
    | succ fu ih14 =>
      intro k f2 f4 f5 hk0 hkn h2 h4 h5 hfu14
      refine Kr_iload_n C dX5_settle_14 0 rfl ?_
      refine Kr_aload_n C dX5_settle_15 1 rfl ?_
      refine Kr_geti C dX5_settle_16 5 f_X5_27 (hZ.1) rfl ?_
      refine Kr_valI (y := nI (vN V)) (mR_c) ?_
      refine Kr_icmp_ge (tgt := 79) C dX5_settle_19 (by decide) (fun c19 => ?_) (fun c19 => ?_)
      ·
        have hkn2 : k = vN V := by have := le_of_le (by omega) (by omega) c19; omega
        refine Kr_aload_n C dX5_settle_79 1 rfl ?_
        refine Kr_aload_n C dX5_settle_80 2 rfl ?_
        refine Kr_callVV (As := [.ref (mA G 2)]) (rest := []) C dX5_settle_81 s_X5_53 (Kc_X5_countBranches l G hG (mR M Z (nI (vN V)) (f2) (f3) (f4) (f5)) g V hT (hVg f2 f3 f4 f5) Z hZ hZ9 mR_c) (by decide) (hZ.1) rfl rfl rfl (Nat.le_of_ble_eq_true rfl) (Nat.le_of_ble_eq_true rfl) (Nat.le_of_ble_eq_true rfl) (pk_V ?_)
        exact hend _ _ _ _ dX5_settle_84 (⟨⟨⟨by rw [mrow_ne (by omega)]; exact mR_c, fun j hj => by rw [mrow_ne (by omega), mR_o (by omega)], fun j hj => ⟨by rw [mrow_ne (by omega), mR_2]; exact h2 j (by omega), by rw [mrow_at, mR_3]; exact ibUp_cong (vN V - 1) _ _ (by omega) (fun j h8 h9 => (hpar j h8 (by omega)).2) (fun j hj => by rw [mR_o (by omega)]) (fun j hj => (hf j hj).1) j hj, by rw [mrow_ne (by omega), mR_4, h4 j hj, hkn2]; rfl, by rw [mrow_ne (by omega), mR_5, h5 j hj, hkn2]; rfl⟩⟩, fun q hq => by rw [mrow_ne (by omega), mR_o (by omega)]⟩, rfl⟩)
      ·
        have hlt : k < vN V := lt_of_nle (by omega) c19
        have hle := hdF_le hT (M (Z + 1)) k k (Nat.le_refl k) hlt
        refine Kr_aload_n C dX5_settle_22 1 rfl ?_
        refine Kr_iload_n C dX5_settle_23 0 rfl ?_
        refine Kr_callVI (As := [.int (nI k)]) (rest := []) C dX5_settle_24 s_X5_42 (Kc_X5_hasMeter l G hG (mR M Z (nI (vN V)) (f2) (f3) (f4) (f5)) g Z hZ hZ9 k (by omega)) (by decide) (hZ.1) rfl rfl rfl (Nat.le_of_ble_eq_true rfl) (Nat.le_of_ble_eq_true rfl) (Nat.le_of_ble_eq_true rfl) (pk_I ?_)
        refine Kr_if_eq (tgt := 34) C dX5_settle_27 (by decide) (fun c27 => ?_) (fun c27 => ?_)
        ·
          have hm27 : M (Z + 1) k = 0 := by have h9 := of_decide_eq_false (b2i_0.mp c27); rw [mR_o (by omega)] at h9; exact Classical.byContradiction (fun z => h9 (Or.inr z))
          refine Kr_aload_n C dX5_settle_34 1 rfl ?_
          refine Kr_aload_n C dX5_settle_35 2 rfl ?_
          refine Kr_iload_n C dX5_settle_36 0 rfl ?_
          refine Kr_callVI (As := [.ref (mA G 2), .int (nI k)]) (rest := []) C dX5_settle_37 s_X5_46 (Kc_X5_headAbove l G hG (mR M Z (nI (vN V)) (f2) (f3) (f4) (f5)) g V hT (hVg f2 f3 f4 f5) Z hZ hZ9 k (hdF V (M (Z + 1)) (vP V k)) hk0 hlt (by rw [mR_2]; exact h2 _ (hpar k hk0 hlt).2) (by have := (hpar k hk0 hlt).2; have := hdF_le hT (M (Z + 1)) _ (vP V k) (Nat.le_refl _) (by omega); omega)) (by decide) (hZ.1) rfl rfl rfl (Nat.le_of_ble_eq_true rfl) (Nat.le_of_ble_eq_true rfl) (Nat.le_of_ble_eq_true rfl) (pk_I ?_)
          refine Kr_valI (y := nI (hdF V (M (Z + 1)) k)) (by rw [hdF_s V (M (Z + 1)) hk0 (hpar k hk0 hlt).2, if_pos hm27]) ?_
          refine Kr_istore_n (L' := [(3, .int (nI (hdF V (M (Z + 1)) k))), (2, .int (nI k)), (0, .ref (mA G Z)), (1, .ref (mA G 2))]) C dX5_settle_40 (by decide) rfl ?_
          refine Kr_aload_n C dX5_settle_41 2 rfl ?_
          refine Kr_getr (q2 := (Z + 2)) C dX5_settle_42 1 f_X5_15 (hZ.1) rfl ?_
          refine Kr_iload_n C dX5_settle_45 1 rfl ?_
          refine Kr_iload_n C dX5_settle_46 0 rfl ?_
          refine Kr_iastN (j := k) C dX5_settle_47 ((hZ).2.2.1) (rfl) (by omega) (by decide) ?_
          refine Kr_mem (M' := mR M Z (nI (vN V)) (upd f2 k (nI (hdF V (M (Z + 1)) k))) (f3) (f4) (f5)) (mR_s2) ?_
          refine Kr_aload_n C dX5_settle_48 2 rfl ?_
          refine Kr_getr (q2 := (Z + 4)) C dX5_settle_49 3 f_X5_21 (hZ.1) rfl ?_
          refine Kr_iload_n C dX5_settle_52 0 rfl ?_
          refine Kr_dup2 C dX5_settle_53 rfl rfl ?_
          refine Kr_ialdN (j := (hdF V (M (Z + 1)) k)) (v := f4 (hdF V (M (Z + 1)) k)) C dX5_settle_54 ((hZ).2.2.2.2.1) (rfl) (by omega) (by decide) (by rw [mR_4]) ?_
          refine Kr_iconst (v := 1) C dX5_settle_55 rfl ?_
          refine Kr_iadd C dX5_settle_56 ?_
          refine Kr_iastN (j := (hdF V (M (Z + 1)) k)) C dX5_settle_57 ((hZ).2.2.2.2.1) (rfl) (by omega) (by decide) ?_
          refine Kr_mem (M' := mR M Z (nI (vN V)) (upd f2 k (nI (hdF V (M (Z + 1)) k))) (f3) (upd f4 (hdF V (M (Z + 1)) k) (f4 (hdF V (M (Z + 1)) k) + 1)) (f5)) (mR_s4) ?_
          refine Kr_aload_n C dX5_settle_58 2 rfl ?_
          refine Kr_getr (q2 := (Z + 5)) C dX5_settle_59 4 f_X5_24 (hZ.1) rfl ?_
          refine Kr_iload_n C dX5_settle_62 0 rfl ?_
          refine Kr_dup2 C dX5_settle_63 rfl rfl ?_
          refine Kr_ialdN (j := (hdF V (M (Z + 1)) k)) (v := f5 (hdF V (M (Z + 1)) k)) C dX5_settle_64 ((hZ).2.2.2.2.2) (rfl) (by omega) (by decide) (by rw [mR_5]) ?_
          refine Kr_aload_n C dX5_settle_65 3 rfl ?_
          refine Kr_getr (q2 := 8) C dX5_settle_66 5 f_X5_50 rfl rfl ?_
          refine Kr_iload_n C dX5_settle_69 1 rfl ?_
          refine Kr_ialdN (j := k) (v := vD V 5 k) C dX5_settle_70 rfl (rfl) (by omega) (by decide) ((hVg _ _ _ _).at 5 (by decide) hlt) ?_
          refine Kr_iadd C dX5_settle_71 ?_
          refine Kr_iastN (j := (hdF V (M (Z + 1)) k)) C dX5_settle_72 ((hZ).2.2.2.2.2) (rfl) (by omega) (by decide) ?_
          refine Kr_mem (M' := mR M Z (nI (vN V)) (upd f2 k (nI (hdF V (M (Z + 1)) k))) (f3) (upd f4 (hdF V (M (Z + 1)) k) (f4 (hdF V (M (Z + 1)) k) + 1)) (upd f5 (hdF V (M (Z + 1)) k) (f5 (hdF V (M (Z + 1)) k) + vD V 5 k))) (mR_s5) ?_
          refine Kr_iinc (v := nI (k + 1)) (L' := [(2, .int (nI (k + 1))), (3, .int (nI (hdF V (M (Z + 1)) k))), (0, .ref (mA G Z)), (1, .ref (mA G 2))]) C dX5_settle_73 1 rfl (nI_inc _) (by decide) rfl ?_
          refine Kr_goto (tgt := 14) C dX5_settle_76 (by decide) ?_
          refine Kr_sub (L' := [(2, .int (nI (k + 1))), (0, .ref (mA G Z)), (1, .ref (mA G 2))]) [0, 2, 3] rfl ?_
          exact ih14 (k + 1) _ _ _ (by omega) (by omega) (fun j hj => by rcases Nat.lt_or_ge j k with q | q; (rw [upd_ne (by omega)]; exact h2 j q); (have e9 : j = k := by omega); subst e9; rw [upd_at]) (fun t ht => by unfold szR; rw [sumP_s _ hk0]; by_cases e9 : t = (hdF V (M (Z + 1)) k); (subst e9; rw [upd_at, h4 _ ht]; simp [szR, b2i]); (rw [upd_ne e9, h4 t ht]; simp [szR, b2i, Ne.symm e9])) (fun t ht => by unfold lkR; rw [sumP_s _ hk0]; by_cases e9 : t = (hdF V (M (Z + 1)) k); (subst e9; rw [upd_at, h5 _ ht]; simp [lkR]); (rw [upd_ne e9, h5 t ht]; simp [lkR, Ne.symm e9])) (by omega)
        ·
          have hm27 : ¬ M (Z + 1) k = 0 := by have h9 := of_decide_eq_true (b2i_1.mp c27); rw [mR_o (by omega)] at h9; exact h9.resolve_left (by omega)
          refine Kr_iload_n C dX5_settle_30 0 rfl ?_
          refine Kr_goto (tgt := 40) C dX5_settle_31 (by decide) ?_
          refine Kr_valI (y := nI (hdF V (M (Z + 1)) k)) (by rw [hdF_s V (M (Z + 1)) hk0 (hpar k hk0 hlt).2, if_neg hm27]) ?_
          refine Kr_istore_n (L' := [(3, .int (nI (hdF V (M (Z + 1)) k))), (2, .int (nI k)), (0, .ref (mA G Z)), (1, .ref (mA G 2))]) C dX5_settle_40 (by decide) rfl ?_
          refine Kr_aload_n C dX5_settle_41 2 rfl ?_
          refine Kr_getr (q2 := (Z + 2)) C dX5_settle_42 1 f_X5_15 (hZ.1) rfl ?_
          refine Kr_iload_n C dX5_settle_45 1 rfl ?_
          refine Kr_iload_n C dX5_settle_46 0 rfl ?_
          refine Kr_iastN (j := k) C dX5_settle_47 ((hZ).2.2.1) (rfl) (by omega) (by decide) ?_
          refine Kr_mem (M' := mR M Z (nI (vN V)) (upd f2 k (nI (hdF V (M (Z + 1)) k))) (f3) (f4) (f5)) (mR_s2) ?_
          refine Kr_aload_n C dX5_settle_48 2 rfl ?_
          refine Kr_getr (q2 := (Z + 4)) C dX5_settle_49 3 f_X5_21 (hZ.1) rfl ?_
          refine Kr_iload_n C dX5_settle_52 0 rfl ?_
          refine Kr_dup2 C dX5_settle_53 rfl rfl ?_
          refine Kr_ialdN (j := (hdF V (M (Z + 1)) k)) (v := f4 (hdF V (M (Z + 1)) k)) C dX5_settle_54 ((hZ).2.2.2.2.1) (rfl) (by omega) (by decide) (by rw [mR_4]) ?_
          refine Kr_iconst (v := 1) C dX5_settle_55 rfl ?_
          refine Kr_iadd C dX5_settle_56 ?_
          refine Kr_iastN (j := (hdF V (M (Z + 1)) k)) C dX5_settle_57 ((hZ).2.2.2.2.1) (rfl) (by omega) (by decide) ?_
          refine Kr_mem (M' := mR M Z (nI (vN V)) (upd f2 k (nI (hdF V (M (Z + 1)) k))) (f3) (upd f4 (hdF V (M (Z + 1)) k) (f4 (hdF V (M (Z + 1)) k) + 1)) (f5)) (mR_s4) ?_
          refine Kr_aload_n C dX5_settle_58 2 rfl ?_
          refine Kr_getr (q2 := (Z + 5)) C dX5_settle_59 4 f_X5_24 (hZ.1) rfl ?_
          refine Kr_iload_n C dX5_settle_62 0 rfl ?_
          refine Kr_dup2 C dX5_settle_63 rfl rfl ?_
          refine Kr_ialdN (j := (hdF V (M (Z + 1)) k)) (v := f5 (hdF V (M (Z + 1)) k)) C dX5_settle_64 ((hZ).2.2.2.2.2) (rfl) (by omega) (by decide) (by rw [mR_5]) ?_
          refine Kr_aload_n C dX5_settle_65 3 rfl ?_
          refine Kr_getr (q2 := 8) C dX5_settle_66 5 f_X5_50 rfl rfl ?_
          refine Kr_iload_n C dX5_settle_69 1 rfl ?_
          refine Kr_ialdN (j := k) (v := vD V 5 k) C dX5_settle_70 rfl (rfl) (by omega) (by decide) ((hVg _ _ _ _).at 5 (by decide) hlt) ?_
          refine Kr_iadd C dX5_settle_71 ?_
          refine Kr_iastN (j := (hdF V (M (Z + 1)) k)) C dX5_settle_72 ((hZ).2.2.2.2.2) (rfl) (by omega) (by decide) ?_
          refine Kr_mem (M' := mR M Z (nI (vN V)) (upd f2 k (nI (hdF V (M (Z + 1)) k))) (f3) (upd f4 (hdF V (M (Z + 1)) k) (f4 (hdF V (M (Z + 1)) k) + 1)) (upd f5 (hdF V (M (Z + 1)) k) (f5 (hdF V (M (Z + 1)) k) + vD V 5 k))) (mR_s5) ?_
          refine Kr_iinc (v := nI (k + 1)) (L' := [(2, .int (nI (k + 1))), (3, .int (nI (hdF V (M (Z + 1)) k))), (0, .ref (mA G Z)), (1, .ref (mA G 2))]) C dX5_settle_73 1 rfl (nI_inc _) (by decide) rfl ?_
          refine Kr_goto (tgt := 14) C dX5_settle_76 (by decide) ?_
          refine Kr_sub (L' := [(2, .int (nI (k + 1))), (0, .ref (mA G Z)), (1, .ref (mA G 2))]) [0, 2, 3] rfl ?_
          exact ih14 (k + 1) _ _ _ (by omega) (by omega) (fun j hj => by rcases Nat.lt_or_ge j k with q | q; (rw [upd_ne (by omega)]; exact h2 j q); (have e9 : j = k := by omega); subst e9; rw [upd_at]) (fun t ht => by unfold szR; rw [sumP_s _ hk0]; by_cases e9 : t = (hdF V (M (Z + 1)) k); (subst e9; rw [upd_at, h4 _ ht]; simp [szR, b2i]); (rw [upd_ne e9, h4 t ht]; simp [szR, b2i, Ne.symm e9])) (fun t ht => by unfold lkR; rw [sumP_s _ hk0]; by_cases e9 : t = (hdF V (M (Z + 1)) k); (subst e9; rw [upd_at, h5 _ ht]; simp [lkR]); (rw [upd_ne e9, h5 t ht]; simp [lkR, Ne.symm e9])) (by omega)
  refine Kr_sub (L' := [(2, .int (nI 1)), (0, .ref (mA G Z)), (1, .ref (mA G 2))]) [0, 1, 2] rfl ?_
  exact lp14 _ 1 f2 f4 f5 (by omega) hn1 (fun j hj => by (have e9 : j = 0 := by omega); subst e9; rw [hf2]; rfl) (fun t ht => by rw [(hf t ht).2.1]; exact (sumP_1 _).symm) (fun t ht => by rw [(hf t ht).2.2]; exact (sumP_1 _).symm) (Nat.lt_succ_self _)

set_option maxRecDepth 20000 in
set_option maxHeartbeats 1000000 in
theorem Kc_X7_settle (l : Launch) (G : mG) (hG : KmInj G) (M : Mem) (g : Glo) (V : View) (hT : wfT V) (hS : cSt M 1 V) (hz : wfZ V) : KmcV l G yX7_settle cX7_settle 1 5 [.ref (mA G 0)] M g (fun M' g' => (cOK M' V ∧ offR M M' 75 85) ∧ g' = g) := by
  refine KmcV_of (L0 := [(0, .ref (mA G 0))]) hG (by decide) (Nat.le_of_ble_eq_true rfl) rfl ?_
  intro p e s m args below meth c Q C hend
  have hT0 := hT
  obtain ⟨hn1, hn16, hb4, ⟨hd0, hd3, hd5, hd6⟩, hpar⟩ := hT0
  refine Kr_aload_n C dX7_settle_0 0 rfl ?_
  refine Kr_getr (q2 := 75) C dX7_settle_1 3 f_X7_33 rfl rfl ?_
  refine Kr_aload_n C dX7_settle_4 0 rfl ?_
  refine Kr_getr (q2 := 1) C dX7_settle_5 0 f_X7_10 rfl rfl ?_
  refine Kr_aload_n C dX7_settle_8 0 rfl ?_
  refine Kr_getr (q2 := 1) C dX7_settle_9 0 f_X7_10 rfl rfl ?_
  refine Kr_geti C dX7_settle_12 2 f_X7_106 rfl rfl ?_
  refine Kr_valI (y := vSup V) (hS.2.2.1) ?_
  refine Kr_callVV (As := [.ref (mA G 1), .int (vSup V)]) (rest := []) C dX7_settle_15 s_X7_210 (Kc_X2_settle l G hG M g V hT hS.1 hS.2.1 75 KisHour_75 (by decide) (vSup V) hS.2.2.2.1 hz) (by decide) rfl rfl rfl rfl (Nat.le_of_ble_eq_true rfl) (Nat.le_of_ble_eq_true rfl) (Nat.le_of_ble_eq_true rfl) (fun M15 g15 hp15 => ?_)
  obtain ⟨⟨h15, o15⟩, eg15⟩ := hp15
  rw [eg15]
  refine Kr_aload_n C dX7_settle_18 0 rfl ?_
  refine Kr_getr (q2 := 80) C dX7_settle_19 4 f_X7_40 rfl rfl ?_
  refine Kr_aload_n C dX7_settle_22 0 rfl ?_
  refine Kr_getr (q2 := 1) C dX7_settle_23 0 f_X7_10 rfl rfl ?_
  refine Kr_getr (q2 := 2) C dX7_settle_26 0 f_X7_72 rfl rfl ?_
  refine Kr_callVV (As := [.ref (mA G 2)]) (rest := []) C dX7_settle_29 s_X7_195 (Kc_X5_takeMeters l G hG M15 g 80 KisRegs_80 (by decide)) (by decide) rfl rfl rfl rfl (Nat.le_of_ble_eq_true rfl) (Nat.le_of_ble_eq_true rfl) (Nat.le_of_ble_eq_true rfl) (fun M29 g29 hp29 => ?_)
  obtain ⟨⟨f29, rfl, hf29⟩, eg29⟩ := hp29
  rw [eg29]
  have o29 : offR M15 (mrow M15 (80 + 1) f29) 81 81 := fun q hq => mrow_ne (by omega) _
  have hS2 : cSt (mrow M15 (80 + 1) f29) 1 V := (hS.off o15 (by decide)).off o29 (by decide)
  have hm29 : ∀ j, j < vN V → (mrow M15 (80 + 1) f29) (80 + 1) j = vD V 6 j := fun j hj => by rw [mrow_at, hf29 j (by omega), o15 9 (by decide)]; exact hS.1.2 6 (by decide) j hj
  refine Kr_aload_n C dX7_settle_32 0 rfl ?_
  refine Kr_getr (q2 := 80) C dX7_settle_33 4 f_X7_40 rfl rfl ?_
  refine Kr_aload_n C dX7_settle_36 0 rfl ?_
  refine Kr_getr (q2 := 1) C dX7_settle_37 0 f_X7_10 rfl rfl ?_
  refine Kr_getr (q2 := 2) C dX7_settle_40 0 f_X7_72 rfl rfl ?_
  refine Kr_callVV (As := [.ref (mA G 2)]) (rest := []) C dX7_settle_43 s_X7_199 (Kc_X5_settle l G hG (mrow M15 (80 + 1) f29) g V hT hS2.1 80 KisRegs_80 (by decide)) (by decide) rfl rfl rfl rfl (Nat.le_of_ble_eq_true rfl) (Nat.le_of_ble_eq_true rfl) (Nat.le_of_ble_eq_true rfl) (fun M43 g43 hp43 => ?_)
  obtain ⟨⟨h43, o43⟩, eg43⟩ := hp43
  rw [eg43]
  exact hend _ _ _ _ dX7_settle_46 (⟨⟨⟨hS2.off o43 (by decide), (h15.off o29 (by decide)).off o43 (by decide), h43.mt hT hm29⟩, (o15.tr o29 (by decide) (by decide) (by decide) (by decide) : offR M _ 75 85).tr o43 (by decide) (by decide) (by decide) (by decide)⟩, rfl⟩)

