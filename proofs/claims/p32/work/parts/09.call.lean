section MM
variable {p : Program} {l : Launch} {e : Env} {R : Room} {s : State} {m : MethodId} {args : Array Value} {below : List Frame} {meth : Method} {c : Code} {G : mG} {nL kk nn : Nat} {Q : State → Prop} {M : Mem} {g : Glo} {L : List (Nat × Value)} {pc : Nat} {st : List Value} {cc : ByteArray} {own : String}
theorem m_obj {G : mG} {M : Mem} {g : Glo} {q ci : Nat} {fs : List Nat} (hq : lay q = (1, ci :: fs)) : (m_ws G M g)[q]? = some (mA G q, .inr (ci, m_fs (mA G) (M q) (g q) 0 fs)) := by
  have h := m_ws_at (G := G) (M := M) (g := g) (nP_ge (lay_lt (k := q) (by rw [hq]; intro h; cases h)))
  rw [h]
  rw [m_ctq hq (by simp)]; simp only [m_ctL]
theorem m_arr {G : mG} {M : Mem} {g : Glo} {q n : Nat} (hq : lay q = (0, [n])) (hn : n ≠ 0) : (m_ws G M g)[q]? = some (mA G q, .inl (G.2.1.1, n, .inl (M q))) := by
  have h := m_ws_at (G := G) (M := M) (g := g) (nP_ge (lay_lt (k := q) (by rw [hq]; intro h; injection h with _ h2; injection h2 with h3; exact hn h3)))
  rw [h]
  rw [m_ctq hq (by simpa using hn)]; simp only [m_ctL]
theorem m_arL {G : mG} {M : Mem} {g : Glo} {q n : Nat} (hq : lay q = (3, [n])) : (m_ws G M g)[q]? = some (mA G q, .inl (G.2.1.2.2, n, .inr (.inl (g q)))) := by
  have h := m_ws_at (G := G) (M := M) (g := g) (nP_ge (lay_lt (k := q) (by rw [hq]; intro h; injection h with h2 _; cases h2)))
  rw [h]
  rw [m_ctq hq (by simp)]; simp only [m_ctL]
theorem m_arR {G : mG} {M : Mem} {g : Glo} {q : Nat} {ps : List Nat} (hq : lay q = (2, ps)) : (m_ws G M g)[q]? = some (mA G q, .inl (G.2.1.2.1, ps.length, .inr (.inr (.inr (.inr (fun i => (ps[i]?).map (mA G))))))) := by
  have h := m_ws_at (G := G) (M := M) (g := g) (nP_ge (lay_lt (k := q) (by rw [hq]; intro h; injection h with h2 _; cases h2)))
  rw [h]
  rw [m_ctq hq (by simp)]; simp only [m_ctL]
theorem m_ct_set {G : mG} {M : Mem} {g : Glo} {q i : Nat} {x : Int32} {e : va_E} (he : e = m_ct G (mset M q i x) g q) : (m_ws G M g).set q (mA G q, e) = m_ws G (mset M q i x) g :=
  m_ws_set (fun z hz => ⟨by simp [mset, hz], rfl⟩) he
theorem m_ct_setL {G : mG} {M : Mem} {g : Glo} {q i : Nat} {x : Int64} {e : va_E} (he : e = m_ct G M (gset g q i x) q) : (m_ws G M g).set q (mA G q, e) = m_ws G M (gset g q i x) :=
  m_ws_set (fun z hz => ⟨rfl, by simp [gset, hz]⟩) he
theorem r_geti {q ci : Nat} {fs : List Nat} {idx : Nat} (C : mCx p s m args c cc nL own G) (hd : decode cc pc = .ok (.getfield idx, 3)) (i : Nat) (hf : mFl own idx ci i) (hq : lay q = (1, ci :: fs)) (hi : fs[i]? = some 0) (k : At p l e R s m args below meth c G nL kk nn Q M g L (pc + 3) (.int (M q i) :: st)) : At p l e R s m args below meth c G nL kk nn Q M g L pc (.ref (mA G q) :: st) := by
  intro H locs ls hP hS hl
  obtain ⟨C0, T, N, ty, ⟨c1, c2, c3, c4⟩, h2, h3⟩ := hf
  have hv := m_fs_int (mA G) (M q) (g q) fs 0 i hi
  rw [Nat.zero_add] at hv
  exact va_get (D := mD G) (v := .int (M q i)) C.1 C.2.1 (Ts := gd) C.2.2.2.2.1 c2 C.2.2.2.1 C.2.2.2.2.2.1.1 hP q (m_obj hq) c1 i h2 (C.2.2.2.2.1 _ h3) (fun _ h => h) hv hd (k H locs ls hP hS hl)
theorem r_getl {q ci : Nat} {fs : List Nat} {idx : Nat} (C : mCx p s m args c cc nL own G) (hd : decode cc pc = .ok (.getfield idx, 3)) (i : Nat) (hf : mFl own idx ci i) (hq : lay q = (1, ci :: fs)) (hi : fs[i]? = some 1) (k : At p l e R s m args below meth c G nL kk nn Q M g L (pc + 3) (.long (g q i) :: st)) : At p l e R s m args below meth c G nL kk nn Q M g L pc (.ref (mA G q) :: st) := by
  intro H locs ls hP hS hl
  obtain ⟨C0, T, N, ty, ⟨c1, c2, c3, c4⟩, h2, h3⟩ := hf
  have hv := m_fs_long (mA G) (M q) (g q) fs 0 i hi
  rw [Nat.zero_add] at hv
  exact va_get (D := mD G) (v := .long (g q i)) C.1 C.2.1 (Ts := gd) C.2.2.2.2.1 c2 C.2.2.2.1 C.2.2.2.2.2.1.1 hP q (m_obj hq) c1 i h2 (C.2.2.2.2.1 _ h3) (fun _ h => h) hv hd (k H locs ls hP hS hl)
theorem r_getr {q ci q2 : Nat} {fs : List Nat} {idx : Nat} (C : mCx p s m args c cc nL own G) (hd : decode cc pc = .ok (.getfield idx, 3)) (i : Nat) (hf : mFl own idx ci i) (hq : lay q = (1, ci :: fs)) (hi : fs[i]? = some (q2 + 2)) (k : At p l e R s m args below meth c G nL kk nn Q M g L (pc + 3) (.ref (mA G q2) :: st)) : At p l e R s m args below meth c G nL kk nn Q M g L pc (.ref (mA G q) :: st) := by
  intro H locs ls hP hS hl
  obtain ⟨C0, T, N, ty, ⟨c1, c2, c3, c4⟩, h2, h3⟩ := hf
  exact va_get (D := mD G) (v := .ref (mA G q2)) C.1 C.2.1 (Ts := gd) C.2.2.2.2.1 c2 C.2.2.2.1 C.2.2.2.2.2.1.1 hP q (m_obj hq) c1 i h2 (C.2.2.2.2.1 _ h3) (fun _ h => h) (m_fs_ref (mA G) (M q) (g q) fs 0 i hi) hd (k H locs ls hP hS hl)
theorem r_puti {q ci : Nat} {fs : List Nat} {idx : Nat} {x : Int32} (C : mCx p s m args c cc nL own G) (hd : decode cc pc = .ok (.putfield idx, 3)) (i : Nat) (hf : mFi own idx ci i .int) (hq : lay q = (1, ci :: fs)) (hi : fs[i]? = some 0) (k : At p l e R s m args below meth c G nL kk nn Q (mset M q i x) g L (pc + 3) st) : At p l e R s m args below meth c G nL kk nn Q M g L pc (.int x :: .ref (mA G q) :: st) := by
  intro H locs ls hP hS hl
  obtain ⟨C0, T, N, ty, ⟨c1, c2, c3, c4⟩, h2, h3, h4, h5⟩ := hf
  refine va_put (D := mD G) (v := .int x) (ty := .int) C.1 C.2.1 (Ts := gd) C.2.2.2.2.1 c2 ty c3 c4 C.2.2.2.1 C.2.2.2.2.2.1.1 hP (m_D C.2.2.2.2.2.2) hS q (m_obj hq) c1 i h2 (C.2.2.2.2.1 _ h3) (fun _ h => h) h4 h5 rfl rfl (by rw [m_fs_len]; exact (List.getElem?_eq_some_iff.mp hi).1) hd (fun H locs hP _ hS => ?_)
  refine k H locs ls ?_ hS hl
  rw [← m_ct_set (G := G) (M := M) (g := g) (q := q) (i := i) (x := x) (e := .inr (ci, (m_fs (mA G) (M q) (g q) 0 fs).set i (.int x)))]
  · exact hP
  · rw [m_ctq hq (by simp)]; simp only [m_ctL]
    rw [m_fs_set (mA G) (M q) (g q) x fs 0 i hi, Nat.zero_add]
    simp [mset]
theorem r_putl {q ci : Nat} {fs : List Nat} {idx : Nat} {x : Int64} (C : mCx p s m args c cc nL own G) (hd : decode cc pc = .ok (.putfield idx, 3)) (i : Nat) (hf : mFi own idx ci i .long) (hq : lay q = (1, ci :: fs)) (hi : fs[i]? = some 1) (k : At p l e R s m args below meth c G nL kk nn Q M (gset g q i x) L (pc + 3) st) : At p l e R s m args below meth c G nL kk nn Q M g L pc (.long x :: .ref (mA G q) :: st) := by
  intro H locs ls hP hS hl
  obtain ⟨C0, T, N, ty, ⟨c1, c2, c3, c4⟩, h2, h3, h4, h5⟩ := hf
  refine va_put (D := mD G) (v := .long x) (ty := .long) C.1 C.2.1 (Ts := gd) C.2.2.2.2.1 c2 ty c3 c4 C.2.2.2.1 C.2.2.2.2.2.1.1 hP (m_D C.2.2.2.2.2.2) hS q (m_obj hq) c1 i h2 (C.2.2.2.2.1 _ h3) (fun _ h => h) h4 h5 rfl rfl (by rw [m_fs_len]; exact (List.getElem?_eq_some_iff.mp hi).1) hd (fun H locs hP _ hS => ?_)
  refine k H locs ls ?_ hS hl
  rw [← m_ct_setL (G := G) (M := M) (g := g) (q := q) (i := i) (x := x) (e := .inr (ci, (m_fs (mA G) (M q) (g q) 0 fs).set i (.long x)))]
  · exact hP
  · rw [m_ctq hq (by simp)]; simp only [m_ctL]
    rw [m_fs_setL (mA G) (M q) (g q) x fs 0 i hi, Nat.zero_add]
    simp [gset]
theorem vp_in_ne {i : Int32} {n : Nat} (h : vp_in i n) : n ≠ 0 := fun e => h (Or.inr (by omega))
theorem r_iald {q n : Nat} {i : Int32} (C : mCx p s m args c cc nL own G) (hd : decode cc pc = .ok (.iaload, 1)) (hq : lay q = (0, [n])) (hin : vp_in i n) (k : At p l e R s m args below meth c G nL kk nn Q M g L (pc + 1) (.int (M q i.toNatClampNeg) :: st)) : At p l e R s m args below meth c G nL kk nn Q M g L pc (.int i :: .ref (mA G q) :: st) :=
  fun H locs ls hP hS hl => va_iald (D := mD G) C.1 C.2.1 C.2.2.2.2.2.1.1 hP q 0 (m_arr hq (vp_in_ne hin)) rfl hin hd (k H locs ls hP hS hl)
theorem r_ialdN {q n j : Nat} {i v : Int32} (C : mCx p s m args c cc nL own G) (hd : decode cc pc = .ok (.iaload, 1)) (hq : lay q = (0, [n])) (hi : i = nI j) (hj : j < n) (hn : n < 2 ^ 31) (hv : M q j = v) (k : At p l e R s m args below meth c G nL kk nn Q M g L (pc + 1) (.int v :: st)) : At p l e R s m args below meth c G nL kk nn Q M g L pc (.int i :: .ref (mA G q) :: st) := by
  subst hi
  refine r_iald C hd hq (vp_in_nI hj hn) ?_
  rw [nI_clamp (by omega), hv]
  exact k
theorem r_iast {q n : Nat} {i x : Int32} (C : mCx p s m args c cc nL own G) (hd : decode cc pc = .ok (.iastore, 1)) (hq : lay q = (0, [n])) (hin : vp_in i n) (k : At p l e R s m args below meth c G nL kk nn Q (mset M q i.toNatClampNeg x) g L (pc + 1) st) : At p l e R s m args below meth c G nL kk nn Q M g L pc (.int x :: .int i :: .ref (mA G q) :: st) := by
  intro H locs ls hP hS hl
  refine va_iast (D := mD G) C.1 C.2.1 C.2.2.2.2.2.1.1 hP (m_D C.2.2.2.2.2.2) hS q 0 (m_arr hq (vp_in_ne hin)) rfl hin hd (fun H locs hP _ hS => ?_)
  refine k H locs ls ?_ hS hl
  rw [← m_ct_set (G := G) (M := M) (g := g) (q := q) (i := i.toNatClampNeg) (x := x) (e := .inl (G.2.1.1, n, .inl (upd (M q) i.toNatClampNeg x)))]
  · exact hP
  · rw [m_ctq hq (by simpa using vp_in_ne hin)]; simp only [m_ctL]
    simp [mset]
theorem r_iastN {q n j : Nat} {i x : Int32} (C : mCx p s m args c cc nL own G) (hd : decode cc pc = .ok (.iastore, 1)) (hq : lay q = (0, [n])) (hi : i = nI j) (hj : j < n) (hn : n < 2 ^ 31) (k : At p l e R s m args below meth c G nL kk nn Q (mset M q j x) g L (pc + 1) st) : At p l e R s m args below meth c G nL kk nn Q M g L pc (.int x :: .int i :: .ref (mA G q) :: st) := by
  subst hi
  refine r_iast C hd hq (vp_in_nI hj hn) ?_
  rw [nI_clamp (by omega)]
  exact k
theorem r_alen {q n : Nat} {v : Int32} (C : mCx p s m args c cc nL own G) (hd : decode cc pc = .ok (.arraylength, 1)) (hq : lay q = (0, [n])) (hn : n ≠ 0) (hv : Int32.ofNat n = v) (k : At p l e R s m args below meth c G nL kk nn Q M g L (pc + 1) (.int v :: st)) : At p l e R s m args below meth c G nL kk nn Q M g L pc (.ref (mA G q) :: st) :=
  fun H locs ls hP hS hl => va_alen (D := mD G) C.1 C.2.1 C.2.2.2.2.2.1.1 hP q 0 (m_arr hq hn) (ty := .int) rfl hv hd (k H locs ls hP hS hl)
theorem r_aald {q q2 : Nat} {ps : List Nat} {i : Int32} (C : mCx p s m args c cc nL own G) (hd : decode cc pc = .ok (.aaload, 1)) (hq : lay q = (2, ps)) (hin : vp_in i ps.length) (h2 : ps[i.toNatClampNeg]? = some q2) (k : At p l e R s m args below meth c G nL kk nn Q M g L (pc + 1) (.ref (mA G q2) :: st)) : At p l e R s m args below meth c G nL kk nn Q M g L pc (.int i :: .ref (mA G q) :: st) := by
  intro H locs ls hP hS hl
  refine va_aldq (D := mD G) (C := "HeatBranches$State") C.1 C.2.1 C.2.2.2.2.2.1.1 hP q 1 (m_arR hq) rfl hin hd ?_
  simp only [h2, Option.map_some, va_rf]
  exact k H locs ls hP hS hl
def mMath (own : String) (idx : Nat) (y : MethodName) (bytes : ByteArray) (n : Nat) : Prop := Cond.methodLink own idx y ∈ gd ∧ Cond.static y ∈ gd ∧ Cond.initialized "java/lang/Math" ∈ gd ∧ Cond.code y bytes n (some .int) ∈ gd
def rmD (d mc ms : Nat) : Room := { frames := 1 + d, cells := mc, slots := ms, locals := 40 + 40 * d }
theorem r_min {x y v : Int32} {idx d mc ms : Nat} (C : mCx p s m args c cc nL own G) (hd : decode cc pc = .ok (.invokestatic idx, 3)) (hm : mMath own idx Lib.Math.min.name Lib.Math.min.code 2) (hst : (st.map fun v => v.category).sum ≤ 8) (h1 : kk ≤ mc) (h2 : nn ≤ ms) (hv : (if y < x then y else x) = v) (k : At p l e (rmD d mc ms) s m args below meth c G nL kk nn Q M g L (pc + 3) (.int v :: st)) : At p l e (rmD d mc ms) s m args below meth c G nL kk nn Q M g L pc (.int y :: .int x :: st) := by
  intro H locs ls hP hS hl
  obtain ⟨a1, a2, a3, a4⟩ := hm
  subst hv
  have ht := C.2.2.2.2.1
  exact va_mmin C.1 C.2.1 (by rw [C.2.2.1]; exact hl.1.symm) C.2.2.2.1 (ht _ a1) (ht _ a2) (ht _ a3) (ht _ a4) (by show 1 ≤ 1 + d; omega) (by show _ ≤ 40 + 40 * d; omega) h1 h2 hd (k H locs ls hP hS hl)
theorem r_max {x y v : Int32} {idx d mc ms : Nat} (C : mCx p s m args c cc nL own G) (hd : decode cc pc = .ok (.invokestatic idx, 3)) (hm : mMath own idx Lib.Math.max.name Lib.Math.max.code 2) (hst : (st.map fun v => v.category).sum ≤ 8) (h1 : kk ≤ mc) (h2 : nn ≤ ms) (hv : (if x < y then y else x) = v) (k : At p l e (rmD d mc ms) s m args below meth c G nL kk nn Q M g L (pc + 3) (.int v :: st)) : At p l e (rmD d mc ms) s m args below meth c G nL kk nn Q M g L pc (.int y :: .int x :: st) := by
  intro H locs ls hP hS hl
  obtain ⟨a1, a2, a3, a4⟩ := hm
  subst hv
  have ht := C.2.2.2.2.1
  exact va_mmax C.1 C.2.1 (by rw [C.2.2.1]; exact hl.1.symm) C.2.2.2.1 (ht _ a1) (ht _ a2) (ht _ a3) (ht _ a4) (by show 1 ≤ 1 + d; omega) (by show _ ≤ 40 + 40 * d; omega) h1 h2 hd (k H locs ls hP hS hl)
end MM
