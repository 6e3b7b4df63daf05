section MR2
variable {p : Program} {l : Launch} {e : Env} {R : Room} {s : State} {m : MethodId} {args : Array Value} {below : List Frame} {meth : Method} {c : Code} {G : mG} {nL kk nn : Nat} {Q : State → Prop} {M : Mem} {g : Glo} {L : List (Nat × Value)} {pc : Nat} {st : List Value} {cc : ByteArray} {own : String}
theorem r_abs {x v : Int32} {idx d mc ms : Nat} (C : mCx p s m args c cc nL own G) (hd : decode cc pc = .ok (.invokestatic idx, 3)) (hm : mMath own idx Lib.Math.abs.name Lib.Math.abs.code 1) (hst : (st.map fun v => v.category).sum ≤ 8) (h1 : kk ≤ mc) (h2 : nn ≤ ms) (hv : (if 0 ≤ x then x else 0 - x) = v) (k : At p l e (rmD d mc ms) s m args below meth c G nL kk nn Q M g L (pc + 3) (.int v :: st)) : At p l e (rmD d mc ms) s m args below meth c G nL kk nn Q M g L pc (.int x :: st) := by
  intro H locs ls hP hS hl
  obtain ⟨a1, a2, a3, a4⟩ := hm
  subst hv
  have ht := C.2.2.2.2.1
  exact va_mabs C.1 C.2.1 (by rw [C.2.2.1]; exact hl.1.symm) C.2.2.2.1 (ht _ a1) (ht _ a2) (ht _ a3) (ht _ a4) (by show 1 ≤ 1 + d; omega) (by show _ ≤ 40 + 40 * d; omega) h1 h2 hd (k H locs ls hP hS hl)
theorem r_irem {x y : Int32} (C : mCx p s m args c cc nL own G) (hd : decode cc pc = .ok (.irem, 1)) (hy : ¬ y = 0) (k : At p l e R s m args below meth c G nL kk nn Q M g L (pc + 1) (.int (x - x / y * y) :: st)) : At p l e R s m args below meth c G nL kk nn Q M g L pc (.int y :: .int x :: st) :=
  fun H locs ls hP hS hl => lv_irem C.1 C.2.1 hd hy (k H locs ls hP hS hl)
theorem r_ishl {x y : Int32} (C : mCx p s m args c cc nL own G) (hd : decode cc pc = .ok (.ishl, 1)) (k : At p l e R s m args below meth c G nL kk nn Q M g L (pc + 1) (.int (x <<< (y &&& 31)) :: st)) : At p l e R s m args below meth c G nL kk nn Q M g L pc (.int y :: .int x :: st) :=
  fun H locs ls hP hS hl => lv_ishl C.1 C.2.1 hd (k H locs ls hP hS hl)
theorem r_ishr {x y : Int32} (C : mCx p s m args c cc nL own G) (hd : decode cc pc = .ok (.ishr, 1)) (k : At p l e R s m args below meth c G nL kk nn Q M g L (pc + 1) (.int (x >>> (y &&& 31)) :: st)) : At p l e R s m args below meth c G nL kk nn Q M g L pc (.int y :: .int x :: st) :=
  fun H locs ls hP hS hl => lv_ishr C.1 C.2.1 hd (k H locs ls hP hS hl)
theorem r_iushr {x y : Int32} (C : mCx p s m args c cc nL own G) (hd : decode cc pc = .ok (.iushr, 1)) (k : At p l e R s m args below meth c G nL kk nn Q M g L (pc + 1) (.int (x.toUInt32 >>> (y.toUInt32 &&& Int32.toUInt32 31)).toInt32 :: st)) : At p l e R s m args below meth c G nL kk nn Q M g L pc (.int y :: .int x :: st) :=
  fun H locs ls hP hS hl => lv_iushr C.1 C.2.1 hd rfl (k H locs ls hP hS hl)
theorem r_i2l {x : Int32} (C : mCx p s m args c cc nL own G) (hd : decode cc pc = .ok (.i2l, 1)) (k : At p l e R s m args below meth c G nL kk nn Q M g L (pc + 1) (.long x.toInt64 :: st)) : At p l e R s m args below meth c G nL kk nn Q M g L pc (.int x :: st) :=
  fun H locs ls hP hS hl => lv_i2l C.1 C.2.1 hd rfl (k H locs ls hP hS hl)
theorem r_ladd {x y : Int64} (C : mCx p s m args c cc nL own G) (hd : decode cc pc = .ok (.ladd, 1)) (k : At p l e R s m args below meth c G nL kk nn Q M g L (pc + 1) (.long (x + y) :: st)) : At p l e R s m args below meth c G nL kk nn Q M g L pc (.long y :: .long x :: st) :=
  fun H locs ls hP hS hl => lv_ladd C.1 C.2.1 hd (k H locs ls hP hS hl)
theorem r_lmul {x y : Int64} (C : mCx p s m args c cc nL own G) (hd : decode cc pc = .ok (.lmul, 1)) (k : At p l e R s m args below meth c G nL kk nn Q M g L (pc + 1) (.long (x * y) :: st)) : At p l e R s m args below meth c G nL kk nn Q M g L pc (.long y :: .long x :: st) :=
  fun H locs ls hP hS hl => lv_lmul C.1 C.2.1 hd (k H locs ls hP hS hl)
theorem r_ldc2 {v : Int64} {idx : Nat} (C : mCx p s m args c cc nL own G) (hd : decode cc pc = .ok (.ldc2_w idx, 3)) (hc : Cond.constantLong own idx v ∈ gd) (k : At p l e R s m args below meth c G nL kk nn Q M g L (pc + 3) (.long v :: st)) : At p l e R s m args below meth c G nL kk nn Q M g L pc st :=
  fun H locs ls hP hS hl => lv_ldc2 C.1 C.2.1 C.2.2.2.1 (C.2.2.2.2.1 _ hc) hd (k H locs ls hP hS hl)
theorem r_ldc {v : Int32} {idx : Nat} (C : mCx p s m args c cc nL own G) (hd : decode cc pc = .ok (.ldc idx, 2)) (hc : Cond.constant own idx v ∈ gd) (k : At p l e R s m args below meth c G nL kk nn Q M g L (pc + 2) (.int v :: st)) : At p l e R s m args below meth c G nL kk nn Q M g L pc st :=
  fun H locs ls hP hS hl => lv_ldc C.1 C.2.1 C.2.2.2.1 (C.2.2.2.2.1 _ hc) hd (k H locs ls hP hS hl)
theorem r_ldcw {v : Int32} {idx : Nat} (C : mCx p s m args c cc nL own G) (hd : decode cc pc = .ok (.ldc_w idx, 3)) (hc : Cond.constant own idx v ∈ gd) (k : At p l e R s m args below meth c G nL kk nn Q M g L (pc + 3) (.int v :: st)) : At p l e R s m args below meth c G nL kk nn Q M g L pc st :=
  fun H locs ls hP hS hl => lv_ldcw C.1 C.2.1 C.2.2.2.1 (C.2.2.2.2.1 _ hc) hd (k H locs ls hP hS hl)
theorem r_tableOut {dflt lo hi : Int} {offs : Array Int} {len : Nat} {x : Int32} {tgt : Nat} (C : mCx p s m args c cc nL own G) (hd : decode cc pc = .ok (.tableswitch dflt lo hi offs, len)) (h : x.toInt < lo ∨ hi < x.toInt) (ht : (pc : Int) + dflt = (tgt : Int)) (k : At p l e R s m args below meth c G nL kk nn Q M g L tgt st) : At p l e R s m args below meth c G nL kk nn Q M g L pc (.int x :: st) :=
  fun H locs ls hP hS hl => lv_tableOut C.1 C.2.1 hd h ht (k H locs ls hP hS hl)
theorem r_tableIn {dflt lo hi : Int} {offs : Array Int} {len : Nat} {x : Int32} {off : Int} {tgt : Nat} (C : mCx p s m args c cc nL own G) (hd : decode cc pc = .ok (.tableswitch dflt lo hi offs, len)) (h1 : ¬ x.toInt < lo) (h2 : ¬ hi < x.toInt) (ho : offs[(x.toInt - lo).toNat]? = some off) (ht : (pc : Int) + off = (tgt : Int)) (k : At p l e R s m args below meth c G nL kk nn Q M g L tgt st) : At p l e R s m args below meth c G nL kk nn Q M g L pc (.int x :: st) :=
  fun H locs ls hP hS hl => lv_tableIn C.1 C.2.1 hd h1 h2 ho ht (k H locs ls hP hS hl)
theorem r_ifnonnull {x : Nat} {off : Int} {tgt : Nat} (C : mCx p s m args c cc nL own G) (hd : decode cc pc = .ok (.ifnonnull off, 3)) (ht : (pc : Int) + off = (tgt : Int)) (k : At p l e R s m args below meth c G nL kk nn Q M g L tgt st) : At p l e R s m args below meth c G nL kk nn Q M g L pc (.ref x :: st) :=
  fun H locs ls hP hS hl => lv_ifnonnull C.1 C.2.1 hd ht (k H locs ls hP hS hl)
/-- System.arraycopy of two int rows at 0, both whole -/
def mCopy (own : String) (idx : Nat) : Prop := Cond.methodLink own idx arraycopyName ∈ gd ∧ Cond.native arraycopyName ∈ gd ∧ Cond.static arraycopyName ∈ gd ∧ Cond.initialized "java/lang/System" ∈ gd
theorem r_copy {q0 q1 n idx d mc ms : Nat} {z : Int32} (C : mCx p s m args c cc nL own G) (hd : decode cc pc = .ok (.invokestatic idx, 3)) (hm : mCopy own idx) (hq0 : lay q0 = (0, [n])) (hq1 : lay q1 = (0, [n])) (hn0 : n ≠ 0) (hz : z = nI n) (hn : n < 2 ^ 31) (hst : (st.map fun v => v.category).sum ≤ 8) (k : ∀ f : Nat → Int32, (∀ j, j < n → f j = M q0 j) → At p l e (rmD d mc ms) s m args below meth c G nL kk nn Q (mrow M q1 f) g L (pc + 3) st) : At p l e (rmD d mc ms) s m args below meth c G nL kk nn Q M g L pc (.int z :: .int 0 :: .ref (mA G q1) :: .int 0 :: .ref (mA G q0) :: st) := by
  intro H locs ls hP hS hl
  obtain ⟨a1, a2, a3, a4⟩ := hm
  subst hz
  have ht := C.2.2.2.2.1
  have e0 : (0 : Int32).toNatClampNeg = 0 := rfl
  have en : (nI n).toNatClampNeg = n := nI_clamp hn
  have hw : nativeFrameWords "java/lang/System" "arraycopy" 5 ≤ 20 := by decide +kernel
  refine va_copyi (D := mD G) (ty := .int) (sp := 0) (dp := 0) (n := nI n) C.1 C.2.1 (by rw [C.2.2.1]; exact hl.1.symm) C.2.2.2.1 (ht _ a1) (ht _ a2) (ht _ a3) (ht _ a4) C.2.2.2.2.2.1.1 hP (m_D C.2.2.2.2.2.2) hS q0 q1 0 0 (m_arr hq0 hn0) (m_arr hq1 hn0) rfl rfl rfl (by decide) (by decide) (nI_pos hn) (by rw [e0, en]; omega) (by rw [e0, en]; omega) (fun _ _ => rfl) (show 1 ≤ 1 + d by omega) (show (st.map fun v => v.category).sum + (nativeFrameWords "java/lang/System" "arraycopy" 5 + 11) ≤ 40 + 40 * d by omega) hd (fun H locs hP _ hS => ?_)
  refine k (va_cpy (M q0) (M q1) (0 : Int32).toNatClampNeg (0 : Int32).toNatClampNeg (nI n).toNatClampNeg) (fun j hj => by rw [e0, en, pk_cpy_in (Nat.zero_le _) (by omega)]; congr 1; omega) H locs ls ?_ hS hl
  rw [← m_ws_set (G := G) (M := M) (M' := mrow M q1 (va_cpy (M q0) (M q1) (0 : Int32).toNatClampNeg (0 : Int32).toNatClampNeg (nI n).toNatClampNeg)) (g := g) (g' := g) (k := q1) (e := .inl (G.2.1.1, n, .inl (va_cpy (M q0) (M q1) (0 : Int32).toNatClampNeg (0 : Int32).toNatClampNeg (nI n).toNatClampNeg))) (fun z hz => ⟨mrow_ne hz _, rfl⟩)]
  · exact hP
  · rw [m_ctq hq1 (by simpa using hn0)]; simp only [m_ctL, mrow_at]
end MR2
