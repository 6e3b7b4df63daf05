/-! rows of the law's own body: the script is read, wrappers and methods are called, over any room -/
section ML
variable {p : Program} {l : Launch} {e : Env} {R : Room} {s : State} {m : MethodId} {args : Array Value} {below : List Frame} {meth : Method} {c : Code} {G : mG} {nL kk nn : Nat} {Q : State → Prop} {M : Mem} {g : Glo} {L : List (Nat × Value)} {pc : Nat} {st : List Value} {cc : ByteArray} {own : String}
theorem r_sldN {b LL j : Nat} {xs : Nat → Int32} {i : Int32} (C : mCx p s m args c cc nL own G) (hX : va_X b LL xs s s.heap) (hbl : b < s.heap.size) (hbA : ¬ mAq G s.heap.size b) (hL : LL ≤ 260) (hd : decode cc pc = .ok (.iaload, 1)) (hi : i = nI j) (hj : j < LL) (k : At p l e R s m args below meth c G nL kk nn Q M g L (pc + 1) (.int (xs j) :: st)) : At p l e R s m args below meth c G nL kk nn Q M g L pc (.int i :: .ref b :: st) := by
  subst hi
  intro H locs ls hP hS hl
  have h := k H locs ls hP hS hl
  refine va_sld C.1 C.2.1 hX hbl hbA hS (vp_in_nI hj (by omega)) hd ?_
  rw [nI_clamp (by omega)]
  exact h
theorem r_slen {b LL : Nat} {xs : Nat → Int32} (C : mCx p s m args c cc nL own G) (hX : va_X b LL xs s s.heap) (hbl : b < s.heap.size) (hbA : ¬ mAq G s.heap.size b) (hd : decode cc pc = .ok (.arraylength, 1)) (k : At p l e R s m args below meth c G nL kk nn Q M g L (pc + 1) (.int (nI LL) :: st)) : At p l e R s m args below meth c G nL kk nn Q M g L pc (.ref b :: st) :=
  fun H locs ls hP hS hl => va_slen C.1 C.2.1 hX hbl hbA hS hd (k H locs ls hP hS hl)
theorem m_cbR {idx maxL n d mc ms : Nat} {y : MethodName} {bytes : ByteArray} {ret : Option FieldType} (C : mCx p s m args c cc nL own G) (h : mSi own idx y bytes maxL ret n) (h1 : 1 + d + 1 ≤ R.frames) (h2 : 8 + (maxL + 11) + (40 + 40 * d) ≤ R.locals) : CallB R s args own idx y bytes maxL ret (.code y bytes maxL ret :: gd) (rmD d mc ms) mc ms n := by
  obtain ⟨a1, a2, a3, a4, a5, a6, a7⟩ := h
  have ht := C.2.2.2.2.1
  exact callB_of n ht (gd_in a3) rfl rfl rfl (ht _ a2) (ht _ a1) ⟨a4, a5, a6⟩ ⟨h1, h2⟩
theorem m_cwR {idx maxL n d mc ms : Nat} {Cn : String} {y : MethodName} {bytes : ByteArray} {ret : Option FieldType} (C : mCx p s m args c cc nL own G) (h : mSv own idx Cn y bytes maxL ret n) (h1 : 1 + d + 1 ≤ R.frames) (h2 : 8 + (maxL + 11) + (40 + 40 * d) ≤ R.locals) : CallW R s args own Cn idx y bytes maxL ret (.code y bytes maxL ret :: gd) (rmD d mc ms) mc ms n := by
  obtain ⟨a1, a2, a3, a4⟩ := h
  exact ⟨m_cbR C a1 h1 h2, C.2.2.2.2.1 _ a2, C.2.2.2.2.1 _ a3⟩
theorem r_lVI {idx maxL n d q ci N : Nat} {fs : List Nat} {C0 : String} {T : u_T} {y : MethodName} {bytes : ByteArray} {ret : FieldType} {As rest st0 : List Value} {post : Int32 → Mem → Glo → Prop} (C : mCx p s m args c cc nL own G) (hd : decode cc pc = .ok (.invokevirtual idx, 3)) (hs : mSv own idx C0 y bytes maxL (some ret) n) (hM : mcI l G y bytes maxL ret d (.ref (mA G q) :: As) M g post) (hr1 : 1 + d + 1 ≤ R.frames) (hr2 : 8 + (maxL + 11) + (40 + 40 * d) ≤ R.locals) (hq : lay q = (1, ci :: fs)) (hc : vwC[ci]? = some (C0, T, N)) (hn : As.length = n) (hst : st0 = As.reverse ++ .ref (mA G q) :: rest) (hr : (rest.map fun v => v.category).sum ≤ 8) (h1 : kk ≤ R.cells) (h2 : nn ≤ R.slots)
    (k : ∀ (r : Int32) (M' : Mem) (g' : Glo), post r M' g' → At p l e R s m args below meth c G nL kk nn Q M' g' L (pc + 3) (.int r :: rest)) : At p l e R s m args below meth c G nL kk nn Q M g L pc st0 := by
  intro H locs ls hP hS hl
  subst hst
  refine va_calli (va_runV (As := As) (rest := rest) (m_fix C) (hM H.size) (m_cwR C hs hr1 hr2) (m_pv C hq hc hP hS) rfl hn hl.1 rfl (lv_room hr) hd ⟨h1, h2⟩) hS (fun _ _ h => mAq_le hS.1 h) (fun _ h => mAq_le hS.1 h) (fun r u t H1 locs1 ht hvm hw hB hz1 hk1 hS1 => ?_)
  unfold mB at hB
  rw [ht] at hB
  exact k r u.1 u.2 hw H1 locs1 ls hB hS1 hl
theorem r_lVD {idx maxL n d q ci N : Nat} {fs : List Nat} {C0 : String} {T : u_T} {y : MethodName} {bytes : ByteArray} {As rest st0 : List Value} {post : UInt64 → Mem → Glo → Prop} (C : mCx p s m args c cc nL own G) (hd : decode cc pc = .ok (.invokevirtual idx, 3)) (hs : mSv own idx C0 y bytes maxL (some .double) n) (hM : mcD l G y bytes maxL d (.ref (mA G q) :: As) M g post) (hr1 : 1 + d + 1 ≤ R.frames) (hr2 : 8 + (maxL + 11) + (40 + 40 * d) ≤ R.locals) (hq : lay q = (1, ci :: fs)) (hc : vwC[ci]? = some (C0, T, N)) (hn : As.length = n) (hst : st0 = As.reverse ++ .ref (mA G q) :: rest) (hr : (rest.map fun v => v.category).sum ≤ 8) (h1 : kk ≤ R.cells) (h2 : nn ≤ R.slots)
    (k : ∀ (r : UInt64) (M' : Mem) (g' : Glo), post r M' g' → At p l e R s m args below meth c G nL kk nn Q M' g' L (pc + 3) (.double r :: rest)) : At p l e R s m args below meth c G nL kk nn Q M g L pc st0 := by
  intro H locs ls hP hS hl
  subst hst
  refine va_calld (va_runV (As := As) (rest := rest) (m_fix C) (hM H.size) (m_cwR C hs hr1 hr2) (m_pv C hq hc hP hS) rfl hn hl.1 rfl (lv_room hr) hd ⟨h1, h2⟩) hS (fun _ _ h => mAq_le hS.1 h) (fun _ h => mAq_le hS.1 h) (fun r u t H1 locs1 ht hvm hw hB hz1 hk1 hS1 => ?_)
  unfold mB at hB
  rw [ht] at hB
  exact k r u.1 u.2 hw H1 locs1 ls hB hS1 hl
def mSw (own : String) (idx : Nat) (y : MethodName) (bytes : ByteArray) (maxL : Nat) (hh : List (Nat × Nat × Nat × Nat)) (n : Nat) : Prop :=
  Cond.methodLink own idx y ∈ gd ∧ Cond.initialized y.cls ∈ gd ∧ Cond.codeWith y bytes maxL (some .int) hh ∈ gd ∧ y.cls ≠ "java/lang/invoke/MethodHandle" ∧ y.cls ≠ "java/lang/invoke/VarHandle" ∧ (parseMethodDescriptor y.desc).map (fun d => d.parameters.length) = some n ∧ Cond.static y ∈ gd
theorem r_lS {idx maxL n d mc ms : Nat} {y : MethodName} {bytes : ByteArray} {hh : List (Nat × Nat × Nat × Nat)} {As rest st0 : List Value} {post : Int32 → Mem → Glo → Prop} (C : mCx p s m args c cc nL own G) (hd : decode cc pc = .ok (.invokestatic idx, 3)) (hs : mSw own idx y bytes maxL hh n) (hM : mcW l G y bytes maxL hh d mc ms As M g post) (hr1 : 1 + d + 1 ≤ R.frames) (hr2 : 8 + (maxL + 11) + (40 + 40 * d) ≤ R.locals) (hn : As.length = n) (hst : st0 = As.reverse ++ rest) (hr : (rest.map fun v => v.category).sum ≤ 8) (h1 : kk + mc ≤ R.cells) (h2 : nn + ms ≤ R.slots)
    (k : ∀ (r : Int32) (M' : Mem) (g' : Glo), post r M' g' → At p l e R s m args below meth c G nL (kk + mc) (nn + ms) Q M' g' L (pc + 3) (.int r :: rest)) : At p l e R s m args below meth c G nL kk nn Q M g L pc st0 := by
  intro H locs ls hP hS hl
  subst hst
  obtain ⟨a1, a2, a3, a4, a5, a6, a7⟩ := hs
  have ht := C.2.2.2.2.1
  refine va_calli (vx_runSW (As := As) (rest := rest) (hh := hh) (m_fix C) (hM H.size) ⟨⟨rfl, rfl, hr1, hr2, pay_in ht (gd_in a3), List.mem_cons_self⟩, ht _ a3, ht _ a2, ⟨a4, a5⟩, (fun sig h => by have h2 := a6; rw [h] at h2; exact (Option.some.inj h2).symm), ht _ a1, ht _ a7⟩ (m_ps C hP hS) rfl hn hl.1 rfl (lv_room hr) hd ⟨h1, h2⟩) hS (fun _ _ h => mAq_le hS.1 h) (fun _ h => mAq_le hS.1 h) (fun r u t H1 locs1 ht hvm hw hB hz1 hk1 hS1 => ?_)
  unfold mB at hB
  rw [ht] at hB
  exact k r u.1 u.2 hw H1 locs1 ls hB hS1 hl
theorem r_lcmpE {x y : Int64} (h : x = y) (C : mCx p s m args c cc nL own G) (hd : decode cc pc = .ok (.lcmp, 1)) (k : At p l e R s m args below meth c G nL kk nn Q M g L (pc + 1) (.int 0 :: st)) : At p l e R s m args below meth c G nL kk nn Q M g L pc (.long y :: .long x :: st) := by
  subst h
  intro H locs ls hP hS hl
  refine W.lcmp C.1 C.2.1 hd ?_
  have e : lg_cmp x x = 0 := by
    unfold lg_cmp
    simp
  rw [e]
  exact k H locs ls hP hS hl
theorem r_dcmpE {x : UInt64} {op : CmpOp} (h : FP.dcmp x x = some .eq) (C : mCx p s m args c cc nL own G) (hd : decode cc pc = .ok (.dcmp op, 1)) (k : At p l e R s m args below meth c G nL kk nn Q M g L (pc + 1) (.int 0 :: st)) : At p l e R s m args below meth c G nL kk nn Q M g L pc (.double x :: .double x :: st) := by
  intro H locs ls hP hS hl
  refine lv_dcmp C.1 C.2.1 hd ?_
  rw [h]
  exact k H locs ls hP hS hl
theorem r_dstore {k0 : Nat} {x : UInt64} {L' : List (Nat × Value)} (C : mCx p s m args c cc nL own G) (hd : decode cc pc = .ok (.dstore k0, 2)) (hn : k0 + 1 < nL) (hL : (k0, Value.double x) :: L.filter (fun q => !(q.1 == k0) && (!(q.1 == k0 + 1) && !(q.1 + 1 == k0 && q.2.category == 2))) = L') (k : At p l e R s m args below meth c G nL kk nn Q M g L' (pc + 2) st) : At p l e R s m args below meth c G nL kk nn Q M g L pc (.double x :: st) :=
  fun H locs ls hP hS hl => lv_dstore C.1 C.2.1 hd hl hn hL (fun ls hl => k H locs ls hP hS hl)
theorem r_dload {k0 : Nat} {x : UInt64} (C : mCx p s m args c cc nL own G) (hd : decode cc pc = .ok (.dload k0, 2)) (i : Nat) (hl0 : L[i]? = some (k0, .double x)) (k : At p l e R s m args below meth c G nL kk nn Q M g L (pc + 2) (.double x :: st)) : At p l e R s m args below meth c G nL kk nn Q M g L pc st :=
  fun H locs ls hP hS hl => lv_dload C.1 C.2.1 hd (lv_at hl i hl0) (k H locs ls hP hS hl)
/-- more room used is no harm -/
theorem r_more {k1 n1 : Nat} (h1 : kk ≤ k1) (h2 : nn ≤ n1) (k : At p l e R s m args below meth c G nL k1 n1 Q M g L pc st) : At p l e R s m args below meth c G nL kk nn Q M g L pc st :=
  fun H locs ls hP hS hl => W.widen h1 h2 (k H locs ls hP hS hl)
end ML
