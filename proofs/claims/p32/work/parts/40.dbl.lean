section MD
variable {p : Program} {l : Launch} {e : Env} {s : State} {m : MethodId} {args : Array Value} {below : List Frame} {meth : Method} {c : Code} {G : mG} {nL kk nn : Nat} {Q : State → Prop} {M : Mem} {g : Glo} {L : List (Nat × Value)} {pc : Nat} {st : List Value} {cc : ByteArray} {own : String} {R : Room}
/-- a contract that answers a double -/
def mcD (l : Launch) (G : mG) (y : MethodName) (cc : ByteArray) (nL : Nat) (d : Nat) (vs : List Value) (M : Mem) (g : Glo) (post : UInt64 → Mem → Glo → Prop) : Prop :=
  ∀ sz, Met l y (.code y cc nL (some .double) :: gd) (rmD d 0 0) (mPc G sz vs M g) (va_Qd (fun r (u : Mem × Glo) => post r u.1 u.2) (mB G) (mAq G sz)) 0 0 (mAq G sz)
theorem mcD_of {y : MethodName} {d : Nat} {vs : List Value} {post : UInt64 → Mem → Glo → Prop} {L0 : List (Nat × Value)} (hG : mInj G) (hy : plainName y.cls = true) (hvs : (lg_sl vs).length ≤ nL) (hL : lv_args 0 vs = L0)
    (body : ∀ (p : Program) (e : Env) (s : State) (m : MethodId) (args : Array Value) (below : List Frame) (meth : Method) (c : Code) (Q : State → Prop), mCx p s m args c cc nL y.cls G →
      (∀ (r : UInt64) (M' : Mem) (g' : Glo) (L' : List (Nat × Value)) (pc : Nat), decode cc pc = .ok (.dreturn, 1) → post r M' g' → At p l e (rmD d 0 0) s m args below meth c G nL 0 0 Q M' g' L' pc [.double r]) →
      At p l e (rmD d 0 0) s m args below meth c G nL 0 0 Q M g L0 0 []) : mcD l G y cc nL d vs M g post := by
  intro sz
  refine Met.ofW (cc := cc) (maxL := nL) (ret := some .double) hy rfl ?_
  intro p e s m args below meth c s₁ B hml hv
  obtain ⟨rfl, hsz, hP, hS⟩ := hv
  subst hsz
  subst hL
  rw [lg_entry_eq]
  exact body p e s m _ below meth c _ ⟨B.exec, B.bytes, hml, findClass_of_methodNamed B.named, fun w hw => atoms_spec B.pre w (List.mem_cons_of_mem _ hw), hS, hG⟩
    (fun r M' g' L' pc hd hp H locs ls hP hS hl => W.dret B.exec B.bytes B.returns (fun t ht hW => ⟨⟨r, (M', g'), rfl, hp, by unfold mB; rw [ht]; exact hP⟩, hS.F ht⟩) hS.2.2 hd B.notSynchronized)
    s.heap [] _ hP va_S.rf (lv_entry vs hvs)
theorem r_callVD {idx maxL n d D q ci N mc ms : Nat} {fs : List Nat} {C0 : String} {T : u_T} {y : MethodName} {bytes : ByteArray} {As rest st0 : List Value} {post : UInt64 → Mem → Glo → Prop} (C : mCx p s m args c cc nL own G) (hd : decode cc pc = .ok (.invokevirtual idx, 3)) (hs : mSv own idx C0 y bytes maxL (some .double) n) (hM : mcD l G y bytes maxL d (.ref (mA G q) :: As) M g post) (hdD : d < D) (hq : lay q = (1, ci :: fs)) (hc : vwC[ci]? = some (C0, T, N)) (hn : As.length = n) (hst : st0 = As.reverse ++ .ref (mA G q) :: rest) (hr : (rest.map fun v => v.category).sum ≤ 8) (h1 : kk ≤ mc) (h2 : nn ≤ ms)
    (k : ∀ (r : UInt64) (M' : Mem) (g' : Glo), post r M' g' → At p l e (rmD D mc ms) s m args below meth c G nL kk nn Q M' g' L (pc + 3) (.double r :: rest)) : At p l e (rmD D mc ms) s m args below meth c G nL kk nn Q M g L pc st0 := by
  intro H locs ls hP hS hl
  subst hst
  refine va_calld (va_runV (As := As) (rest := rest) (m_fix C) (hM H.size) (m_cw C hs hdD) (m_pv C hq hc hP hS) rfl hn hl.1 rfl (lv_room hr) hd ⟨h1, h2⟩) hS (fun _ _ h => mAq_le hS.1 h) (fun _ h => mAq_le hS.1 h) (fun r u t H1 locs1 ht hvm hw hB hz1 hk1 hS1 => ?_)
  unfold mB at hB
  rw [ht] at hB
  exact k r u.1 u.2 hw H1 locs1 ls hB hS1 hl
theorem r_dconst0 (C : mCx p s m args c cc nL own G) (hd : decode cc pc = .ok (.dconst 0, 1)) (k : At p l e R s m args below meth c G nL kk nn Q M g L (pc + 1) (.double FP.dconst0 :: st)) : At p l e R s m args below meth c G nL kk nn Q M g L pc st :=
  fun H locs ls hP hS hl => lv_dconst0 C.1 C.2.1 hd (k H locs ls hP hS hl)
theorem r_i2d {x : Int32} (C : mCx p s m args c cc nL own G) (hd : decode cc pc = .ok (.i2d, 1)) (k : At p l e R s m args below meth c G nL kk nn Q M g L (pc + 1) (.double (FP.i2d x) :: st)) : At p l e R s m args below meth c G nL kk nn Q M g L pc (.int x :: st) :=
  fun H locs ls hP hS hl => lv_i2d C.1 C.2.1 hd (k H locs ls hP hS hl)
theorem r_ddiv {x y : UInt64} (C : mCx p s m args c cc nL own G) (hd : decode cc pc = .ok (.ddiv, 1)) (hne : vf_n64 (FP.ddiv x y)) (k : At p l e R s m args below meth c G nL kk nn Q M g L (pc + 1) (.double (FP.ddiv x y) :: st)) : At p l e R s m args below meth c G nL kk nn Q M g L pc (.double y :: .double x :: st) :=
  fun H locs ls hP hS hl => lv_ddiv C.1 C.2.1 hd hne (k H locs ls hP hS hl)
end MD
/-- a whole number over one that isn't 0 is a number -/
theorem nn_of {a : UInt64} (h : Jvm.FP.Core.dIsNaN a = false) : vf_n64 a := by
  have h1 : a.toNat % 2 ^ 63 ≤ 9218868437227405312 := (Jvm.FP.Core.ne_nan a).mp ((Jvm.FP.Core.notNaN_iff a).mp h)
  unfold vf_n64
  rw [UInt64.le_iff_toNat_le, UInt64.toNat_and]
  show a.toNat &&& (2 ^ 63 - 1) ≤ 9218868437227405312
  rw [Nat.and_two_pow_sub_one_eq_mod]
  exact h1
theorem dv_nan {a b : Int32} (h : ¬ b = 0) : Jvm.FP.Core.dIsNaN (FP.ddiv (FP.i2d a) (FP.i2d b)) = false :=
  Jvm.FP.Core.ddiv_out (Jvm.FP.Core.DFin.notNaN (Jvm.FP.Core.i2d_fin a)) (Jvm.FP.Core.i2d_fin b) (fun z => Jvm.FP.Core.i2d_ne_zero h ((Jvm.FP.Core.zero_bits2 _).mp z))
theorem dv_nn {a b : Int32} (h : ¬ b = 0) : vf_n64 (FP.ddiv (FP.i2d a) (FP.i2d b)) := nn_of (dv_nan h)
/-- what the year's heat comes to of what was sent -/
def effF (V : View) : UInt64 := if flowF V 0 * vS V 0 = 0 then FP.dconst0 else FP.ddiv (FP.i2d (sumF V 0)) (FP.i2d (flowF V 0 * vS V 0))
theorem eff_cmp (V : View) : FP.dcmp (effF V) (effF V) = some .eq := by
  unfold effF
  by_cases h : flowF V 0 * vS V 0 = 0
  · rw [if_pos h]
    decide +kernel
  · rw [if_neg h]
    exact Jvm.FP.Core.dcmp_self ((Jvm.FP.Core.notNaN_iff _).mp (dv_nan h))
