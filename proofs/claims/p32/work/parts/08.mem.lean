/-! memory by places: the class's cells and the law's four rows lie at 111 fixed places, the law's row of sums, while it is there, at the 112th; place k has the address mA G k; what it holds is read off M (ints) and g (longs) by a layout that never changes -/
abbrev Mem : Type := Nat → Nat → Int32
abbrev Glo : Type := Nat → Nat → Int64
abbrev LE : Type := Nat × List Nat
abbrev vwC : List vw_C := [(RX0, TX0, 4), (RX1, TX1, 3), (RX2, TX2, 7), (RX3, TX3, 9), (RX4, TX4, 4), (RX5, TX5, 6), (RX6, TX6, 9), (RX7, TX7, 9)]
def layL : List LE := [
  (1, [7, 3, 17, 75, 77, 82, 88, 93, 99, 108]),
  (1, [6, 4, 13, 0, 0, 0, 0, 0, 0, 0]),
  (1, [3, 5, 6, 7, 8, 9, 10, 11, 12, 0]),
  (0, [16]),
  (0, [16]),
  (0, [16]),
  (0, [16]),
  (0, [16]),
  (0, [16]),
  (0, [16]),
  (0, [16]),
  (1, [0, 14, 15, 16, 0]),
  (0, [4]),
  (0, [4]),
  (0, [4]),
  (1, [1, 18, 0, 0]),
  (2, [17, 31, 45, 59]),
  (1, [6, 20, 29, 0, 0, 0, 0, 0, 0, 0]),
  (1, [3, 21, 22, 23, 24, 25, 26, 27, 28, 0]),
  (0, [16]),
  (0, [16]),
  (0, [16]),
  (0, [16]),
  (0, [16]),
  (0, [16]),
  (0, [16]),
  (0, [16]),
  (1, [0, 30, 31, 32, 0]),
  (0, [4]),
  (0, [4]),
  (0, [4]),
  (1, [6, 34, 43, 0, 0, 0, 0, 0, 0, 0]),
  (1, [3, 35, 36, 37, 38, 39, 40, 41, 42, 0]),
  (0, [16]),
  (0, [16]),
  (0, [16]),
  (0, [16]),
  (0, [16]),
  (0, [16]),
  (0, [16]),
  (0, [16]),
  (1, [0, 44, 45, 46, 0]),
  (0, [4]),
  (0, [4]),
  (0, [4]),
  (1, [6, 48, 57, 0, 0, 0, 0, 0, 0, 0]),
  (1, [3, 49, 50, 51, 52, 53, 54, 55, 56, 0]),
  (0, [16]),
  (0, [16]),
  (0, [16]),
  (0, [16]),
  (0, [16]),
  (0, [16]),
  (0, [16]),
  (0, [16]),
  (1, [0, 58, 59, 60, 0]),
  (0, [4]),
  (0, [4]),
  (0, [4]),
  (1, [6, 62, 71, 0, 0, 0, 0, 0, 0, 0]),
  (1, [3, 63, 64, 65, 66, 67, 68, 69, 70, 0]),
  (0, [16]),
  (0, [16]),
  (0, [16]),
  (0, [16]),
  (0, [16]),
  (0, [16]),
  (0, [16]),
  (0, [16]),
  (1, [0, 72, 73, 74, 0]),
  (0, [4]),
  (0, [4]),
  (0, [4]),
  (1, [4, 76, 0, 0, 0]),
  (0, [180]),
  (1, [2, 78, 79, 80, 81, 0, 0, 0]),
  (0, [16]),
  (0, [16]),
  (0, [16]),
  (0, [4]),
  (1, [5, 83, 84, 85, 86, 87, 0]),
  (0, [16]),
  (0, [16]),
  (0, [16]),
  (0, [16]),
  (0, [16]),
  (1, [2, 89, 90, 91, 92, 0, 0, 0]),
  (0, [16]),
  (0, [16]),
  (0, [16]),
  (0, [4]),
  (1, [5, 94, 95, 96, 97, 98, 0]),
  (0, [16]),
  (0, [16]),
  (0, [16]),
  (0, [16]),
  (0, [16]),
  (1, [3, 100, 101, 102, 103, 104, 105, 106, 107, 0]),
  (0, [16]),
  (0, [16]),
  (0, [16]),
  (0, [16]),
  (0, [16]),
  (0, [16]),
  (0, [16]),
  (0, [16]),
  (0, [16]),
  (0, [9]),
  (0, [64]),
  (0, [12]),
  (0, [39])]
def lay (k : Nat) : LE := layL.getD k (0, [0])
theorem lay_lt {k : Nat} (h : lay k ≠ (0, [0])) : k < 111 := by
  rcases Nat.lt_or_ge k 111 with q | q
  · exact q
  · exact absurd (by
      unfold lay
      rw [List.getD_eq_getElem?_getD, List.getElem?_eq_none (by rw [show layL.length = 111 from rfl]; exact q)]
      rfl) h
def layX (k : Nat) : LE := (layL ++ [(0, [3])]).getD k (0, [0])
theorem layX_of {k : Nat} (h : lay k ≠ (0, [0])) : layX k = lay k := by
  have hk := lay_lt h
  unfold layX lay
  rw [List.getD_eq_getElem?_getD, List.getD_eq_getElem?_getD, List.getElem?_append_left (by rw [show layL.length = 111 from rfl]; exact hk)]
abbrev mG : Type := va_G × (ClassId × ClassId × ClassId) × (Nat → Nat)
def mD (G : mG) : va_G := G.1
def mT (G : mG) : List (ClassId × FieldType) := [(G.2.1.1, .int), (G.2.1.2.1, .object "HeatBranches$State")]
def mA (G : mG) (k : Nat) : Nat := G.2.2 k
def m_fs (ad : Nat → Nat) (f : Nat → Int32) (gl : Nat → Int64) : Nat → List Nat → List Value
  | _, [] => []
  | j, 0 :: t => .int (f j) :: m_fs ad f gl (j + 1) t
  | j, 1 :: t => .long (gl j) :: m_fs ad f gl (j + 1) t
  | j, (q + 2) :: t => .ref (ad q) :: m_fs ad f gl (j + 1) t
theorem m_fs_len (ad : Nat → Nat) (f : Nat → Int32) (gl : Nat → Int64) : ∀ (fs : List Nat) (j : Nat), (m_fs ad f gl j fs).length = fs.length
  | [], _ => rfl
  | 0 :: t, j => congrArg (· + 1) (m_fs_len ad f gl t (j + 1))
  | 1 :: t, j => congrArg (· + 1) (m_fs_len ad f gl t (j + 1))
  | (q + 2) :: t, j => congrArg (· + 1) (m_fs_len ad f gl t (j + 1))
theorem m_fs_int (ad : Nat → Nat) (f : Nat → Int32) (gl : Nat → Int64) : ∀ (fs : List Nat) (j i : Nat), fs[i]? = some 0 → (m_fs ad f gl j fs)[i]? = some (.int (f (j + i)))
  | [], _, _, h => by simp at h
  | a :: t, j, 0, h => by
    simp at h
    subst h
    rfl
  | a :: t, j, i + 1, h => by
    have h2 : t[i]? = some 0 := by simpa using h
    have r := m_fs_int ad f gl t (j + 1) i h2
    have e : j + 1 + i = j + (i + 1) := by omega
    rw [e] at r
    match a with
    | 0 => simpa [m_fs] using r
    | 1 => simpa [m_fs] using r
    | q + 2 => simpa [m_fs] using r
theorem m_fs_long (ad : Nat → Nat) (f : Nat → Int32) (gl : Nat → Int64) : ∀ (fs : List Nat) (j i : Nat), fs[i]? = some 1 → (m_fs ad f gl j fs)[i]? = some (.long (gl (j + i)))
  | [], _, _, h => by simp at h
  | a :: t, j, 0, h => by
    simp at h
    subst h
    rfl
  | a :: t, j, i + 1, h => by
    have h2 : t[i]? = some 1 := by simpa using h
    have r := m_fs_long ad f gl t (j + 1) i h2
    have e : j + 1 + i = j + (i + 1) := by omega
    rw [e] at r
    match a with
    | 0 => simpa [m_fs] using r
    | 1 => simpa [m_fs] using r
    | q + 2 => simpa [m_fs] using r
theorem m_fs_ref (ad : Nat → Nat) (f : Nat → Int32) (gl : Nat → Int64) {q0 : Nat} : ∀ (fs : List Nat) (j i : Nat), fs[i]? = some (q0 + 2) → (m_fs ad f gl j fs)[i]? = some (.ref (ad q0))
  | [], _, _, h => by simp at h
  | a :: t, j, 0, h => by
    simp at h
    subst h
    rfl
  | a :: t, j, i + 1, h => by
    have h2 : t[i]? = some (q0 + 2) := by simpa using h
    have r := m_fs_ref ad f gl t (j + 1) i h2
    match a with
    | 0 => simpa [m_fs] using r
    | 1 => simpa [m_fs] using r
    | q + 2 => simpa [m_fs] using r
theorem m_fs_cong (ad : Nat → Nat) {f f' : Nat → Int32} {gl gl' : Nat → Int64} : ∀ (fs : List Nat) (j : Nat), (∀ i, j ≤ i → f i = f' i ∧ gl i = gl' i) → m_fs ad f gl j fs = m_fs ad f' gl' j fs
  | [], _, _ => rfl
  | 0 :: t, j, h => by
    have r := m_fs_cong ad t (j + 1) (fun i hi => h i (by omega))
    simp [m_fs, r, (h j (Nat.le_refl j)).1]
  | 1 :: t, j, h => by
    have r := m_fs_cong ad t (j + 1) (fun i hi => h i (by omega))
    simp [m_fs, r, (h j (Nat.le_refl j)).2]
  | (q + 2) :: t, j, h => by
    have r := m_fs_cong ad t (j + 1) (fun i hi => h i (by omega))
    simp [m_fs, r]
theorem m_fs_set (ad : Nat → Nat) (f : Nat → Int32) (gl : Nat → Int64) (x : Int32) : ∀ (fs : List Nat) (j i : Nat), fs[i]? = some 0 → (m_fs ad f gl j fs).set i (.int x) = m_fs ad (upd f (j + i) x) gl j fs
  | [], _, _, h => by simp at h
  | a :: t, j, 0, h => by
    simp at h
    subst h
    have r := m_fs_cong ad (f := f) (f' := upd f (j + 0) x) (gl := gl) (gl' := gl) t (j + 1) (fun i hi => ⟨by simp [upd]; omega, rfl⟩)
    simp only [m_fs, List.set_cons_zero, r]
    simp [upd]
  | a :: t, j, i + 1, h => by
    have h2 : t[i]? = some 0 := by simpa using h
    have r := m_fs_set ad f gl x t (j + 1) i h2
    have e : j + 1 + i = j + (i + 1) := by omega
    rw [e] at r
    match a with
    | 0 =>
      simp only [m_fs, List.set_cons_succ, r]
      simp [upd]
    | 1 => simp only [m_fs, List.set_cons_succ, r]
    | q + 2 => simp only [m_fs, List.set_cons_succ, r]
theorem m_fs_setL (ad : Nat → Nat) (f : Nat → Int32) (gl : Nat → Int64) (x : Int64) : ∀ (fs : List Nat) (j i : Nat), fs[i]? = some 1 → (m_fs ad f gl j fs).set i (.long x) = m_fs ad f (vp_updL gl (j + i) x) j fs
  | [], _, _, h => by simp at h
  | a :: t, j, 0, h => by
    simp at h
    subst h
    have r := m_fs_cong ad (f := f) (f' := f) (gl := gl) (gl' := vp_updL gl (j + 0) x) t (j + 1) (fun i hi => ⟨rfl, by simp [vp_updL]; omega⟩)
    simp only [m_fs, List.set_cons_zero, r]
    simp [vp_updL]
  | a :: t, j, i + 1, h => by
    have h2 : t[i]? = some 1 := by simpa using h
    have r := m_fs_setL ad f gl x t (j + 1) i h2
    have e : j + 1 + i = j + (i + 1) := by omega
    rw [e] at r
    match a with
    | 0 => simp only [m_fs, List.set_cons_succ, r]
    | 1 =>
      simp only [m_fs, List.set_cons_succ, r]
      simp [vp_updL]
    | q + 2 => simp only [m_fs, List.set_cons_succ, r]
/-- what place k holds -/
def m_ctL (G : mG) (f : Nat → Int32) (gl : Nat → Int64) : LE → va_E
  | (0, n :: _) => .inl (G.2.1.1, n, .inl f)
  | (1, ci :: fs) => .inr (ci, m_fs (mA G) f gl 0 fs)
  | (2, ps) => .inl (G.2.1.2.1, ps.length, .inr (.inr (.inr (.inr (fun i => (ps[i]?).map (mA G))))))
  | (3, n :: _) => .inl (G.2.1.2.2, n, .inr (.inl gl))
  | _ => .inl (G.2.1.1, 0, .inl f)
def m_ct (G : mG) (M : Mem) (g : Glo) (k : Nat) : va_E := m_ctL G (M k) (g k) (layX k)
theorem m_ctq {G : mG} {M : Mem} {g : Glo} {q : Nat} {le : LE} (hq : lay q = le) (h : le ≠ (0, [0])) : m_ct G M g q = m_ctL G (M q) (g q) le := by
  unfold m_ct
  rw [layX_of (by rw [hq]; exact h), hq]
/-- how many places there are now: the sums' row is there, or not -/
def nP (G : mG) : Nat := if mA G 112 = 0 then 111 else 112
theorem nP_ge {G : mG} {k : Nat} (h : k < 111) : k < nP G := by
  unfold nP
  split <;> omega
def m_ws (G : mG) (M : Mem) (g : Glo) : va_W := (List.range (nP G)).map (fun k => (mA G k, m_ct G M g k))
def mset (M : Mem) (k i : Nat) (x : Int32) : Mem := fun q => if q = k then upd (M k) i x else M q
def gset (g : Glo) (k i : Nat) (x : Int64) : Glo := fun q => if q = k then vp_updL (g k) i x else g q
theorem m_ws_at {G : mG} {M : Mem} {g : Glo} {k : Nat} (hk : k < nP G) : (m_ws G M g)[k]? = some (mA G k, m_ct G M g k) := by
  simp [m_ws, hk]
theorem m_ws_inv {G : mG} {M : Mem} {g : Glo} {k : Nat} {q : Nat × va_E} (h : (m_ws G M g)[k]? = some q) : k < nP G ∧ q.1 = mA G k := by
  have hk : k < nP G := by
    have := (List.getElem?_eq_some_iff.mp h).1
    simpa [m_ws] using this
  rw [m_ws_at hk] at h
  cases h
  exact ⟨hk, rfl⟩
theorem m_ws_set {G : mG} {M M' : Mem} {g g' : Glo} {k : Nat} {e : va_E} (ho : ∀ q, q ≠ k → M' q = M q ∧ g' q = g q) (he : e = m_ct G M' g' k) : (m_ws G M g).set k (mA G k, e) = m_ws G M' g' := by
  apply List.ext_getElem?
  intro i
  by_cases hi : i < nP G
  · rw [List.getElem?_set, m_ws_at hi, m_ws_at hi]
    by_cases h : k = i
    · subst h
      simp [m_ws, hi, he]
    · have := ho i (fun z => h z.symm)
      simp [h, m_ct, this.1, this.2]
  · rw [List.getElem?_eq_none (by simp [m_ws]; omega), List.getElem?_eq_none (by simp [m_ws]; omega)]
def mInj (G : mG) : Prop := ∀ i j : Nat, i < nP G → j < nP G → mA G i = mA G j → i = j
def mAq (G : mG) (sz : Nat) : Nat → Prop := fun q => (∃ k, k < nP G ∧ mA G k = q) ∨ sz ≤ q
theorem m_D {G : mG} {M : Mem} {g : Glo} {sz : Nat} (h : mInj G) : va_D (mAq G sz) (m_ws G M g) := by
  refine ⟨fun i j p q hp hq e => ?_, fun k q hq => ?_⟩
  · obtain ⟨a, b⟩ := m_ws_inv hp
    obtain ⟨c, d⟩ := m_ws_inv hq
    exact h i j a c (b ▸ d ▸ e)
  · obtain ⟨a, b⟩ := m_ws_inv hq
    exact Or.inl ⟨k, a, b.symm⟩
-- words that every method may ask for
def gd : List Cond := lw_tbl.filter goodWord
theorem gd_of {w : Cond} (h : w ∈ lw_tbl) (g : goodWord w = true) : w ∈ gd := List.mem_filter.mpr ⟨h, g⟩
theorem gd_t {w : Cond} (i : Nat) (h : tables_1[i]? = some w) (g : goodWord w = true) : w ∈ gd := gd_of (List.mem_append_right _ (List.mem_of_getElem? h)) g
theorem gd_s {w : Cond} (i : Nat) (h : (k2_sels lw_privs)[i]? = some w) (g : goodWord w = true) : w ∈ gd := gd_of (List.mem_append_left _ (List.mem_of_getElem? h)) g
theorem gd_good {w : Cond} (h : w ∈ gd) : goodWord w = true := (List.mem_filter.mp h).2
theorem gd_in {c : Cond} (hc : c ∈ gd) : GoodIn gd (c :: gd) := fun w hw => by
  have h : w ∈ gd := (List.mem_cons.mp hw).elim (fun e => e ▸ hc) id
  exact ⟨h, good_of_word (gd_good h)⟩
theorem gd_app {a b : List Cond} (ha : ∀ w ∈ a, w ∈ gd) (hb : GoodIn gd b) : GoodIn gd (a ++ b) := fun w hw => by
  rcases List.mem_append.mp hw with h | h
  · exact ⟨ha w h, good_of_word (gd_good (ha w h))⟩
  · exact hb w h
/-- a class of ours -/
def mCl (ci : Nat) (C : String) (T : u_T) (N : Nat) (ty : Nat → FieldType) : Prop := vwC[ci]? = some (C, T, N) ∧ (∀ w ∈ u_ws C T N, w ∈ gd) ∧ (∀ k, k < N → parseFieldDescriptor (T k).2.2.1 = some (ty k)) ∧ (∀ a, a < N → ∀ b, b < N → a ≠ b → (T a).2.1 ≠ (T b).2.1)
/-- field i of class ci, by the number idx in own's pool -/
def mFl (own : String) (idx ci i : Nat) : Prop := ∃ (C : String) (T : u_T) (N : Nat) (ty : Nat → FieldType), mCl ci C T N ty ∧ i < N ∧ Cond.fieldLink own idx (T i).1 (T i).2.1 (T i).2.2.1 ∈ gd
def mFi (own : String) (idx ci i : Nat) (t : FieldType) : Prop := ∃ (C : String) (T : u_T) (N : Nat) (ty : Nat → FieldType), mCl ci C T N ty ∧ i < N ∧ Cond.fieldLink own idx (T i).1 (T i).2.1 (T i).2.2.1 ∈ gd ∧ (T i).2.2.2 = false ∧ parseFieldDescriptor (T i).2.2.1 = some t
theorem mFi.fl {own : String} {idx ci i : Nat} {t : FieldType} (h : mFi own idx ci i t) : mFl own idx ci i := by
  obtain ⟨C, T, N, ty, h1, h2, h3, -, -⟩ := h
  exact ⟨C, T, N, ty, h1, h2, h3⟩
/-- links of private members across the nest, and the texts of the exceptions: by premises of their own -/
def nwL : List (String × Nat × MethodName × String) := [("HeatBranches", 9, ⟨"HeatBranches$State", "<init>", "()V"⟩, "HeatBranches"), ("HeatBranches$State", 18, ⟨"HeatBranches$Boilers", "<init>", "()V"⟩, "HeatBranches"), ("HeatBranches$History", 24, ⟨"HeatBranches$State", "<init>", "()V"⟩, "HeatBranches"), ("HeatBranches", 25, ⟨"HeatBranches$NetworkText", "<init>", "()V"⟩, "HeatBranches"), ("HeatBranches", 32, ⟨"HeatBranches$Hour", "<init>", "()V"⟩, "HeatBranches"), ("HeatBranches", 39, ⟨"HeatBranches$Regions", "<init>", "()V"⟩, "HeatBranches"), ("HeatBranches$Regions", 34, ⟨"HeatBranches", "copyRow", "([I[I)V"⟩, "HeatBranches"), ("HeatBranches$Network", 40, ⟨"HeatBranches", "copyRow", "([I[I)V"⟩, "HeatBranches"), ("HeatBranches$Boilers", 25, ⟨"HeatBranches", "copyRow", "([I[I)V"⟩, "HeatBranches")]
def strL : List (String × Nat × String) := [("HeatBranches", 267, "an argument is out of range"), ("HeatBranches", 261, "there is no such node other than 0"), ("HeatBranches", 134, "there are 4 boilers"), ("HeatBranches", 263, "there is no such boiler"), ("HeatBranches", 161, "more than 200 hours"), ("HeatBranches", 258, "there is no such node"), ("HeatBranches", 81, "there are 16 nodes")]
def caL : List (String × String) := [("java/lang/IndexOutOfBoundsException", "java/lang/IndexOutOfBoundsException"), ("java/lang/IllegalArgumentException", "java/lang/IllegalArgumentException"), ("java/lang/IllegalStateException", "java/lang/IllegalStateException")]
def deL : List MethodName := [⟨"java/lang/RuntimeException", "<init>", "(Ljava/lang/String;)V"⟩, ⟨"java/lang/Exception", "<init>", "(Ljava/lang/String;)V"⟩, ⟨"java/lang/Throwable", "<init>", "(Ljava/lang/String;)V"⟩]
def ncL : List (String × String) := [("java/lang/IllegalArgumentException", "java/lang/IndexOutOfBoundsException"), ("java/lang/IllegalStateException", "java/lang/IndexOutOfBoundsException"), ("java/lang/IndexOutOfBoundsException", "java/lang/IllegalArgumentException"), ("java/lang/IllegalStateException", "java/lang/IllegalArgumentException")]
/-- what the machine's tables and statics give, at a heap whose cells outside mAq G sz stay -/
def mS (G : mG) (sz : Nat) (U : State) (H : Heap) : Prop := va_K (mD G) vwC (mT G) U ∧ (∀ q ∈ nwL, va_Nw (.methodLinkNest q.1 q.2.1 q.2.2.1 q.2.2.2) U) ∧ vx_Zq Bundle.tN "UNASSIGNED_STACK" Bundle.steD (mAq G sz) U H ∧ vx_Zq Bundle.tN "SUPPRESSED_SENTINEL" Bundle.listD (mAq G sz) U H ∧ (∀ q ∈ strL, ∃ sa, vk_R q.1 q.2.1 q.2.2 sa U) ∧ (∀ q ∈ caL, va_Nw (.castable q.1 q.2) U) ∧ (∀ q ∈ deL, va_Nw (.declares q) U) ∧ (∀ q ∈ ncL, va_Nc q.1 q.2 U)
theorem mS.same {G : mG} {sz : Nat} {u U : State} {H : Heap} (hv : u.vm = U.vm) (h : mS G sz u H) : mS G sz U H := by
  obtain ⟨h1, h2, h3, h4, h5, h6, h7, h8⟩ := h
  have ha : u.vm.Alike U.vm := by rw [hv]; exact Vm.Alike.refl _
  exact ⟨va_K.moved ha h1, fun q hq => va_Nw.same rfl hv (h2 q hq), h3.moved ha, h4.moved ha, fun q hq => (h5 q hq).imp fun _ z => vk_R.same hv.symm z, fun q hq => va_Nw.same rfl hv (h6 q hq), fun q hq => va_Nw.same rfl hv (h7 q hq), fun q hq => va_Nc.moved ha (h8 q hq)⟩
theorem mAq_le {G : mG} {a b : Nat} (h : a ≤ b) {q : Nat} (hq : mAq G b q) : mAq G a q := hq.elim Or.inl (fun z => Or.inr (Nat.le_trans h z))
theorem mS.call {G : mG} {s U : State} {H : Heap} {locs : List Loc} (hW : s.WarmedH U.vm) (hS : va_S (mAq G s.heap.size) s.heap H locs) (h : mS G s.heap.size s s.heap) : mS G H.size U H := by
  obtain ⟨h1, h2, h3, h4, h5, h6, h7, h8⟩ := h
  exact ⟨va_K.moved hW.alike h1, fun q hq => va_Nw.warmM hW (h2 q hq), ((h3.moved hW.alike).kept hS.2.1).narrow (fun q hq => mAq_le hS.1 hq), ((h4.moved hW.alike).kept hS.2.1).narrow (fun q hq => mAq_le hS.1 hq), fun q hq => (h5 q hq).imp fun _ z => vk_R.warm hW z, fun q hq => va_Nw.warmC hW (h6 q hq), fun q hq => va_Nw.warmD hW (h7 q hq), fun q hq => va_Nc.moved hW.alike (h8 q hq)⟩
def mCx (p : Program) (s : State) (m : MethodId) (args : Array Value) (c : Code) (cc : ByteArray) (nL : Nat) (own : String) (G : mG) : Prop :=
  p.tables.exec = Jvm.exec ∧ c.code = cc ∧ c.maxLocals = nL ∧ s.vm.findClass own = some m.cls ∧ (∀ w ∈ gd, w.before args s = true) ∧ mS G s.heap.size s s.heap ∧ mInj G
/-- the machine at pc with the locals L, the stack st, the memory (M, g) -/
def At (p : Program) (l : Launch) (e : Env) (R : Room) (s : State) (m : MethodId) (args : Array Value) (below : List Frame) (meth : Method) (c : Code) (G : mG) (nL k n : Nat) (Q : State → Prop) (M : Mem) (g : Glo) (L : List (Nat × Value)) (pc : Nat) (st : List Value) : Prop :=
  ∀ (H : Heap) (locs : List Loc) (ls : Array Slot), va_P (mD G) vwC (m_ws G M g) H → va_S (mAq G s.heap.size) s.heap H locs → lv_has ls nL L → W p l e R s m args below meth c H locs k n Q (F0 m pc ls st)
section MR
variable {p : Program} {l : Launch} {e : Env} {R : Room} {s : State} {m : MethodId} {args : Array Value} {below : List Frame} {meth : Method} {c : Code} {G : mG} {nL kk nn : Nat} {Q : State → Prop} {M : Mem} {g : Glo} {L : List (Nat × Value)} {pc : Nat} {st : List Value} {cc : ByteArray} {own : String}
theorem r_iconst {v : Int32} {n : Int} (C : mCx p s m args c cc nL own G) (hd : decode cc pc = .ok (.iconst n, 1)) (hv : Int32.ofInt n = v) (k : At p l e R s m args below meth c G nL kk nn Q M g L (pc + 1) (.int v :: st)) : At p l e R s m args below meth c G nL kk nn Q M g L pc st :=
  fun H locs ls hP hS hl => lv_iconst C.1 C.2.1 hd hv (k H locs ls hP hS hl)
theorem r_bipush {v : Int32} {n : Int} (C : mCx p s m args c cc nL own G) (hd : decode cc pc = .ok (.bipush n, 2)) (hv : (Int8.ofInt n).toInt32 = v) (k : At p l e R s m args below meth c G nL kk nn Q M g L (pc + 2) (.int v :: st)) : At p l e R s m args below meth c G nL kk nn Q M g L pc st :=
  fun H locs ls hP hS hl => lv_bipush C.1 C.2.1 hd hv (k H locs ls hP hS hl)
theorem r_sipush {v : Int32} {n : Int} (C : mCx p s m args c cc nL own G) (hd : decode cc pc = .ok (.sipush n, 3)) (hv : (Int16.ofInt n).toInt32 = v) (k : At p l e R s m args below meth c G nL kk nn Q M g L (pc + 3) (.int v :: st)) : At p l e R s m args below meth c G nL kk nn Q M g L pc st :=
  fun H locs ls hP hS hl => lv_sipush C.1 C.2.1 hd hv (k H locs ls hP hS hl)
theorem r_iload_n {k0 : Fin 4} {x : Int32} (C : mCx p s m args c cc nL own G) (hd : decode cc pc = .ok (.iload_n k0, 1)) (i : Nat) (hl0 : L[i]? = some ((k0 : Nat), .int x)) (k : At p l e R s m args below meth c G nL kk nn Q M g L (pc + 1) (.int x :: st)) : At p l e R s m args below meth c G nL kk nn Q M g L pc st :=
  fun H locs ls hP hS hl => lv_iload_n C.1 C.2.1 hd rfl (lv_at hl i hl0) (k H locs ls hP hS hl)
theorem r_iload {k0 : Nat} {x : Int32} (C : mCx p s m args c cc nL own G) (hd : decode cc pc = .ok (.iload k0, 2)) (i : Nat) (hl0 : L[i]? = some (k0, .int x)) (k : At p l e R s m args below meth c G nL kk nn Q M g L (pc + 2) (.int x :: st)) : At p l e R s m args below meth c G nL kk nn Q M g L pc st :=
  fun H locs ls hP hS hl => lv_iload C.1 C.2.1 hd (lv_at hl i hl0) (k H locs ls hP hS hl)
theorem r_aload_n {k0 : Fin 4} {x : Nat} (C : mCx p s m args c cc nL own G) (hd : decode cc pc = .ok (.aload_n k0, 1)) (i : Nat) (hl0 : L[i]? = some ((k0 : Nat), .ref x)) (k : At p l e R s m args below meth c G nL kk nn Q M g L (pc + 1) (.ref x :: st)) : At p l e R s m args below meth c G nL kk nn Q M g L pc st :=
  fun H locs ls hP hS hl => lv_aload_n C.1 C.2.1 hd rfl (lv_at hl i hl0) (k H locs ls hP hS hl)
theorem r_aload {k0 : Nat} {x : Nat} (C : mCx p s m args c cc nL own G) (hd : decode cc pc = .ok (.aload k0, 2)) (i : Nat) (hl0 : L[i]? = some (k0, .ref x)) (k : At p l e R s m args below meth c G nL kk nn Q M g L (pc + 2) (.ref x :: st)) : At p l e R s m args below meth c G nL kk nn Q M g L pc st :=
  fun H locs ls hP hS hl => lv_aload C.1 C.2.1 hd (lv_at hl i hl0) (k H locs ls hP hS hl)
theorem r_lload_n {k0 : Fin 4} {x : Int64} (C : mCx p s m args c cc nL own G) (hd : decode cc pc = .ok (.lload_n k0, 1)) (i : Nat) (hl0 : L[i]? = some ((k0 : Nat), .long x)) (k : At p l e R s m args below meth c G nL kk nn Q M g L (pc + 1) (.long x :: st)) : At p l e R s m args below meth c G nL kk nn Q M g L pc st :=
  fun H locs ls hP hS hl => lv_lload_n C.1 C.2.1 hd rfl (lv_at hl i hl0) (k H locs ls hP hS hl)
theorem r_istore_n {k0 : Fin 4} {x : Int32} {L' : List (Nat × Value)} (C : mCx p s m args c cc nL own G) (hd : decode cc pc = .ok (.istore_n k0, 1)) (hn : (k0 : Nat) < nL) (hL : ((k0 : Nat), Value.int x) :: L.filter (fun q => !(q.1 == (k0 : Nat)) && !(q.1 + 1 == (k0 : Nat) && q.2.category == 2)) = L') (k : At p l e R s m args below meth c G nL kk nn Q M g L' (pc + 1) st) : At p l e R s m args below meth c G nL kk nn Q M g L pc (.int x :: st) :=
  fun H locs ls hP hS hl => lv_istore_n C.1 C.2.1 hd rfl hl hn hL (fun ls hl => k H locs ls hP hS hl)
theorem r_istore {k0 : Nat} {x : Int32} {L' : List (Nat × Value)} (C : mCx p s m args c cc nL own G) (hd : decode cc pc = .ok (.istore k0, 2)) (hn : k0 < nL) (hL : (k0, Value.int x) :: L.filter (fun q => !(q.1 == k0) && !(q.1 + 1 == k0 && q.2.category == 2)) = L') (k : At p l e R s m args below meth c G nL kk nn Q M g L' (pc + 2) st) : At p l e R s m args below meth c G nL kk nn Q M g L pc (.int x :: st) :=
  fun H locs ls hP hS hl => lv_istore C.1 C.2.1 hd hl hn hL (fun ls hl => k H locs ls hP hS hl)
theorem r_astore_n {k0 : Fin 4} {x : Nat} {L' : List (Nat × Value)} (C : mCx p s m args c cc nL own G) (hd : decode cc pc = .ok (.astore_n k0, 1)) (hn : (k0 : Nat) < nL) (hL : ((k0 : Nat), Value.ref x) :: L.filter (fun q => !(q.1 == (k0 : Nat)) && !(q.1 + 1 == (k0 : Nat) && q.2.category == 2)) = L') (k : At p l e R s m args below meth c G nL kk nn Q M g L' (pc + 1) st) : At p l e R s m args below meth c G nL kk nn Q M g L pc (.ref x :: st) :=
  fun H locs ls hP hS hl => lv_astore_n C.1 C.2.1 hd rfl hl hn hL (fun ls hl => k H locs ls hP hS hl)
theorem r_astore {k0 : Nat} {x : Nat} {L' : List (Nat × Value)} (C : mCx p s m args c cc nL own G) (hd : decode cc pc = .ok (.astore k0, 2)) (hn : k0 < nL) (hL : (k0, Value.ref x) :: L.filter (fun q => !(q.1 == k0) && !(q.1 + 1 == k0 && q.2.category == 2)) = L') (k : At p l e R s m args below meth c G nL kk nn Q M g L' (pc + 2) st) : At p l e R s m args below meth c G nL kk nn Q M g L pc (.ref x :: st) :=
  fun H locs ls hP hS hl => lv_astore C.1 C.2.1 hd hl hn hL (fun ls hl => k H locs ls hP hS hl)
theorem r_lstore_n {k0 : Fin 4} {x : Int64} {L' : List (Nat × Value)} (C : mCx p s m args c cc nL own G) (hd : decode cc pc = .ok (.lstore_n k0, 1)) (hn : (k0 : Nat) + 1 < nL) (hL : ((k0 : Nat), Value.long x) :: L.filter (fun q => !(q.1 == (k0 : Nat)) && (!(q.1 == (k0 : Nat) + 1) && !(q.1 + 1 == (k0 : Nat) && q.2.category == 2))) = L') (k : At p l e R s m args below meth c G nL kk nn Q M g L' (pc + 1) st) : At p l e R s m args below meth c G nL kk nn Q M g L pc (.long x :: st) :=
  fun H locs ls hP hS hl => lv_lstore_n C.1 C.2.1 hd rfl hl hn hL (fun ls hl => k H locs ls hP hS hl)
theorem r_iinc {k0 : Nat} {n : Int} {x v : Int32} {L' : List (Nat × Value)} (C : mCx p s m args c cc nL own G) (hd : decode cc pc = .ok (.iinc k0 n, 3)) (i : Nat) (hl0 : L[i]? = some (k0, .int x)) (hv : x + Int32.ofInt n = v) (hn : k0 < nL) (hL : (k0, Value.int v) :: L.filter (fun q => !(q.1 == k0) && !(q.1 + 1 == k0 && q.2.category == 2)) = L') (k : At p l e R s m args below meth c G nL kk nn Q M g L' (pc + 3) st) : At p l e R s m args below meth c G nL kk nn Q M g L pc st :=
  fun H locs ls hP hS hl => lv_iinc C.1 C.2.1 hd hl hl0 hv hn hL (fun ls hl => k H locs ls hP hS hl)
theorem r_sub {L' : List (Nat × Value)} (ks : List Nat) (h : lv_pick L ks = L') (k : At p l e R s m args below meth c G nL kk nn Q M g L' pc st) : At p l e R s m args below meth c G nL kk nn Q M g L pc st :=
  fun H locs ls hP hS hl => k H locs ls hP hS (lv_sub hl ks h)
theorem r_iadd {x y : Int32} (C : mCx p s m args c cc nL own G) (hd : decode cc pc = .ok (.iadd, 1)) (k : At p l e R s m args below meth c G nL kk nn Q M g L (pc + 1) (.int (x + y) :: st)) : At p l e R s m args below meth c G nL kk nn Q M g L pc (.int y :: .int x :: st) :=
  fun H locs ls hP hS hl => lv_iadd C.1 C.2.1 hd (k H locs ls hP hS hl)
theorem r_isub {x y : Int32} (C : mCx p s m args c cc nL own G) (hd : decode cc pc = .ok (.isub, 1)) (k : At p l e R s m args below meth c G nL kk nn Q M g L (pc + 1) (.int (x - y) :: st)) : At p l e R s m args below meth c G nL kk nn Q M g L pc (.int y :: .int x :: st) :=
  fun H locs ls hP hS hl => lv_isub C.1 C.2.1 hd (k H locs ls hP hS hl)
theorem r_imul {x y : Int32} (C : mCx p s m args c cc nL own G) (hd : decode cc pc = .ok (.imul, 1)) (k : At p l e R s m args below meth c G nL kk nn Q M g L (pc + 1) (.int (x * y) :: st)) : At p l e R s m args below meth c G nL kk nn Q M g L pc (.int y :: .int x :: st) :=
  fun H locs ls hP hS hl => lv_imul C.1 C.2.1 hd (k H locs ls hP hS hl)
theorem r_idiv {x y : Int32} (C : mCx p s m args c cc nL own G) (hd : decode cc pc = .ok (.idiv, 1)) (hy : ¬ y = 0) (k : At p l e R s m args below meth c G nL kk nn Q M g L (pc + 1) (.int (x / y) :: st)) : At p l e R s m args below meth c G nL kk nn Q M g L pc (.int y :: .int x :: st) :=
  fun H locs ls hP hS hl => lv_idiv C.1 C.2.1 hd hy (k H locs ls hP hS hl)
theorem r_iand {x y : Int32} (C : mCx p s m args c cc nL own G) (hd : decode cc pc = .ok (.iand, 1)) (k : At p l e R s m args below meth c G nL kk nn Q M g L (pc + 1) (.int (x &&& y) :: st)) : At p l e R s m args below meth c G nL kk nn Q M g L pc (.int y :: .int x :: st) :=
  fun H locs ls hP hS hl => lv_iand C.1 C.2.1 hd (k H locs ls hP hS hl)
theorem r_ior {x y : Int32} (C : mCx p s m args c cc nL own G) (hd : decode cc pc = .ok (.ior, 1)) (k : At p l e R s m args below meth c G nL kk nn Q M g L (pc + 1) (.int (x ||| y) :: st)) : At p l e R s m args below meth c G nL kk nn Q M g L pc (.int y :: .int x :: st) :=
  fun H locs ls hP hS hl => lv_ior C.1 C.2.1 hd (k H locs ls hP hS hl)
theorem r_ineg {x : Int32} (C : mCx p s m args c cc nL own G) (hd : decode cc pc = .ok (.ineg, 1)) (k : At p l e R s m args below meth c G nL kk nn Q M g L (pc + 1) (.int (-x) :: st)) : At p l e R s m args below meth c G nL kk nn Q M g L pc (.int x :: st) :=
  fun H locs ls hP hS hl => lv_ineg C.1 C.2.1 hd (k H locs ls hP hS hl)
theorem r_valI {x y : Int32} (h : x = y) (k : At p l e R s m args below meth c G nL kk nn Q M g L pc (.int y :: st)) : At p l e R s m args below meth c G nL kk nn Q M g L pc (.int x :: st) := h ▸ k
theorem r_mem {M' : Mem} (h : M = M') (k : At p l e R s m args below meth c G nL kk nn Q M' g L pc st) : At p l e R s m args below meth c G nL kk nn Q M g L pc st := h ▸ k
theorem r_dup {v : Value} (C : mCx p s m args c cc nL own G) (hd : decode cc pc = .ok (.dup, 1)) (hv : v.category = 1) (k : At p l e R s m args below meth c G nL kk nn Q M g L (pc + 1) (v :: v :: st)) : At p l e R s m args below meth c G nL kk nn Q M g L pc (v :: st) :=
  fun H locs ls hP hS hl => lv_dup C.1 C.2.1 hd hv (k H locs ls hP hS hl)
theorem r_dup2 {v w : Value} (C : mCx p s m args c cc nL own G) (hd : decode cc pc = .ok (.dup2, 1)) (hv : v.category = 1) (hw : w.category = 1) (k : At p l e R s m args below meth c G nL kk nn Q M g L (pc + 1) (v :: w :: v :: w :: st)) : At p l e R s m args below meth c G nL kk nn Q M g L pc (v :: w :: st) :=
  fun H locs ls hP hS hl => lv_dup2_11 C.1 C.2.1 hd hv hw (k H locs ls hP hS hl)
theorem r_pop {v : Value} (C : mCx p s m args c cc nL own G) (hd : decode cc pc = .ok (.pop, 1)) (hv : v.category = 1) (k : At p l e R s m args below meth c G nL kk nn Q M g L (pc + 1) st) : At p l e R s m args below meth c G nL kk nn Q M g L pc (v :: st) :=
  fun H locs ls hP hS hl => lv_pop C.1 C.2.1 hd hv (k H locs ls hP hS hl)
theorem r_goto {off : Int} {tgt : Nat} (C : mCx p s m args c cc nL own G) (hd : decode cc pc = .ok (.goto off, 3)) (ht : (pc : Int) + off = (tgt : Int)) (k : At p l e R s m args below meth c G nL kk nn Q M g L tgt st) : At p l e R s m args below meth c G nL kk nn Q M g L pc st :=
  fun H locs ls hP hS hl => lv_goto C.1 C.2.1 hd ht (k H locs ls hP hS hl)
theorem r_if_eq {x : Int32} {off : Int} {tgt : Nat} (C : mCx p s m args c cc nL own G) (hd : decode cc pc = .ok (.ifCond .eq off, 3)) (ht : (pc : Int) + off = (tgt : Int)) (k1 : x = 0 → At p l e R s m args below meth c G nL kk nn Q M g L tgt st) (k2 : ¬ x = 0 → At p l e R s m args below meth c G nL kk nn Q M g L (pc + 3) st) : At p l e R s m args below meth c G nL kk nn Q M g L pc (.int x :: st) :=
  fun H locs ls hP hS hl => lv_if_eq C.1 C.2.1 hd ht (fun q => k1 q H locs ls hP hS hl) (fun q => k2 q H locs ls hP hS hl)
theorem r_icmp_eq {x y : Int32} {off : Int} {tgt : Nat} (C : mCx p s m args c cc nL own G) (hd : decode cc pc = .ok (.if_icmp .eq off, 3)) (ht : (pc : Int) + off = (tgt : Int)) (k1 : x = y → At p l e R s m args below meth c G nL kk nn Q M g L tgt st) (k2 : ¬ x = y → At p l e R s m args below meth c G nL kk nn Q M g L (pc + 3) st) : At p l e R s m args below meth c G nL kk nn Q M g L pc (.int y :: .int x :: st) :=
  fun H locs ls hP hS hl => lv_icmp_eq C.1 C.2.1 hd ht (fun q => k1 q H locs ls hP hS hl) (fun q => k2 q H locs ls hP hS hl)
theorem r_if_ne {x : Int32} {off : Int} {tgt : Nat} (C : mCx p s m args c cc nL own G) (hd : decode cc pc = .ok (.ifCond .ne off, 3)) (ht : (pc : Int) + off = (tgt : Int)) (k1 : ¬ x = 0 → At p l e R s m args below meth c G nL kk nn Q M g L tgt st) (k2 : x = 0 → At p l e R s m args below meth c G nL kk nn Q M g L (pc + 3) st) : At p l e R s m args below meth c G nL kk nn Q M g L pc (.int x :: st) :=
  fun H locs ls hP hS hl => lv_if_ne C.1 C.2.1 hd ht (fun q => k1 q H locs ls hP hS hl) (fun q => k2 q H locs ls hP hS hl)
theorem r_icmp_ne {x y : Int32} {off : Int} {tgt : Nat} (C : mCx p s m args c cc nL own G) (hd : decode cc pc = .ok (.if_icmp .ne off, 3)) (ht : (pc : Int) + off = (tgt : Int)) (k1 : ¬ x = y → At p l e R s m args below meth c G nL kk nn Q M g L tgt st) (k2 : x = y → At p l e R s m args below meth c G nL kk nn Q M g L (pc + 3) st) : At p l e R s m args below meth c G nL kk nn Q M g L pc (.int y :: .int x :: st) :=
  fun H locs ls hP hS hl => lv_icmp_ne C.1 C.2.1 hd ht (fun q => k1 q H locs ls hP hS hl) (fun q => k2 q H locs ls hP hS hl)
theorem r_if_lt {x : Int32} {off : Int} {tgt : Nat} (C : mCx p s m args c cc nL own G) (hd : decode cc pc = .ok (.ifCond .lt off, 3)) (ht : (pc : Int) + off = (tgt : Int)) (k1 : x < 0 → At p l e R s m args below meth c G nL kk nn Q M g L tgt st) (k2 : ¬ x < 0 → At p l e R s m args below meth c G nL kk nn Q M g L (pc + 3) st) : At p l e R s m args below meth c G nL kk nn Q M g L pc (.int x :: st) :=
  fun H locs ls hP hS hl => lv_if_lt C.1 C.2.1 hd ht (fun q => k1 q H locs ls hP hS hl) (fun q => k2 q H locs ls hP hS hl)
theorem r_icmp_lt {x y : Int32} {off : Int} {tgt : Nat} (C : mCx p s m args c cc nL own G) (hd : decode cc pc = .ok (.if_icmp .lt off, 3)) (ht : (pc : Int) + off = (tgt : Int)) (k1 : x < y → At p l e R s m args below meth c G nL kk nn Q M g L tgt st) (k2 : ¬ x < y → At p l e R s m args below meth c G nL kk nn Q M g L (pc + 3) st) : At p l e R s m args below meth c G nL kk nn Q M g L pc (.int y :: .int x :: st) :=
  fun H locs ls hP hS hl => lv_icmp_lt C.1 C.2.1 hd ht (fun q => k1 q H locs ls hP hS hl) (fun q => k2 q H locs ls hP hS hl)
theorem r_if_ge {x : Int32} {off : Int} {tgt : Nat} (C : mCx p s m args c cc nL own G) (hd : decode cc pc = .ok (.ifCond .ge off, 3)) (ht : (pc : Int) + off = (tgt : Int)) (k1 : 0 ≤ x → At p l e R s m args below meth c G nL kk nn Q M g L tgt st) (k2 : ¬ 0 ≤ x → At p l e R s m args below meth c G nL kk nn Q M g L (pc + 3) st) : At p l e R s m args below meth c G nL kk nn Q M g L pc (.int x :: st) :=
  fun H locs ls hP hS hl => lv_if_ge C.1 C.2.1 hd ht (fun q => k1 q H locs ls hP hS hl) (fun q => k2 q H locs ls hP hS hl)
theorem r_icmp_ge {x y : Int32} {off : Int} {tgt : Nat} (C : mCx p s m args c cc nL own G) (hd : decode cc pc = .ok (.if_icmp .ge off, 3)) (ht : (pc : Int) + off = (tgt : Int)) (k1 : y ≤ x → At p l e R s m args below meth c G nL kk nn Q M g L tgt st) (k2 : ¬ y ≤ x → At p l e R s m args below meth c G nL kk nn Q M g L (pc + 3) st) : At p l e R s m args below meth c G nL kk nn Q M g L pc (.int y :: .int x :: st) :=
  fun H locs ls hP hS hl => lv_icmp_ge C.1 C.2.1 hd ht (fun q => k1 q H locs ls hP hS hl) (fun q => k2 q H locs ls hP hS hl)
theorem r_if_gt {x : Int32} {off : Int} {tgt : Nat} (C : mCx p s m args c cc nL own G) (hd : decode cc pc = .ok (.ifCond .gt off, 3)) (ht : (pc : Int) + off = (tgt : Int)) (k1 : 0 < x → At p l e R s m args below meth c G nL kk nn Q M g L tgt st) (k2 : ¬ 0 < x → At p l e R s m args below meth c G nL kk nn Q M g L (pc + 3) st) : At p l e R s m args below meth c G nL kk nn Q M g L pc (.int x :: st) :=
  fun H locs ls hP hS hl => lv_if_gt C.1 C.2.1 hd ht (fun q => k1 q H locs ls hP hS hl) (fun q => k2 q H locs ls hP hS hl)
theorem r_icmp_gt {x y : Int32} {off : Int} {tgt : Nat} (C : mCx p s m args c cc nL own G) (hd : decode cc pc = .ok (.if_icmp .gt off, 3)) (ht : (pc : Int) + off = (tgt : Int)) (k1 : y < x → At p l e R s m args below meth c G nL kk nn Q M g L tgt st) (k2 : ¬ y < x → At p l e R s m args below meth c G nL kk nn Q M g L (pc + 3) st) : At p l e R s m args below meth c G nL kk nn Q M g L pc (.int y :: .int x :: st) :=
  fun H locs ls hP hS hl => lv_icmp_gt C.1 C.2.1 hd ht (fun q => k1 q H locs ls hP hS hl) (fun q => k2 q H locs ls hP hS hl)
theorem r_if_le {x : Int32} {off : Int} {tgt : Nat} (C : mCx p s m args c cc nL own G) (hd : decode cc pc = .ok (.ifCond .le off, 3)) (ht : (pc : Int) + off = (tgt : Int)) (k1 : x ≤ 0 → At p l e R s m args below meth c G nL kk nn Q M g L tgt st) (k2 : ¬ x ≤ 0 → At p l e R s m args below meth c G nL kk nn Q M g L (pc + 3) st) : At p l e R s m args below meth c G nL kk nn Q M g L pc (.int x :: st) :=
  fun H locs ls hP hS hl => lv_if_le C.1 C.2.1 hd ht (fun q => k1 q H locs ls hP hS hl) (fun q => k2 q H locs ls hP hS hl)
theorem r_icmp_le {x y : Int32} {off : Int} {tgt : Nat} (C : mCx p s m args c cc nL own G) (hd : decode cc pc = .ok (.if_icmp .le off, 3)) (ht : (pc : Int) + off = (tgt : Int)) (k1 : x ≤ y → At p l e R s m args below meth c G nL kk nn Q M g L tgt st) (k2 : ¬ x ≤ y → At p l e R s m args below meth c G nL kk nn Q M g L (pc + 3) st) : At p l e R s m args below meth c G nL kk nn Q M g L pc (.int y :: .int x :: st) :=
  fun H locs ls hP hS hl => lv_icmp_le C.1 C.2.1 hd ht (fun q => k1 q H locs ls hP hS hl) (fun q => k2 q H locs ls hP hS hl)
end MR
