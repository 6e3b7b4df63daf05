-- pure: how many bits a mask of 16 has; how many nodes of a region a branch has
theorem nb_and (a b : Nat) : nI a &&& nI b = nI (a &&& b) := by
  apply Int32.toBitVec_inj.mp
  rw [Int32.toBitVec_and]
  apply BitVec.eq_of_toNat_eq
  show (BitVec.ofNat 32 a &&& BitVec.ofNat 32 b).toNat = (BitVec.ofNat 32 (a &&& b)).toNat
  rw [BitVec.toNat_and, BitVec.toNat_ofNat, BitVec.toNat_ofNat, BitVec.toNat_ofNat, Nat.and_mod_two_pow]
theorem nb_or (a b : Nat) : nI a ||| nI b = nI (a ||| b) := by
  apply Int32.toBitVec_inj.mp
  rw [Int32.toBitVec_or]
  apply BitVec.eq_of_toNat_eq
  show (BitVec.ofNat 32 a ||| BitVec.ofNat 32 b).toNat = (BitVec.ofNat 32 (a ||| b)).toNat
  rw [BitVec.toNat_or, BitVec.toNat_ofNat, BitVec.toNat_ofNat, BitVec.toNat_ofNat, Nat.or_mod_two_pow]
theorem nb_sub {a b : Nat} (h : b ≤ a) : nI a - nI b = nI (a - b) := by
  have e : nI a = nI (a - b) + nI b := by rw [nI_add, Nat.sub_add_cancel h]
  rw [e, Int32.add_sub_cancel]
def fN1 (m : Nat) : Nat := m - ((m / 2 ^ 1) &&& 1431655765)
def fN2 (m : Nat) : Nat := (m &&& 858993459) + ((m / 2 ^ 2) &&& 858993459)
def fN3 (m : Nat) : Nat := (m + m / 2 ^ 4) &&& 252645135
def fN4 (m : Nat) : Nat := m + m / 2 ^ 8
def fN5 (m : Nat) : Nat := (m + m / 2 ^ 16) &&& 63
def fN (m : Nat) : Nat := fN5 (fN4 (fN3 (fN2 (fN1 m))))
theorem fN1_le (m : Nat) : fN1 m ≤ m := Nat.sub_le _ _
theorem fN2_le (m : Nat) : fN2 m ≤ 2 * m := by
  have a : m &&& 858993459 ≤ m := Nat.and_le_left
  have b : (m / 2 ^ 2) &&& 858993459 ≤ m / 2 ^ 2 := Nat.and_le_left
  have c : m / 2 ^ 2 ≤ m := Nat.div_le_self _ _
  unfold fN2
  omega
theorem fN3_le (m : Nat) : fN3 m ≤ 2 * m := by
  have a : (m + m / 2 ^ 4) &&& 252645135 ≤ m + m / 2 ^ 4 := Nat.and_le_left
  have c : m / 2 ^ 4 ≤ m := Nat.div_le_self _ _
  unfold fN3
  omega
theorem fN4_le (m : Nat) : fN4 m ≤ 2 * m := by
  have c : m / 2 ^ 8 ≤ m := Nat.div_le_self _ _
  unfold fN4
  omega
theorem usr_N {n : Nat} (hn : n < 2 ^ 31) (s : Int32) (k : Nat) (hs : ((s.toUInt32 &&& Int32.toUInt32 31).toBitVec % 32).toNat = k) : usr (nI n) s = nI (n / 2 ^ k) := pk_ushrN (by omega) s k hs
theorem bc_N {m : Nat} (h : m < 65536) : bcW (nI m) = nI (fN m) := by
  have h1 : bc1 (nI m) = nI (fN1 m) := by
    unfold bc1 fN1
    rw [usr_N (by omega) 1 1 (by decide), show (1431655765 : Int32) = nI 1431655765 from rfl, nb_and, nb_sub (Nat.le_trans Nat.and_le_left (Nat.div_le_self _ _))]
  have l1 := fN1_le m
  have h2 : bc2 (nI (fN1 m)) = nI (fN2 (fN1 m)) := by
    unfold bc2 fN2
    rw [usr_N (by omega) 2 2 (by decide), show (858993459 : Int32) = nI 858993459 from rfl, nb_and, nb_and, nI_add]
  have l2 := fN2_le (fN1 m)
  have h3 : bc3 (nI (fN2 (fN1 m))) = nI (fN3 (fN2 (fN1 m))) := by
    unfold bc3 fN3
    rw [usr_N (by omega) 4 4 (by decide), nI_add, show (252645135 : Int32) = nI 252645135 from rfl, nb_and]
  have l3 := fN3_le (fN2 (fN1 m))
  have h4 : bc4 (nI (fN3 (fN2 (fN1 m)))) = nI (fN4 (fN3 (fN2 (fN1 m)))) := by
    unfold bc4 fN4
    rw [usr_N (by omega) 8 8 (by decide), nI_add]
  have l4 := fN4_le (fN3 (fN2 (fN1 m)))
  unfold bcW
  rw [h1, h2, h3, h4]
  show bc5 (nI (fN4 (fN3 (fN2 (fN1 m))))) = nI (fN5 (fN4 (fN3 (fN2 (fN1 m)))))
  unfold bc5 fN5
  rw [usr_N (by omega) 16 16 (by decide), nI_add, show (63 : Int32) = nI 63 from rfl, nb_and]
def chkB : Nat → Nat → Nat → Bool
  | 0, s, c => Nat.beq (fN s) c
  | d + 1, s, c => chkB d s c && chkB d (s + 2 ^ d) (c + 1)
theorem chk16 : chkB 16 0 0 = true := by decide +kernel
def mkB (b : Nat → Bool) : Nat → Nat
  | 0 => 0
  | d + 1 => mkB b d + (if b d then 2 ^ d else 0)
theorem mkB_lt (b : Nat → Bool) : ∀ d, mkB b d < 2 ^ d
  | 0 => Nat.zero_lt_one
  | d + 1 => by
    have := mkB_lt b d
    rw [mkB, Nat.pow_succ]
    split <;> omega
theorem chk_use (b : Nat → Bool) : ∀ (d s c : Nat), chkB d s c = true → fN (s + mkB b d) = c + cntA b d
  | 0, s, c, h => Nat.eq_of_beq_eq_true h
  | d + 1, s, c, h => by
    rw [chkB, Bool.and_eq_true] at h
    rw [mkB, cntA]
    by_cases e : b d = true
    · rw [if_pos e, if_pos e]
      have r := chk_use b d _ _ h.2
      rw [show s + (mkB b d + 2 ^ d) = s + 2 ^ d + mkB b d by omega, r]
      omega
    · rw [if_neg e, if_neg e]
      exact chk_use b d _ _ h.1
theorem chk_le : ∀ (e d : Nat), chkB (d + e) 0 0 = true → chkB d 0 0 = true
  | 0, _, h => h
  | e + 1, d, h => by
    have h2 : chkB (d + e + 1) 0 0 = true := h
    rw [chkB, Bool.and_eq_true] at h2
    exact chk_le e d h2.1
theorem bc_mk (b : Nat → Bool) {n : Nat} (hn : n ≤ 16) : bcW (nI (mkB b n)) = nI (cntA b n) := by
  have h1 := mkB_lt b n
  have h2 : (2 : Nat) ^ n ≤ 2 ^ 16 := Nat.pow_le_pow_right (by decide) hn
  have h3 : chkB n 0 0 = true := chk_le (16 - n) n (by rw [show n + (16 - n) = 16 by omega]; exact chk16)
  have h4 := chk_use b n 0 0 h3
  rw [bc_N (by omega), ← Nat.zero_add (mkB b n), h4, Nat.zero_add]
theorem mkB_bit (b : Nat → Bool) : ∀ (d p : Nat), p < d → mkB b d / 2 ^ p % 2 = if b p then 1 else 0
  | d + 1, p, h => by
    rw [mkB]
    have hl := mkB_lt b d
    by_cases e : p = d
    · subst e
      by_cases z : b p = true
      · rw [if_pos z, if_pos z, Nat.add_div_right _ (Nat.two_pow_pos p), Nat.div_eq_of_lt hl]
      · rw [if_neg z, if_neg z, Nat.add_zero, Nat.div_eq_of_lt hl]
    · have r := mkB_bit b d p (by omega)
      by_cases z : b d = true
      · rw [if_pos z]
        have e2 : (2 : Nat) ^ d = 2 ^ p * (2 * 2 ^ (d - p - 1)) := by
          rw [← Nat.mul_assoc, ← Nat.pow_succ, ← Nat.pow_add]
          congr 1
          omega
        rw [e2, Nat.add_mul_div_left _ _ (Nat.two_pow_pos p), Nat.add_mul_mod_self_left]
        exact r
      · rw [if_neg z, Nat.add_zero]
        exact r
theorem smod31 : ∀ n, n < 32 → ((nI n &&& 31).toBitVec.smod 32).toNat = n := by decide
theorem bit_at {m p : Nat} (hm : m < 2 ^ 31) (hp : p < 32) : ((nI m >>> (nI p &&& 31)) &&& 1) = 0 ↔ m / 2 ^ p % 2 = 0 := by
  rw [pk_shrN hm _ p (smod31 p hp)]
  have hd : m / 2 ^ p ≤ m := Nat.div_le_self _ _
  rw [pk_andN (by omega) 1 (by decide)]
  exact nI_eq (b := 0) (by omega) (by decide)
theorem bit_or {m k : Nat} (hm : m < 2 ^ k) (hk : k < 31) : nI m ||| ((1 : Int32) <<< (nI k &&& 31)) = nI (m + 2 ^ k) := by
  have h31 : (2 : Nat) ^ k < 2 ^ 32 := Nat.pow_lt_pow_right (by decide) (by omega)
  rw [show (1 : Int32) = nI 1 from rfl, pk_shlN (n := 1) _ k (smod31 k (by omega)) (by omega), nb_or]
  congr 1
  have h := Nat.two_pow_add_eq_or_of_lt hm 1
  rw [Nat.mul_one] at h
  rw [Nat.one_mul, Nat.or_comm, ← h, Nat.add_comm]
theorem bel_fuel {V : View} (hT : wfT V) (n : Nat) : ∀ (t f : Nat), t ≤ f → t < vN V → belA V n f t = belF V n t := by
  intro t
  induction t using Nat.strongRecOn with
  | ind t ih =>
    intro f hf ht
    unfold belF
    by_cases h : n < t
    · have hp := (hT.2.2.2.2 t (by omega) ht).2
      rw [belA_s (by omega) h, belA_s (by omega) h, ih _ hp (f - 1) (by omega) (by omega), ih _ hp (t - 1) (by omega) (by omega)]
    · rw [belA_e h, belA_e h]
theorem belF_up {V : View} (hT : wfT V) {n t : Nat} (h : n < t) (ht : t < vN V) : belF V n t = belF V n (vP V t) := by
  have hp := (hT.2.2.2.2 t (by omega) ht).2
  have e : belF V n t = belA V n (t - 1) (vP V t) := belA_s (by omega) h
  rw [e, bel_fuel hT n _ _ (by omega) (by omega)]
theorem belF_lo {V : View} {n t : Nat} (h : t ≤ n) : belF V n t = decide (t = n) := belA_e (by omega)
theorem mkB_no {b : Nat → Bool} : ∀ d, (∀ j, j < d → b j = false) → mkB b d = 0
  | 0, _ => rfl
  | d + 1, h => by
    rw [mkB, mkB_no d (fun j hj => h j (by omega)), h d (by omega)]
    rfl
theorem bRow_N {V : View} (hT : wfT V) {j : Nat} : ∀ k, j < k → k ≤ vN V → bRow V j k = nI (mkB (belF V j) k)
  | k + 1, h, hk => by
    have h16 := hT.2.1
    by_cases e : j = k
    · subst e
      rw [bRow_lo V j (j + 1) (Nat.le_refl _), mkB, mkB_no j (fun i hi => by rw [belF_lo (by omega)]; exact decide_eq_false (by omega)), belF_lo (Nat.le_refl _)]
      have h31 : (2 : Nat) ^ j < 2 ^ 32 := Nat.pow_lt_pow_right (by decide) (by omega)
      rw [show (1 : Int32) = nI 1 from rfl, pk_shlN (n := 1) _ j (smod31 j (by omega)) (by omega)]
      simp
    · have r := bRow_N (j := j) hT k (by omega) (by omega)
      have hp := (hT.2.2.2.2 k (by omega) (by omega)).2
      have hl := mkB_lt (belF V j) k
      have hl2 : (2 : Nat) ^ k ≤ 2 ^ 16 := Nat.pow_le_pow_right (by decide) (by omega)
      have hb := mkB_bit (belF V j) k (vP V k) hp
      have hi : (((bRow V j k >>> (nI (vP V k) &&& 31)) &&& 1) = 0) ↔ belF V j k = false := by
        have hu := belF_up (n := j) (t := k) hT (by omega) (by omega)
        rw [r, bit_at (by omega) (by omega), hb, hu]
        cases belF V j (vP V k) <;> simp
      rw [bRow, mkB]
      by_cases z : belF V j k = true
      · rw [if_pos ⟨by omega, fun y => by rw [hi.mp y] at z; exact absurd z (by decide)⟩, if_pos z, r, bit_or hl (by omega)]
      · rw [if_neg (fun y => y.2 (hi.mpr (by simpa using z))), if_neg z, Nat.add_zero, r]
theorem sumA_cnt (b : Nat → Bool) : ∀ n, sumA (fun t => b2i (b t)) n = nI (cntA b n)
  | 0 => rfl
  | n + 1 => by
    rw [sumA, sumA_cnt b n, cntA, ← nI_add]
    cases b n <;> rfl
theorem branch_eq {V : View} (hT : wfT V) {j : Nat} (hj : j < vN V) : sumA (fun t => b2i (belF V j t)) (vN V) = branchF V j := by
  unfold branchF
  rw [bRow_N hT _ hj (Nat.le_refl _), bc_mk _ hT.2.1, sumA_cnt]
-- the nodes of a region that are in a branch
def reA (p : Nat → Nat) (mt : Nat → Int32) (K j : Nat) : Nat → Nat → Int32
  | 0, i => b2i (decide (i = j))
  | f + 1, i => b2i (decide (i = j)) + (if 0 < i ∧ i ≤ K ∧ mt i = 0 then reA p mt K j f (p i) else 0)
theorem sumA_pick (f : Nat → Int32) (j : Nat) : ∀ n, sumA (fun i => f i * b2i (decide (i = j))) n = if j < n then f j else 0
  | 0 => by rw [if_neg (by omega)]; rfl
  | n + 1 => by
    rw [sumA, sumA_pick f j n]
    by_cases e : n = j
    · subst e
      rw [if_neg (by omega), if_pos (by omega), decide_eq_true rfl, show b2i true = 1 from rfl, Int32.mul_one, Int32.zero_add]
    · rw [decide_eq_false e, show b2i false = 0 from rfl, Int32.mul_zero, Int32.add_zero]
      by_cases z : j < n
      · rw [if_pos z, if_pos (by omega)]
      · rw [if_neg z, if_neg (by omega)]
theorem sumA_one {u v : Nat → Int32} {a : Nat} {x : Int32} : ∀ {n : Nat}, (∀ i, i < n → i ≠ a → u i = v i) → a < n → u a = v a + x → sumA u n = sumA v n + x
  | n + 1, h, ha, hx => by
    rw [sumA, sumA]
    by_cases e : n = a
    · subst e
      rw [sumA_cong (k := n) (fun j hj => h j (by omega) (by omega)), hx, Int32.add_assoc]
    · rw [sumA_one (n := n) (fun i hi hn => h i (by omega) hn) (by omega) hx, h n (by omega) e, Int32.add_assoc, Int32.add_comm x, ← Int32.add_assoc]
theorem reA_fuel {p : Nat → Nat} {mt : Nat → Int32} {K j n : Nat} (hp : ∀ i, 0 < i → i < n → p i < i) : ∀ (i f : Nat), i ≤ f → i < n → reA p mt K j f i = reA p mt K j i i := by
  intro i
  induction i using Nat.strongRecOn with
  | ind i ih =>
    intro f hf hi
    cases f with
    | zero =>
      have : i = 0 := by omega
      subst this
      rfl
    | succ f =>
      cases i with
      | zero =>
        have e : reA p mt K j (f + 1) 0 = b2i (decide (0 = j)) + 0 := by rw [reA, if_neg (fun z => by omega)]
        rw [e, Int32.add_zero]
        rfl
      | succ i =>
        have h := hp (i + 1) (by omega) hi
        rw [reA, reA]
        by_cases c : 0 < i + 1 ∧ i + 1 ≤ K ∧ mt (i + 1) = 0
        · rw [if_pos c, if_pos c, ih _ h f (by omega) (by omega), ih _ h i (by omega) (by omega)]
        · rw [if_neg c, if_neg c]
theorem reA_K {p : Nat → Nat} {mt : Nat → Int32} {K j n : Nat} (hp : ∀ i, 0 < i → i < n → p i < i) : ∀ (f i : Nat), i < n → (i ≤ K ∨ K + 1 < i ∨ ¬ mt (K + 1) = 0) → reA p mt (K + 1) j f i = reA p mt K j f i
  | 0, _, _, _ => rfl
  | f + 1, i, hi, h => by
    rw [reA, reA]
    by_cases c : 0 < i ∧ i ≤ K ∧ mt i = 0
    · have h3 := hp i c.1 hi
      rw [if_pos c, if_pos ⟨c.1, by omega, c.2.2⟩, reA_K hp f (p i) (by omega) (by omega)]
    · rw [if_neg c, if_neg (fun z => by
        rcases h with q | q | q
        · exact c ⟨z.1, q, z.2.2⟩
        · omega
        · have : i = K + 1 ∨ i ≤ K := by omega
          rcases this with y | y
          · subst y; exact q z.2.2
          · exact c ⟨z.1, y, z.2.2⟩)]
theorem ib_sum {p : Nat → Nat} {mt : Nat → Int32} {n j : Nat} (hp : ∀ i, 0 < i → i < n → p i < i) (hj : j < n) : ∀ (K : Nat) (f : Nat → Int32), K < n → ibUp p mt K f j = sumA (fun i => f i * reA p mt K j i i) n
  | 0, f, _ => by
    have e : ∀ i, i < n → f i * reA p mt 0 j i i = f i * b2i (decide (i = j)) := fun i _ => by
      cases i with
      | zero => rfl
      | succ i => rw [reA, if_neg (fun z => by omega), Int32.add_zero]
    rw [sumA_cong e, sumA_pick, if_pos hj]
    rfl
  | K + 1, f, hK => by
    have hpk := hp (K + 1) (by omega) hK
    rw [ibUp_s p mt (by omega)]
    show ibUp p mt K _ j = _
    rw [ib_sum hp hj K _ (by omega)]
    by_cases c : mt (K + 1) = 0
    · rw [if_pos c]
      have h1 : sumA (fun i => upd f (p (K + 1)) (f (p (K + 1)) + f (K + 1)) i * reA p mt K j i i) n = sumA (fun i => f i * reA p mt K j i i) n + f (K + 1) * reA p mt K j (p (K + 1)) (p (K + 1)) :=
        sumA_one (a := p (K + 1)) (fun i _ h => by rw [upd_ne h]) (by omega) (by rw [upd_at, Int32.add_mul])
      have h2 : sumA (fun i => f i * reA p mt (K + 1) j i i) n = sumA (fun i => f i * reA p mt K j i i) n + f (K + 1) * reA p mt K j (p (K + 1)) (p (K + 1)) :=
        sumA_one (a := K + 1) (fun i hi h => by rw [reA_K hp i i hi (by omega)]) hK (by
          rw [reA, reA, if_pos ⟨by omega, by omega, c⟩, if_neg (fun z => by omega), Int32.add_zero, reA_K hp K _ (by omega) (by omega), reA_fuel hp _ K (by omega) (by omega), Int32.mul_add])
      rw [h1, h2]
    · rw [if_neg c]
      exact sumA_cong (fun i hi => by rw [reA_K hp i i hi (Or.inr (Or.inr c))])
theorem reA_lo {p : Nat → Nat} {mt : Nat → Int32} {K j n : Nat} (hp : ∀ i, 0 < i → i < n → p i < i) : ∀ (f i : Nat), i < n → i < j → reA p mt K j f i = 0
  | 0, i, _, h => by rw [reA, decide_eq_false (by omega)]; rfl
  | f + 1, i, hi, h => by
    rw [reA, decide_eq_false (by omega)]
    by_cases c : 0 < i ∧ i ≤ K ∧ mt i = 0
    · have := hp i c.1 hi
      rw [if_pos c, reA_lo hp f (p i) (by omega) (by omega)]
      rfl
    · rw [if_neg c]
      rfl
theorem re_bel {V : View} (hT : wfT V) {mt : Nat → Int32} {j : Nat} (hj0 : 0 < j) (hj : j < vN V) : ∀ i, i < vN V → reA (vP V) mt (vN V - 1) j i i = b2i (decide (hdF V mt i = hdF V mt j) && belF V j i) := by
  have hp : ∀ i, 0 < i → i < vN V → vP V i < i := fun i a b => (hT.2.2.2.2 i a b).2
  intro i
  induction i using Nat.strongRecOn with
  | ind i ih =>
    intro hi
    rcases Nat.lt_trichotomy i j with q | q | q
    · rw [reA_lo hp i i hi q, belF_lo (by omega), decide_eq_false (show ¬ i = j by omega), Bool.and_false]
      rfl
    · subst q
      rw [belF_lo (Nat.le_refl i), decide_eq_true rfl, decide_eq_true rfl]
      obtain ⟨k, rfl⟩ : ∃ k, i = k + 1 := ⟨i - 1, by omega⟩
      have h := hp (k + 1) (by omega) hi
      rw [reA, decide_eq_true rfl]
      by_cases c : 0 < k + 1 ∧ k + 1 ≤ vN V - 1 ∧ mt (k + 1) = 0
      · rw [if_pos c, reA_lo hp k _ (by omega) h]
        rfl
      · rw [if_neg c]
        rfl
    · obtain ⟨k, rfl⟩ : ∃ k, i = k + 1 := ⟨i - 1, by omega⟩
      have h := hp (k + 1) (by omega) hi
      rw [reA, decide_eq_false (show ¬ k + 1 = j by omega), belF_up hT q hi, hdF_s V mt (by omega) h]
      by_cases c : mt (k + 1) = 0
      · rw [if_pos ⟨by omega, by omega, c⟩, if_pos c, reA_fuel hp _ k (by omega) (by omega), ih _ h (by omega), show b2i false = 0 from rfl, Int32.zero_add]
      · have hl := hdF_le hT mt j j (Nat.le_refl j) hj
        rw [if_neg (fun z => c z.2.2), if_neg c, decide_eq_false (show ¬ k + 1 = hdF V mt j by omega), Bool.false_and]
        rfl
theorem sumAP {f g : Nat → Int32} : ∀ n, (∀ i, i < n → f i = if i = 0 then 0 else g i) → sumA f n = sumP g n
  | 0, _ => rfl
  | n + 1, h => by rw [sumA, sumP, sumAP n (fun i hi => h i (by omega)), h n (by omega)]
theorem ib_eq {V : View} (hT : wfT V) {mt : Nat → Int32} {j t : Nat} (hj0 : 0 < j) (hj : j < vN V) (ht : hdF V mt j = t) : sumP (fun i => b2i (decide (hdF V mt i = t) && belF V j i)) (vN V) = ibF V mt j := by
  subst ht
  have hp : ∀ i, 0 < i → i < vN V → vP V i < i := fun i a b => (hT.2.2.2.2 i a b).2
  unfold ibF
  rw [ib_sum hp hj _ _ (by omega)]
  refine (sumAP _ (fun i hi => ?_)).symm
  rw [re_bel hT hj0 hj i hi]
  by_cases z : i = 0
  · rw [if_pos z, if_pos z, Int32.zero_mul]
  · rw [if_neg z, if_neg z, Int32.one_mul]
