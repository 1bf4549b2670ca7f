/-! characters that are put, in both systems -/
def mit (c : Int64) : Nat → Int64
  | 0 => c
  | k + 1 => ((mit c k).toUInt64 >>> ((8 : Int32).toInt64.toUInt64 &&& Int64.toUInt64 63)).toInt64
theorem sh_amt : ∀ k, k < 8 → ((nI (8 * k)).toInt64.toUInt64 &&& Int64.toUInt64 63).toNat = 8 * k := by decide +kernel
theorem sh_amt8 : ((8 : Int32).toInt64.toUInt64 &&& Int64.toUInt64 63).toNat = 8 := by decide +kernel
theorem mit_nat (c : Int64) : ∀ k, k < 8 → (mit c k).toUInt64.toNat = c.toUInt64.toNat >>> (8 * k) := by
  intro k
  induction k with
  | zero => intro _; rfl
  | succ k ih =>
    intro hk
    show (((mit c k).toUInt64 >>> ((8 : Int32).toInt64.toUInt64 &&& Int64.toUInt64 63)).toInt64).toUInt64.toNat = _
    have e : (((mit c k).toUInt64 >>> ((8 : Int32).toInt64.toUInt64 &&& Int64.toUInt64 63)).toInt64).toUInt64 = (mit c k).toUInt64 >>> ((8 : Int32).toInt64.toUInt64 &&& Int64.toUInt64 63) := rfl
    rw [e, UInt64.toNat_shiftRight, sh_amt8, ih (by omega), ← Nat.shiftRight_add]
    congr 1
theorem msh_nat (c : Int64) {k : Nat} (hk : k < 8) : (msh c k).toUInt64.toNat = c.toUInt64.toNat >>> (8 * k) := by
  have e : (msh c k).toUInt64 = c.toUInt64 >>> ((nI (8 * k)).toInt64.toUInt64 &&& Int64.toUInt64 63) := rfl
  rw [e, UInt64.toNat_shiftRight, sh_amt k hk, Nat.mod_eq_of_lt (by omega)]
theorem mit_msh (c : Int64) {k : Nat} (hk : k < 8) : mit c k = msh c k := by
  have h : (mit c k).toUInt64 = (msh c k).toUInt64 := UInt64.toNat_inj.mp ((mit_nat c k hk).trans (msh_nat c hk).symm)
  have e : ∀ x : Int64, x.toUInt64.toInt64 = x := fun _ => rfl
  rw [← e (mit c k), h, e]
theorem mit_0 {c : Int64} {k : Nat} (h : mit c k = 0) : ∀ d, mit c (k + d) = 0 := by
  intro d
  induction d with
  | zero => exact h
  | succ d ih =>
    show ((mit c (k + d)).toUInt64 >>> _).toInt64 = 0
    rw [ih]
    decide
theorem byte_n (x : Int64) : ∃ b : Nat, b < 256 ∧ (x &&& 255).toInt = (b : Int) := by
  refine ⟨(x.toBitVec &&& 255#64).toNat, ?_, ?_⟩
  · rw [BitVec.toNat_and]
    exact Nat.lt_of_le_of_lt Nat.and_le_right (show (255#64).toNat < 256 by decide)
  · have hb : (x.toBitVec &&& 255#64).toNat < 256 := by
      rw [BitVec.toNat_and]
      exact Nat.lt_of_le_of_lt Nat.and_le_right (show (255#64).toNat < 256 by decide)
    show (x.toBitVec &&& 255#64).toInt = _
    rw [BitVec.toInt_eq_toNat_cond, if_pos (by omega)]
theorem byte_i {x : Int64} {b : Nat} (hb : b < 256) (h : (x &&& 255).toInt = (b : Int)) : (x &&& 255).toInt32 = nI b := by
  apply Int32.toInt_inj.mp
  rw [Int64.toInt_toInt32, h]
  have e : (nI b).toInt = (b : Int) := by
    have h1 : ∀ b, b < 256 → (nI b).toInt = (b : Int) := by decide +kernel
    exact h1 b hb
  rw [e]
  have h2 : ∀ b : Nat, b < 256 → Int.bmod (b : Int) (2 ^ 32) = (b : Int) := by decide +kernel
  exact h2 b hb
theorem mch_n (c : Int64) (k : Nat) : ∃ b : Nat, b < 256 ∧ mch c k = nI b ∧ (msh c k &&& 255).toInt = (b : Int) := by
  obtain ⟨b, hb, h⟩ := byte_n (msh c k)
  exact ⟨b, hb, byte_i hb h, h⟩
theorem mch_in (c : Int64) (k : Nat) : inB (mch c k) 33 126 = true ↔ ¬ ((msh c k &&& 255) < 33 ∨ 126 < (msh c k &&& 255)) := by
  obtain ⟨b, hb, e1, e2⟩ := mch_n c k
  rw [e1, Int64.lt_iff_toInt_lt, Int64.lt_iff_toInt_lt, e2]
  have z1 : (33 : Int64).toInt = 33 := rfl
  have z2 : (126 : Int64).toInt = 126 := rfl
  rw [z1, z2]
  unfold inB
  rw [Bool.and_eq_true, decide_eq_true_eq, decide_eq_true_eq, show (33 : Int32) = nI 33 from rfl, show (126 : Int32) = nI 126 from rfl, nI_leI (by decide) (by omega), nI_leI (by omega) (by decide)]
  omega
theorem chv_mch (c : Int64) (k : Nat) : chv c k = mch c k := by
  unfold chv
  have e : (8 : Int32) * nI k = nI (8 * k) := ixm k rfl
  rw [e]
  show ((mch c k).toUInt32 % 65536).toInt32 = mch c k
  obtain ⟨b, hb, e1, -⟩ := mch_n c k
  rw [e1]
  have h1 : ∀ b, b < 256 → ((nI b).toUInt32 % 65536).toInt32 = nI b := by decide +kernel
  exact h1 b hb
theorem mBd_t {c : Int64} {k : Nat} (h : mBd c k = true) : ∀ d, mBd c (k + d) = true := by
  intro d
  induction d with
  | zero => exact h
  | succ d ih => show (mBd c (k + d) || _) = true; rw [ih]; rfl
theorem mEnd_t {c : Int64} {k d : Nat} (hk : 0 < k) (h : mit c k = 0) (hd : k + d < 8) : mEnd c (k + d) = true := by
  unfold mEnd
  rw [Bool.and_eq_true, decide_eq_true_eq, decide_eq_true_eq]
  exact ⟨by omega, by rw [← mit_msh c hd]; exact mit_0 h d⟩
theorem mP_end {c : Int64} {k : Nat} (hk : 0 < k) (h : mit c k = 0) : ∀ d, k + d ≤ 8 → mBd c (k + d) = mBd c k ∧ mPn c (k + d) = mPn c k := by
  intro d
  induction d with
  | zero => intro _; exact ⟨rfl, rfl⟩
  | succ d ih =>
    intro hd
    obtain ⟨i1, i2⟩ := ih (by omega)
    have he := mEnd_t (d := d) hk h (by omega)
    refine ⟨?_, ?_⟩
    · show (mBd c (k + d) || (!mEnd c (k + d) && _)) = _
      rw [he, i1]; simp
    · show (if mEnd c (k + d) = true then mPn c (k + d) else mPn c (k + d) + 1) = _
      rw [if_pos he, i2]
theorem cIn_eq {c : Int64} : ∀ (d k : Nat), k + d = 8 → mBd c k = false → mPn c k = k → ((mBd c 8 = true ↔ cIn d (mit c k) k = 0) ∧ (mBd c 8 = false → mPn c 8 = cIn d (mit c k) k)) := by
  intro d
  induction d with
  | zero =>
    intro k hk h1 h2
    obtain rfl : k = 8 := by omega
    rw [cIn]
    exact ⟨⟨fun q => (by rw [h1] at q; cases q), fun q => absurd q (by decide)⟩, fun _ => h2⟩
  | succ d ih =>
    intro k hk h1 h2
    have hms := mit_msh c (k := k) (by omega)
    rw [cIn]
    by_cases c0 : mit c k = 0
    · rw [if_pos c0]
      by_cases hk0 : k = 0
      · subst hk0
        have hb : mBd c 1 = true := by
          show (false || (!mEnd c 0 && !inB (mch c 0) 33 126)) = true
          have e1 : mEnd c 0 = false := by unfold mEnd; simp
          have e2 : mch c 0 = 0 := by unfold mch; rw [← hms, c0]; decide
          rw [e1, e2]; decide
        have h8 := mBd_t hb 7
        exact ⟨⟨fun _ => rfl, fun _ => h8⟩, fun q => by rw [show (8 : Nat) = 1 + 7 from rfl, h8] at q; cases q⟩
      · obtain ⟨g1, g2⟩ := mP_end (by omega) c0 (8 - k) (by omega)
        rw [show k + (8 - k) = 8 by omega] at g1 g2
        rw [g1, g2, h1, h2]
        exact ⟨⟨fun q => (by cases q), fun q => absurd q hk0⟩, fun _ => rfl⟩
    rw [if_neg c0]
    have he : mEnd c k = false := by
      unfold mEnd
      rw [← hms, decide_eq_false c0, Bool.and_false]
    have hin := mch_in c k
    rw [hms]
    by_cases cr : (msh c k &&& 255) < 33 ∨ 126 < (msh c k &&& 255)
    · rw [if_pos cr]
      have hn : inB (mch c k) 33 126 = false := by
        cases q : inB (mch c k) 33 126
        · rfl
        · exact absurd cr (hin.mp q)
      have hb : mBd c (k + 1) = true := by
        show (mBd c k || (!mEnd c k && !inB (mch c k) 33 126)) = true
        rw [he, hn]; simp
      have h8 := mBd_t hb (7 - k)
      rw [show k + 1 + (7 - k) = 8 by omega] at h8
      exact ⟨⟨fun _ => rfl, fun _ => h8⟩, fun q => by rw [h8] at q; cases q⟩
    · rw [if_neg cr]
      have hy := hin.mpr cr
      have hb : mBd c (k + 1) = false := by
        show (mBd c k || (!mEnd c k && !inB (mch c k) 33 126)) = false
        rw [he, hy, h1]; rfl
      have hp : mPn c (k + 1) = k + 1 := by
        show (if mEnd c k = true then mPn c k else mPn c k + 1) = k + 1
        rw [if_neg (by rw [he]; decide), h2]
      rw [← hms]
      exact ih (k + 1) (by omega) hb hp
theorem put_txt {c : Int64} {L n : Nat} {p m : xV} (h : ∀ i, i < n → p i = m (870 + i)) (hn : n ≤ L) (hL : L ≤ 60) : ∀ k, k ≤ L → ∀ i, i < n ∨ (L - k ≤ i ∧ i < L) → pWr c L p k i = mWr c L m k (870 + i) := by
  intro k
  induction k with
  | zero =>
    intro _ i hi
    rw [pWr, mWr]
    exact h i (by omega)
  | succ k ih =>
    intro hk i hi
    rw [pWr, mWr, chv_mch]
    by_cases e : i = L - 1 - k
    · rw [e, upd_s, upd_s]
    · rw [upd_n e, upd_n (by omega)]
      exact ih (by omega) i (by omega)
theorem pWr_o {c : Int64} {L : Nat} {p : xV} {j : Nat} (h1 : 1 ≤ L) (hj : L ≤ j) : ∀ k, pWr c L p k j = p j := by
  intro k
  induction k with
  | zero => rfl
  | succ k ih => rw [pWr, upd_n (by omega)]; exact ih
theorem SimA.put {rs : xR} {p : xV} {un : Nat} {sv : Nat → Int32} {m : xV} (h : SimA rs p un sv m) {n : Nat} (hn : n ≤ 60) (h60 : p 60 = nI n) (h941 : m 941 = nI n) (c : Int64) : (gPut p n c).1 = (mPutS m n c).1 ∧ SimA rs (gPut p n c).2 un sv (mPutS m n c).2 := by
  obtain ⟨⟨a1, a2⟩, ⟨b1, b2⟩, c', d, n', f1, f2, f3, f4⟩ := h
  obtain rfl : n' = n := (nI_eq (by omega) (by omega)).mp (f2.symm.trans h60)
  obtain ⟨e1, e2⟩ := cIn_eq (c := c) 8 0 rfl rfl rfl
  have e0 : mit c 0 = c := rfl
  rw [e0] at e1 e2
  unfold gPut mPutS
  by_cases q1 : cIn 8 c 0 = 0
  · rw [if_pos q1, if_pos (e1.mpr q1)]
    exact ⟨rfl, ⟨a1, a2⟩, ⟨b1, b2⟩, c', d, n', f1, f2, f3, f4⟩
  have hb : mBd c 8 = false := by
    cases q : mBd c 8
    · rfl
    · exact absurd (e1.mp q) q1
  have hp := e2 hb
  have hb2 : ¬ mBd c 8 = true := by rw [hb]; decide
  rw [if_neg q1, if_neg hb2, hp]
  by_cases q2 : 60 < n' + cIn 8 c 0
  · rw [if_pos q2, if_pos q2]
    exact ⟨rfl, ⟨a1, a2⟩, ⟨b1, b2⟩, c', d, n', f1, f2, f3, f4⟩
  rw [if_neg q2, if_neg q2]
  refine ⟨rfl, ?_⟩
  generalize cIn 8 c 0 = k at q1 q2 hp
  have hlo : ∀ j, j < 870 ∨ (930 ≤ j ∧ j ≠ 941) → upd (mWr c (n' + k) m k) 941 (nI (n' + k)) j = m j := fun j hj => by
    rw [upd_n (by omega), mWr_o (by omega) (by omega) (by omega)]
  show SimA rs (pWr c (n' + k) (upd p 60 (nI (n' + k))) k) un sv (upd (mWr c (n' + k) m k) 941 (nI (n' + k)))
  refine ⟨⟨a1.cg (fun j hj => hlo j (by omega)), a2.cg (fun j hj => hlo j (by omega))⟩, ⟨b1, by rw [hlo _ (by omega)]; exact b2⟩, fun j hj => ?_, fun s hs => ?_, n' + k, by omega, by rw [pWr_o (by omega) (by omega), upd_s], upd_s, fun i hi => ?_⟩
  · rw [show hrow (upd (mWr c (n' + k) m k) 941 (nI (n' + k))) (200 + 80 * j) = hrow m (200 + 80 * j) from hrow_cg (fun q hq => hlo _ (by omega))]
    exact c' j hj
  · rw [hlo _ (by omega), show hrow (upd (mWr c (n' + k) m k) 941 (nI (n' + k))) (700 + 80 * s) = hrow m (700 + 80 * s) from hrow_cg (fun q hq => hlo _ (by omega))]
    exact d s hs
  · rw [upd_n (by omega)]
    refine put_txt (n := n') (fun i hi => ?_) (by omega) (by omega) k (by omega) i (by omega)
    rw [upd_n (by omega)]
    exact f4 i hi
