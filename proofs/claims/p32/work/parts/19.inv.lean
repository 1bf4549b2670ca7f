/-! what holds of a jetty's numbers -/
abbrev rg (x lo hi : Int32) : Prop := lo ≤ x ∧ x ≤ hi
abbrev gv (x : Int32) : Prop := x = -100006 ∨ isG x = true
def live (z : xV) (p : Nat) : Prop := if p = 0 then z 13 = 1 else nI p ≤ z 12
def IV (z : xV) : Prop :=
  (rg (z 0) 50 150 ∧ rg (z 1) 0 40 ∧ rg (z 2) 0 20 ∧ rg (z 3) 1 40 ∧ rg (z 4) 0 99 ∧ rg (z 5) 1 99) ∧ rg (z 8) 0 200 ∧ rg (z 12) 0 5 ∧ xz (z 13) ∧ xz (z 7) ∧
  (∀ g, g < 4 → rg (z (14 + g)) 0 1000) ∧
  (∀ i, i < 4 → rg (z (hz i 0)) 20 120 ∧ gv (z (hz i 1)) ∧ gv (z (hz i 2)) ∧ xz (z (hz i 3)) ∧ (isG (z (hz i 2)) = true → z 13 = 1)) ∧
  ∀ p, p < 6 → live z p → ∀ g, g < 4 → rg (z (tz p g)) 0 400
theorem i_le {a b : Int32} : a ≤ b ↔ a.toInt ≤ b.toInt := Int32.le_iff_toInt_le
theorem i_lt {a b : Int32} : a < b ↔ a.toInt < b.toInt := Int32.lt_iff_toInt_lt
/-- a sum or difference that stays small -/
theorem i_add {a b : Int32} (h1 : -2147483648 ≤ a.toInt + b.toInt) (h2 : a.toInt + b.toInt < 2147483648) : (a + b).toInt = a.toInt + b.toInt := Jvm.Kit.i32_add (by omega) (by omega)
theorem i_sub {a b : Int32} (h1 : -2147483648 ≤ a.toInt - b.toInt) (h2 : a.toInt - b.toInt < 2147483648) : (a - b).toInt = a.toInt - b.toInt := Jvm.Kit.i32_sub (by omega) (by omega)
theorem imin_cases (a b : Int32) : (imin a b = a ∧ a ≤ b) ∨ (imin a b = b ∧ b ≤ a) := by
  unfold imin
  by_cases h : b < a
  · rw [if_pos h]; exact Or.inr ⟨rfl, Int32.le_of_lt h⟩
  · rw [if_neg h]; exact Or.inl ⟨rfl, Int32.not_lt.mp h⟩
/-- a place of the vector may take a value -/
def VC (z : xV) (k : Nat) (v : Int32) : Prop :=
  ((k = 0 → rg v 50 150) ∧ (k = 1 → rg v 0 40) ∧ (k = 2 → rg v 0 20) ∧ (k = 3 → rg v 1 40) ∧ (k = 4 → rg v 0 99) ∧ (k = 5 → rg v 1 99)) ∧ (k = 8 → rg v 0 200) ∧ k ≠ 12 ∧ k ≠ 13 ∧ (k = 7 → xz v) ∧
  (∀ g, g < 4 → k = 14 + g → rg v 0 1000) ∧
  (∀ i, i < 4 → (k = hz i 0 → rg v 20 120) ∧ (k = hz i 1 → gv v) ∧ (k = hz i 2 → gv v ∧ (isG v = true → z 13 = 1)) ∧ (k = hz i 3 → xz v)) ∧
  ∀ p, p < 6 → ∀ g, g < 4 → k = tz p g → live z p → rg v 0 400
theorem upd_el {P : Int32 → Prop} {z : xV} {k j : Nat} {v : Int32} (h : P (z j)) (hv : k = j → P v) : P (upd z k v j) := by
  by_cases e : j = k
  · rw [e, upd_s]; exact hv e.symm
  · rw [upd_n e]; exact h
theorem live_up {z : xV} {k p : Nat} {v : Int32} (h12 : k ≠ 12) (h13 : k ≠ 13) : live (upd z k v) p ↔ live z p := by
  unfold live
  rw [upd_n h12.symm, upd_n h13.symm]
theorem IV.up {z : xV} {k : Nat} {v : Int32} (h : IV z) (c : VC z k v) : IV (upd z k v) := by
  obtain ⟨⟨a0, a1, a2, a3, a4, a5⟩, a8, a12, a13, a7, aS, aH, aT⟩ := h
  obtain ⟨⟨c0, c1, c2, c3, c4, c5⟩, c8, c12, c13, c7, cS, cH, cT⟩ := c
  refine ⟨⟨upd_el (P := fun x => rg x 50 150) a0 c0, upd_el (P := fun x => rg x 0 40) a1 c1, upd_el (P := fun x => rg x 0 20) a2 c2, upd_el (P := fun x => rg x 1 40) a3 c3, upd_el (P := fun x => rg x 0 99) a4 c4, upd_el (P := fun x => rg x 1 99) a5 c5⟩, upd_el (P := fun x => rg x 0 200) a8 c8, by rw [upd_n c12.symm]; exact a12, by rw [upd_n c13.symm]; exact a13, upd_el (P := xz) a7 c7, fun g hg => upd_el (P := fun x => rg x 0 1000) (aS g hg) (cS g hg), fun i hi => ?_, fun p hp hl g hg => ?_⟩
  · obtain ⟨b0, b1, b2, b3, b4⟩ := aH i hi
    obtain ⟨d0, d1, d2, d3⟩ := cH i hi
    refine ⟨upd_el (P := fun x => rg x 20 120) b0 d0, upd_el (P := gv) b1 d1, upd_el (P := gv) b2 (fun q => (d2 q).1), upd_el (P := xz) b3 d3, ?_⟩
    rw [upd_n c13.symm]
    exact upd_el (P := fun x => isG x = true → z 13 = 1) b4 (fun q => (d2 q).2)
  · have hl : live z p := (live_up c12 c13).mp hl
    exact upd_el (P := fun x => rg x 0 400) (aT p hp hl g hg) (fun q => cT p hp g hg q hl)
/-- places that nothing is asked of -/
theorem VC.free {z : xV} {k : Nat} {v : Int32} (h : k = 6 ∨ k = 9 ∨ k = 10 ∨ k = 11 ∨ (18 ≤ k ∧ k < 26) ∨ (∃ i, i < 4 ∧ (k = hz i 4 ∨ k = hz i 5)) ∨ (∃ p, p < 6 ∧ k = tz p 4) ∨ 80 ≤ k) : VC z k v := by
  refine ⟨⟨?_, ?_, ?_, ?_, ?_, ?_⟩, ?_, ?_, ?_, ?_, fun g hg q => ?_, fun i hi => ⟨fun q => ?_, fun q => ?_, fun q => ?_, fun q => ?_⟩, fun p hp g hg q _ => ?_⟩
  all_goals (try simp only [hz, tz] at *)
  all_goals (rcases h with h | h | h | h | h | ⟨i', hi', h | h⟩ | ⟨p', hp', h⟩ | h)
  all_goals (intros; omega)
theorem VC.held {z : xV} {v : Int32} (h : rg v 0 200) : VC z 8 v := by
  refine ⟨⟨?_, ?_, ?_, ?_, ?_, ?_⟩, fun _ => h, ?_, ?_, ?_, fun g hg q => ?_, fun i hi => ⟨fun q => ?_, fun q => ?_, fun q => ?_, fun q => ?_⟩, fun p hp g hg q _ => ?_⟩
  all_goals (try simp only [hz, tz] at *)
  all_goals (intros; omega)
theorem VC.laid {z : xV} {v : Int32} (h : xz v) : VC z 7 v := by
  refine ⟨⟨?_, ?_, ?_, ?_, ?_, ?_⟩, ?_, ?_, ?_, fun _ => h, fun g hg q => ?_, fun i hi => ⟨fun q => ?_, fun q => ?_, fun q => ?_, fun q => ?_⟩, fun p hp g hg q _ => ?_⟩
  all_goals (try simp only [hz, tz] at *)
  all_goals (intros; omega)
theorem VC.tank {z : xV} {g : Nat} {v : Int32} (hg : g < 4) (h : rg v 0 1000) : VC z (14 + g) v := by
  refine ⟨⟨?_, ?_, ?_, ?_, ?_, ?_⟩, ?_, ?_, ?_, ?_, fun _ _ _ => h, fun i hi => ⟨fun q => ?_, fun q => ?_, fun q => ?_, fun q => ?_⟩, fun p hp g hg q _ => ?_⟩
  all_goals (try simp only [hz, tz] at *)
  all_goals (intros; omega)
theorem VC.h0 {z : xV} {i : Nat} {v : Int32} (hi : i < 4) (h : rg v 20 120) : VC z (hz i 0) v := by
  refine ⟨⟨?_, ?_, ?_, ?_, ?_, ?_⟩, ?_, ?_, ?_, ?_, fun g hg q => ?_, fun i hi => ⟨fun q => h, fun q => ?_, fun q => ?_, fun q => ?_⟩, fun p hp g hg q _ => ?_⟩
  all_goals (try simp only [hz, tz] at *)
  all_goals (intros; omega)
theorem VC.h1 {z : xV} {i : Nat} {v : Int32} (hi : i < 4) (h : gv v) : VC z (hz i 1) v := by
  refine ⟨⟨?_, ?_, ?_, ?_, ?_, ?_⟩, ?_, ?_, ?_, ?_, fun g hg q => ?_, fun i hi => ⟨fun q => ?_, fun q => h, fun q => ?_, fun q => ?_⟩, fun p hp g hg q _ => ?_⟩
  all_goals (try simp only [hz, tz] at *)
  all_goals (intros; omega)
theorem VC.h2 {z : xV} {i : Nat} {v : Int32} (hi : i < 4) (h : gv v) (h2 : isG v = true → z 13 = 1) : VC z (hz i 2) v := by
  refine ⟨⟨?_, ?_, ?_, ?_, ?_, ?_⟩, ?_, ?_, ?_, ?_, fun g hg q => ?_, fun i hi => ⟨fun q => ?_, fun q => ?_, fun q => ⟨h, h2⟩, fun q => ?_⟩, fun p hp g hg q _ => ?_⟩
  all_goals (try simp only [hz, tz] at *)
  all_goals (intros; omega)
theorem VC.h3 {z : xV} {i : Nat} {v : Int32} (hi : i < 4) (h : xz v) : VC z (hz i 3) v := by
  refine ⟨⟨?_, ?_, ?_, ?_, ?_, ?_⟩, ?_, ?_, ?_, ?_, fun g hg q => ?_, fun i hi => ⟨fun q => ?_, fun q => ?_, fun q => ?_, fun q => h⟩, fun p hp g hg q _ => ?_⟩
  all_goals (try simp only [hz, tz] at *)
  all_goals (intros; omega)
theorem VC.unit {z : xV} {p g : Nat} {v : Int32} (hp : p < 6) (hg : g < 4) (h : live z p → rg v 0 400) : VC z (tz p g) v := by
  refine ⟨⟨?_, ?_, ?_, ?_, ?_, ?_⟩, ?_, ?_, ?_, ?_, fun g' hg' q => ?_, fun i hi => ⟨fun q => ?_, fun q => ?_, fun q => ?_, fun q => ?_⟩, fun p' hp' g' hg' q hl => ?_⟩
  all_goals (try simp only [hz, tz] at *)
  all_goals (try (intros; omega))
  exact h ((show p' = p by omega) ▸ hl)
theorem rgI {x : Int32} {lo hi : Int32} : rg x lo hi ↔ lo.toInt ≤ x.toInt ∧ x.toInt ≤ hi.toInt := by
  unfold rg
  rw [i_le, i_le]
theorem td_b {q d : Int} (hd : 0 < d) {n : Int} (h1 : -(n * d) ≤ q) (h2 : q ≤ n * d) : -n ≤ q.tdiv d ∧ q.tdiv d ≤ n := by
  have key : ∀ r : Int, 0 ≤ r → r ≤ n * d → 0 ≤ r.tdiv d ∧ r.tdiv d ≤ n := by
    intro r h0 hr
    rw [Int.tdiv_eq_ediv_of_nonneg h0]
    exact ⟨Int.ediv_nonneg h0 (by omega), Int.ediv_le_of_le_mul hd hr⟩
  rcases Int.le_total 0 q with h | h
  · have := key q h h2
    omega
  · have := key (-q) (by omega) (by omega)
    rw [Int.neg_tdiv] at this
    omega
/-- the tide is small -/
theorem tide_b {z : xV} (h : rg (z 1) 0 40) (t : Int32) : -40 ≤ (cTide z t).toInt ∧ (cTide z t).toInt ≤ 40 := by
  obtain ⟨h1, h2⟩ := rgI.mp h
  have e0 : (0 : Int32).toInt = 0 := rfl
  have e40 : (40 : Int32).toInt = 40 := rfl
  rw [e0] at h1
  rw [e40] at h2
  have ht : ∀ k, k < 12 → -10 ≤ (xsV 3 k).toInt ∧ (xsV 3 k).toInt ≤ 10 := by decide
  obtain ⟨t1, t2⟩ := ht _ (xin_lt (flm_in t))
  unfold cTide
  generalize xsV 3 (tn (flm t 12)) = w at t1 t2 ⊢
  have hm : (z 1 * w).toInt = (z 1).toInt * w.toInt := by
    rw [Int32.toInt_mul]
    have b1 : (z 1).toInt * w.toInt ≤ 40 * 10 := by
      have := Int.mul_le_mul h2 t2
      rcases Int.le_total 0 w.toInt with q | q
      · exact Int.mul_le_mul h2 t2 q (by omega)
      · have : (z 1).toInt * w.toInt ≤ 0 := Int.mul_nonpos_of_nonneg_of_nonpos h1 q
        omega
    have b2 : -(40 * 10) ≤ (z 1).toInt * w.toInt := by
      rcases Int.le_total 0 w.toInt with q | q
      · have : 0 ≤ (z 1).toInt * w.toInt := Int.mul_nonneg h1 q
        omega
      · have : (z 1).toInt * (-w.toInt) ≤ 40 * 10 := Int.mul_le_mul h2 (by omega) (by omega) (by omega)
        rw [Int.mul_neg] at this
        omega
    exact Jvm.Kit.bmod32 (by omega) (by omega)
  have hd : (z 1 * w / 10).toInt = ((z 1).toInt * w.toInt).tdiv 10 := by
    rw [Int32.toInt_div, hm]
    have b : -400 ≤ (z 1).toInt * w.toInt ∧ (z 1).toInt * w.toInt ≤ 400 := by
      constructor
      · rcases Int.le_total 0 w.toInt with q | q
        · have : 0 ≤ (z 1).toInt * w.toInt := Int.mul_nonneg h1 q
          omega
        · have : (z 1).toInt * (-w.toInt) ≤ 40 * 10 := Int.mul_le_mul h2 (by omega) (by omega) (by omega)
          rw [Int.mul_neg] at this
          omega
      · rcases Int.le_total 0 w.toInt with q | q
        · exact Int.mul_le_mul h2 t2 q (by omega)
        · have : (z 1).toInt * w.toInt ≤ 0 := Int.mul_nonpos_of_nonneg_of_nonpos h1 q
          omega
    generalize (z 1).toInt * w.toInt = q at b
    have e10 : (10 : Int32).toInt = 10 := rfl
    rw [e10]
    refine Jvm.Kit.bmod32 ?_ ?_
    · have := td_b (q := q) (d := 10) (n := 40) (by omega) (by omega) (by omega)
      omega
    · have := td_b (q := q) (d := 10) (n := 40) (by omega) (by omega) (by omega)
      omega
  rw [hd]
  have b : -400 ≤ (z 1).toInt * w.toInt ∧ (z 1).toInt * w.toInt ≤ 400 := by
    constructor
    · rcases Int.le_total 0 w.toInt with q | q
      · have : 0 ≤ (z 1).toInt * w.toInt := Int.mul_nonneg h1 q
        omega
      · have : (z 1).toInt * (-w.toInt) ≤ 40 * 10 := Int.mul_le_mul h2 (by omega) (by omega) (by omega)
        rw [Int.mul_neg] at this
        omega
    · rcases Int.le_total 0 w.toInt with q | q
      · exact Int.mul_le_mul h2 t2 q (by omega)
      · have : (z 1).toInt * w.toInt ≤ 0 := Int.mul_nonpos_of_nonneg_of_nonpos h1 q
        omega
  exact td_b (d := 10) (n := 40) (by omega) (by omega) (by omega)
theorem rgN {x : Int32} {lo hi : Nat} (hh : hi < 2147483648) (hl : lo ≤ hi) : rg x (nI lo) (nI hi) → ∃ k, lo ≤ k ∧ k ≤ hi ∧ x = nI k := by
  intro h
  obtain ⟨h1, h2⟩ := rgI.mp h
  rw [nI_toInt (by omega)] at h1
  rw [nI_toInt (by omega)] at h2
  refine ⟨x.toInt.toNat, by omega, by omega, ?_⟩
  apply Int32.toInt_inj.mp
  rw [nI_toInt (by omega)]
  omega
theorem rgM {k lo hi : Nat} (h1 : lo ≤ k) (h2 : k ≤ hi) (hh : hi < 2147483648) : rg (nI k) (nI lo) (nI hi) := ⟨nI_le h1 (by omega), nI_le h2 (by omega)⟩
/-- a live tanker's load -/
theorem IV.units {z : xV} (h : IV z) {p : Nat} (hp : p < 6) (hl : live z p) : ∃ u, u ≤ 1600 ∧ cUnits z p = nI u := by
  have hT := h.2.2.2.2.2.2.2 p hp hl
  obtain ⟨a, -, ha, ea⟩ := rgN (lo := 0) (hi := 400) (by decide) (by decide) (hT 0 (by decide))
  obtain ⟨b, -, hb, eb⟩ := rgN (lo := 0) (hi := 400) (by decide) (by decide) (hT 1 (by decide))
  obtain ⟨c, -, hc, ec⟩ := rgN (lo := 0) (hi := 400) (by decide) (by decide) (hT 2 (by decide))
  obtain ⟨d, -, hd, ed⟩ := rgN (lo := 0) (hi := 400) (by decide) (by decide) (hT 3 (by decide))
  refine ⟨0 + a + b + c + d, by omega, ?_⟩
  unfold cUnits
  rw [ea, eb, ec, ed, show (0 : Int32) = nI 0 from rfl, nI_add, nI_add, nI_add, nI_add]
theorem IV.draught {z : xV} (h : IV z) {p : Nat} (hp : p < 6) (hl : live z p) : ∃ d, 40 ≤ d ∧ d ≤ 120 ∧ cDraught z p = nI d := by
  obtain ⟨u, hu, e⟩ := h.units hp hl
  refine ⟨40 + u / 20, by omega, by omega, ?_⟩
  unfold cDraught
  rw [e, show (20 : Int32) = nI 20 from rfl, pk_div (by omega) (by decide) (by decide), show (40 : Int32) = nI 40 from rfl, nI_add]
theorem IV.height {z : xV} (h : IV z) (t : Int32) {d : Nat} (h1 : 40 ≤ d) (h2 : d ≤ 120) : -60 ≤ (cHeight z (nI d) t).toInt ∧ (cHeight z (nI d) t).toInt ≤ 100 := by
  obtain ⟨b1, b2⟩ := tide_b h.1.2.1 t
  unfold cHeight
  have e100 : (100 : Int32).toInt = 100 := rfl
  have e1 : (100 + cTide z t).toInt = 100 + (cTide z t).toInt := by rw [i_add (by rw [e100]; omega) (by rw [e100]; omega), e100]
  have e2 := nI_toInt (n := d) (by omega)
  rw [i_sub (by rw [e1, e2]; omega) (by rw [e1, e2]; omega), e1, e2]
  omega
