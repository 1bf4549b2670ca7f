/-! a jetty as one vector: 0..5 settings, 6 hour, 7 laid, 8 held, 9 lost, 10 caught, 11 demurrage, 12 waiting, 13 berth, 14.. stored, 18.. spoilt, 22.. spilt, 26 + 6h.. hoses, 50 + 5p.. tankers, 80 + h a hose stretches -/
abbrev xV : Type := Nat → Int32
def hz (h f : Nat) : Nat := 26 + 6 * h + f
def tz (p f : Nat) : Nat := 50 + 5 * p + f
abbrev jlen (c : Nat) : Nat := if c = 0 then 6 else 4
abbrev jbase (c : Nat) : Nat := if c = 0 then 0 else 10 + 4 * c
theorem upd_s {f : xV} {k : Nat} {v : Int32} : upd f k v k = v := if_pos rfl
theorem upd_n {f : xV} {k j : Nat} {v : Int32} (h : j ≠ k) : upd f k v j = f j := if_neg h
abbrev xz (x : Int32) : Prop := x = 0 ∨ x = 1
/-- the truth values are 0 or 1 -/
def xBz (z : xV) : Prop := xz (z 13) ∧ xz (z 7) ∧ ∀ i, i < 4 → xz (z (hz i 3)) ∧ xz (z (80 + i))
def jfs (sh : Nat → Nat) (z : xV) : List Value := [.ref (sh 1), .ref (sh 2), .ref (sh 3), .ref (sh 4), .ref (sh 5), .ref (sh 6), .int (z 13), .int (z 12), .int (z 6), .int (z 7), .int (z 8), .int (z 9), .int (z 10), .int (z 11)]
def hfs (z : xV) (i : Nat) : List Value := [.int (z (hz i 0)), .int (z (hz i 1)), .int (z (hz i 2)), .int (z (hz i 3)), .int (z (hz i 4)), .int (z (hz i 5)), .int (z (80 + i))]
def jix (k : Nat) : Nat := match k with
  | 6 => 13
  | 7 => 12
  | 8 => 6
  | 9 => 7
  | 10 => 8
  | 11 => 9
  | 12 => 10
  | _ => 11
def hix (i k : Nat) : Nat := if k = 6 then 80 + i else hz i k
/-- what the cell of the name n holds -/
def JC (U : xU) (sh : Nat → Nat) (z : xV) (n : Nat) (e : va_E) : Prop :=
  if n = 0 then e = .inr (1, jfs sh z)
  else if n < 5 then ∃ f : Nat → Int32, e = .inl (uC U 0, jlen (n - 1), .inl f) ∧ ∀ k, k < jlen (n - 1) → f k = z (jbase (n - 1) + k)
  else if n = 5 then ∃ f : Nat → Option Nat, e = .inl (uC U 3, 4, .inr (.inr (.inr (.inr f)))) ∧ ∀ i, i < 4 → f i = some (sh (7 + i))
  else if n = 6 then ∃ f : Nat → Option Nat, e = .inl (uC U 4, 6, .inr (.inr (.inr (.inr f)))) ∧ ∀ p, p < 6 → f p = some (sh (11 + p))
  else if n < 11 then e = .inr (0, hfs z (n - 7))
  else if n < 17 then e = .inr (3, [.ref (sh (17 + (n - 11))), .int (z (tz (n - 11) 4))])
  else ∃ f : Nat → Int32, e = .inl (uC U 0, 4, .inl f) ∧ ∀ k, k < 4 → f k = z (tz (n - 17) k)
def jreg (n k : Nat) : Prop :=
  if n = 0 then 6 ≤ k ∧ k < 14
  else if n < 5 then jbase (n - 1) ≤ k ∧ k < jbase (n - 1) + jlen (n - 1)
  else if n < 7 then False
  else if n < 11 then (hz (n - 7) 0 ≤ k ∧ k < hz (n - 7) 6) ∨ k = 80 + (n - 7)
  else if n < 17 then k = tz (n - 11) 4
  else tz (n - 17) 0 ≤ k ∧ k < tz (n - 17) 4
theorem jreg_d {n m k : Nat} (hn : n < 23) (hm : m < 23) (h : n ≠ m) (h1 : jreg n k) : ¬ jreg m k := by
  unfold jreg at *
  repeat' split at h1
  all_goals (repeat' split)
  all_goals first | exact id | (simp only [jbase, jlen, hz, tz] at *; repeat' split at h1) | skip
  all_goals first | exact id | omega | (repeat' split) | skip
  all_goals first | exact id | omega
theorem JC.congr {U : xU} {sh : Nat → Nat} {z z' : xV} {n : Nat} {e : va_E} (h : ∀ k, jreg n k → z' k = z k) (hn : n < 23) (hc : JC U sh z n e) : JC U sh z' n e := by
  unfold JC at *
  unfold jreg at h
  by_cases h0 : n = 0
  · rw [if_pos h0] at hc ⊢
    simp only [if_pos h0] at h
    rw [hc]
    simp only [jfs, h 13 (by omega), h 12 (by omega), h 6 (by omega), h 7 (by omega), h 8 (by omega), h 9 (by omega), h 10 (by omega), h 11 (by omega)]
  rw [if_neg h0] at hc ⊢
  simp only [if_neg h0] at h
  by_cases h1 : n < 5
  · rw [if_pos h1] at hc ⊢
    simp only [if_pos h1] at h
    obtain ⟨f, e1, e2⟩ := hc
    exact ⟨f, e1, fun k hk => (e2 k hk).trans (h _ ⟨by omega, by omega⟩).symm⟩
  rw [if_neg h1] at hc ⊢
  simp only [if_neg h1] at h
  by_cases h5 : n = 5
  · rw [if_pos h5] at hc ⊢
    exact hc
  rw [if_neg h5] at hc ⊢
  by_cases h6 : n = 6
  · rw [if_pos h6] at hc ⊢
    exact hc
  rw [if_neg h6] at hc ⊢
  simp only [if_neg (show ¬ n < 7 by omega)] at h
  by_cases h11 : n < 11
  · rw [if_pos h11] at hc ⊢
    simp only [if_pos h11] at h
    rw [hc]
    simp only [hfs, h (hz (n - 7) 0) (by simp only [hz]; omega), h (hz (n - 7) 1) (by simp only [hz]; omega), h (hz (n - 7) 2) (by simp only [hz]; omega), h (hz (n - 7) 3) (by simp only [hz]; omega), h (hz (n - 7) 4) (by simp only [hz]; omega), h (hz (n - 7) 5) (by simp only [hz]; omega), h (80 + (n - 7)) (by omega)]
  rw [if_neg h11] at hc ⊢
  simp only [if_neg h11] at h
  by_cases h17 : n < 17
  · rw [if_pos h17] at hc ⊢
    simp only [if_pos h17] at h
    rw [hc, h _ rfl]
  rw [if_neg h17] at hc ⊢
  simp only [if_neg h17] at h
  obtain ⟨f, e1, e2⟩ := hc
  exact ⟨f, e1, fun k hk => (e2 k hk).trans (h _ ⟨by simp only [tz]; omega, by simp only [tz]; omega⟩).symm⟩
/-- the cells of a jetty, under names 0..22 -/
def JRep (U : xU) (μ : xH) (sh : Nat → Nat) (z : xV) : Prop := (∀ i j, i < 23 → j < 23 → sh i = sh j → i = j) ∧ xBz z ∧ ∀ n, n < 23 → ∃ e, μ (sh n) = some e ∧ JC U sh z n e
def JFr (sh : Nat → Nat) (μ μ' : xH) : Prop := ∀ q, (∀ n, n < 23 → q ≠ sh n) → μ' q = μ q
theorem JFr.rf {sh : Nat → Nat} {μ : xH} : JFr sh μ μ := fun _ _ => rfl
theorem JFr.tr {sh : Nat → Nat} {μ μ1 μ2 : xH} (h : JFr sh μ μ1) (h2 : JFr sh μ1 μ2) : JFr sh μ μ2 := fun q hq => (h2 q hq).trans (h q hq)
theorem JFr.up {sh : Nat → Nat} {μ0 μ : xH} {n : Nat} {e : va_E} (h : JFr sh μ0 μ) (hn : n < 23) : JFr sh μ0 (xup μ (sh n) e) := fun q hq => (xup_n (hq n hn)).trans (h q hq)
def JR (U : xU) (μ0 μ : xH) (sh : Nat → Nat) (z : xV) : Prop := JRep U μ sh z ∧ JFr sh μ0 μ
theorem JR.rf {U : xU} {μ : xH} {sh : Nat → Nat} {z : xV} (h : JRep U μ sh z) : JR U μ μ sh z := ⟨h, JFr.rf⟩
theorem JR.tr {U : xU} {μ0 μ μ' : xH} {sh : Nat → Nat} {z z' : xV} (h : JR U μ0 μ sh z) (h2 : JR U μ μ' sh z') : JR U μ0 μ' sh z' := ⟨h2.1, h.2.tr h2.2⟩
theorem JR.to {U : xU} {μ0 μ : xH} {sh : Nat → Nat} {z z' : xV} (h : JR U μ0 μ sh z) (e : z = z') : JR U μ0 μ sh z' := e ▸ h
theorem JRep.put {U : xU} {μ : xH} {sh : Nat → Nat} {z z' : xV} {n0 : Nat} {e' : va_E} (h : JRep U μ sh z) (hn : n0 < 23) (hz' : ∀ k, ¬ jreg n0 k → z' k = z k) (hb : xBz z') (hc : JC U sh z' n0 e') : JRep U (xup μ (sh n0) e') sh z' := by
  obtain ⟨h1, h2, h3⟩ := h
  refine ⟨h1, hb, fun n hn' => ?_⟩
  by_cases hq : n = n0
  · subst hq
    exact ⟨e', xup_s, hc⟩
  · obtain ⟨e, g1, g2⟩ := h3 n hn'
    exact ⟨e, by rw [xup_n (fun z => hq (h1 n n0 hn' hn z))]; exact g1, g2.congr (fun k hk => hz' k (jreg_d hn' hn hq hk)) hn'⟩
theorem JR.put {U : xU} {μ0 μ : xH} {sh : Nat → Nat} {z z' : xV} {n0 : Nat} {e' : va_E} (h : JR U μ0 μ sh z) (hn : n0 < 23) (hz' : ∀ k, ¬ jreg n0 k → z' k = z k) (hb : xBz z') (hc : JC U sh z' n0 e') : JR U μ0 (xup μ (sh n0) e') sh z' := ⟨h.1.put hn hz' hb hc, h.2.up hn⟩
section JGET
variable {U : xU} {μ0 μ : xH} {sh : Nat → Nat} {z : xV}
theorem JR.g0 (h : JR U μ0 μ sh z) : μ (sh 0) = some (.inr (1, jfs sh z)) := by
  obtain ⟨e, h1, h2⟩ := h.1.2.2 0 (by decide)
  rw [JC, if_pos rfl] at h2
  rw [h1, h2]
theorem JR.gA (h : JR U μ0 μ sh z) (c : Nat) (hc : c < 4) : ∃ f : Nat → Int32, μ (sh (1 + c)) = some (.inl (uC U 0, jlen c, .inl f)) ∧ ∀ k, k < jlen c → f k = z (jbase c + k) := by
  obtain ⟨e, h1, h2⟩ := h.1.2.2 (1 + c) (by omega)
  rw [JC, if_neg (by omega), if_pos (by omega), Nat.add_sub_cancel_left] at h2
  obtain ⟨f, e1, e2⟩ := h2
  exact ⟨f, by rw [h1, e1], e2⟩
theorem JR.g5 (h : JR U μ0 μ sh z) : ∃ f : Nat → Option Nat, μ (sh 5) = some (.inl (uC U 3, 4, .inr (.inr (.inr (.inr f))))) ∧ ∀ i, i < 4 → f i = some (sh (7 + i)) := by
  obtain ⟨e, h1, h2⟩ := h.1.2.2 5 (by decide)
  rw [JC, if_neg (by decide), if_neg (by decide), if_pos rfl] at h2
  obtain ⟨f, e1, e2⟩ := h2
  exact ⟨f, by rw [h1, e1], e2⟩
theorem JR.g6 (h : JR U μ0 μ sh z) : ∃ f : Nat → Option Nat, μ (sh 6) = some (.inl (uC U 4, 6, .inr (.inr (.inr (.inr f))))) ∧ ∀ p, p < 6 → f p = some (sh (11 + p)) := by
  obtain ⟨e, h1, h2⟩ := h.1.2.2 6 (by decide)
  rw [JC, if_neg (by decide), if_neg (by decide), if_neg (by decide), if_pos rfl] at h2
  obtain ⟨f, e1, e2⟩ := h2
  exact ⟨f, by rw [h1, e1], e2⟩
theorem JR.gH (h : JR U μ0 μ sh z) (i : Nat) (hi : i < 4) : μ (sh (7 + i)) = some (.inr (0, hfs z i)) := by
  obtain ⟨e, h1, h2⟩ := h.1.2.2 (7 + i) (by omega)
  rw [JC, if_neg (by omega), if_neg (by omega), if_neg (by omega), if_neg (by omega), if_pos (by omega), Nat.add_sub_cancel_left] at h2
  rw [h1, h2]
theorem JR.gT (h : JR U μ0 μ sh z) (p : Nat) (hp : p < 6) : μ (sh (11 + p)) = some (.inr (3, [.ref (sh (17 + p)), .int (z (tz p 4))])) := by
  obtain ⟨e, h1, h2⟩ := h.1.2.2 (11 + p) (by omega)
  rw [JC, if_neg (by omega), if_neg (by omega), if_neg (by omega), if_neg (by omega), if_neg (by omega), if_pos (by omega), Nat.add_sub_cancel_left] at h2
  rw [h1, h2]
theorem JR.gU (h : JR U μ0 μ sh z) (p : Nat) (hp : p < 6) : ∃ f : Nat → Int32, μ (sh (17 + p)) = some (.inl (uC U 0, 4, .inl f)) ∧ ∀ k, k < 4 → f k = z (tz p k) := by
  obtain ⟨e, h1, h2⟩ := h.1.2.2 (17 + p) (by omega)
  rw [JC, if_neg (by omega), if_neg (by omega), if_neg (by omega), if_neg (by omega), if_neg (by omega), if_neg (by omega), Nat.add_sub_cancel_left] at h2
  obtain ⟨f, e1, e2⟩ := h2
  exact ⟨f, by rw [h1, e1], e2⟩
theorem xBz.up (hb : xBz z) {k : Nat} {v : Int32} (h : (k = 13 ∨ k = 7 ∨ ∃ i, i < 4 ∧ (k = hz i 3 ∨ k = 80 + i)) → xz v) : xBz (upd z k v) := by
  have key : ∀ j, xz (z j) → (j = k → xz v) → xz (upd z k v j) := by
    intro j h1 h2
    by_cases e : j = k
    · rw [e, upd_s]; exact h2 e
    · rw [upd_n e]; exact h1
  exact ⟨key 13 hb.1 (fun e => h (Or.inl e.symm)), key 7 hb.2.1 (fun e => h (Or.inr (Or.inl e.symm))), fun i hi => ⟨key _ (hb.2.2 i hi).1 (fun e => h (Or.inr (Or.inr ⟨i, hi, Or.inl e.symm⟩))), key _ (hb.2.2 i hi).2 (fun e => h (Or.inr (Or.inr ⟨i, hi, Or.inr e.symm⟩)))⟩⟩
theorem JR.pJ (h : JR U μ0 μ sh z) (k : Nat) (h6 : 6 ≤ k) (hk : k < 14) {v : Int32} (hv : (k = 6 ∨ k = 9) → xz v) : JR U μ0 (xup μ (sh 0) (.inr (1, (jfs sh z).set k (.int v)))) sh (upd z (jix k) v) := by
  have key : ∀ k, 6 ≤ k → k < 14 → (6 ≤ jix k ∧ jix k < 14) ∧ ((jix k = 13 → k = 6) ∧ (jix k = 7 → k = 9)) := by
    intro k h1 h2
    rcases (show k = 6 ∨ k = 7 ∨ k = 8 ∨ k = 9 ∨ k = 10 ∨ k = 11 ∨ k = 12 ∨ k = 13 by omega) with rfl | rfl | rfl | rfl | rfl | rfl | rfl | rfl <;> decide
  obtain ⟨k1, k2, k3⟩ := key k h6 hk
  refine h.put (by decide) (fun j hj => upd_n (fun e => hj (by rw [jreg, if_pos rfl, e]; exact k1))) (h.1.2.1.up (fun q => ?_)) ?_
  · rcases q with q | q | ⟨i, hi, q | q⟩
    · exact hv (Or.inl (k2 q))
    · exact hv (Or.inr (k3 q))
    · simp only [hz] at q; omega
    · omega
  · rw [JC, if_pos rfl]
    rcases (show k = 6 ∨ k = 7 ∨ k = 8 ∨ k = 9 ∨ k = 10 ∨ k = 11 ∨ k = 12 ∨ k = 13 by omega) with rfl | rfl | rfl | rfl | rfl | rfl | rfl | rfl <;> rfl
theorem JR.pA (h : JR U μ0 μ sh z) (c : Nat) (hc : c < 4) {f : Nat → Int32} (hf : ∀ k, k < jlen c → f k = z (jbase c + k)) {i : Nat} (hi : i < jlen c) {v : Int32} : JR U μ0 (xup μ (sh (1 + c)) (.inl (uC U 0, jlen c, .inl (upd f i v)))) sh (upd z (jbase c + i) v) := by
  refine h.put (by omega) (fun j hj => upd_n (fun e => hj (by rw [jreg, if_neg (by omega), if_pos (by omega), Nat.add_sub_cancel_left, e]; omega))) (h.1.2.1.up (fun q => ?_)) ?_
  · exfalso
    simp only [jbase, jlen] at *
    rcases q with q | q | ⟨i2, hi2, q | q⟩ <;> (try simp only [hz] at q) <;> split at q <;> (try split at hi) <;> omega
  · rw [JC, if_neg (by omega), if_pos (by omega), Nat.add_sub_cancel_left]
    refine ⟨_, rfl, fun k hk => ?_⟩
    by_cases e : k = i
    · subst e; rw [upd_s, upd_s]
    · rw [upd_n e, upd_n (by omega)]; exact hf k hk
theorem JR.pH (h : JR U μ0 μ sh z) (i : Nat) (hi : i < 4) (k : Nat) (hk : k < 7) {v : Int32} (hv : (k = 3 ∨ k = 6) → xz v) : JR U μ0 (xup μ (sh (7 + i)) (.inr (0, (hfs z i).set k (.int v)))) sh (upd z (hix i k) v) := by
  refine h.put (by omega) (fun j hj => upd_n (fun e => hj ?_)) (h.1.2.1.up (fun q => ?_)) ?_
  · rw [jreg, if_neg (by omega), if_neg (by omega), if_neg (by omega), if_pos (by omega), Nat.add_sub_cancel_left, e]
    simp only [hix, hz]
    split <;> omega
  · simp only [hix, hz] at q
    refine hv ?_
    split at q
    · omega
    · rcases q with q | q | ⟨i, hi, q | q⟩ <;> omega
  · rw [JC, if_neg (by omega), if_neg (by omega), if_neg (by omega), if_neg (by omega), if_pos (by omega), Nat.add_sub_cancel_left]
    have e : (hfs z i).set k (.int v) = hfs (upd z (hix i k) v) i := by
      have n1 : ∀ a b : Nat, a ≠ b → hz i a ≠ hz i b := fun a b h => by simp only [hz]; omega
      have n2 : ∀ a : Nat, a < 6 → hz i a ≠ 80 + i := fun a h => by simp only [hz]; omega
      have n3 : ∀ a : Nat, a < 6 → 80 + i ≠ hz i a := fun a h => (n2 a h).symm
      rcases (show k = 0 ∨ k = 1 ∨ k = 2 ∨ k = 3 ∨ k = 4 ∨ k = 5 ∨ k = 6 by omega) with rfl | rfl | rfl | rfl | rfl | rfl | rfl
      all_goals simp [hfs, hix, upd_s, upd_n, n1, n2, n3]
    rw [e]
theorem JR.pT (h : JR U μ0 μ sh z) (p : Nat) (hp : p < 6) {v : Int32} : JR U μ0 (xup μ (sh (11 + p)) (.inr (3, ([.ref (sh (17 + p)), .int (z (tz p 4))] : List Value).set 1 (.int v)))) sh (upd z (tz p 4) v) := by
  refine h.put (by omega) (fun j hj => upd_n (fun e => hj ?_)) (h.1.2.1.up (fun q => ?_)) ?_
  · rw [jreg, if_neg (by omega), if_neg (by omega), if_neg (by omega), if_neg (by omega), if_pos (by omega), Nat.add_sub_cancel_left, e]
  · exfalso
    simp only [tz, hz] at q
    rcases q with q | q | ⟨i, hi, q | q⟩ <;> omega
  · rw [JC, if_neg (by omega), if_neg (by omega), if_neg (by omega), if_neg (by omega), if_neg (by omega), if_pos (by omega), Nat.add_sub_cancel_left, upd_s]
    rfl
theorem JR.pU (h : JR U μ0 μ sh z) (p : Nat) (hp : p < 6) {f : Nat → Int32} (hf : ∀ k, k < 4 → f k = z (tz p k)) {i : Nat} (hi : i < 4) {v : Int32} : JR U μ0 (xup μ (sh (17 + p)) (.inl (uC U 0, 4, .inl (upd f i v)))) sh (upd z (tz p i) v) := by
  refine h.put (by omega) (fun j hj => upd_n (fun e => hj ?_)) (h.1.2.1.up (fun q => ?_)) ?_
  · rw [jreg, if_neg (by omega), if_neg (by omega), if_neg (by omega), if_neg (by omega), if_neg (by omega), Nat.add_sub_cancel_left, e]
    simp only [tz]
    omega
  · exfalso
    simp only [tz, hz] at q
    rcases q with q | q | ⟨i, hi, q | q⟩ <;> omega
  · rw [JC, if_neg (by omega), if_neg (by omega), if_neg (by omega), if_neg (by omega), if_neg (by omega), if_neg (by omega), Nat.add_sub_cancel_left]
    refine ⟨_, rfl, fun k hk => ?_⟩
    by_cases e : k = i
    · subst e; rw [upd_s, upd_s]
    · rw [upd_n e, upd_n (by simp only [tz]; omega)]; exact hf k hk
end JGET
