/-! lemmas that several parts want -/
theorem upd_eq2 {y m : xV} {k j : Nat} {v : Int32} (h : y j = m j) : upd y k v j = upd m k v j := by
  by_cases e : j = k
  · rw [e, upd_s, upd_s]
  · rw [upd_n e, upd_n e]; exact h
theorem isS_in {x : Int32} (h : (decide (0 ≤ x) && decide (x ≤ 1)) = true) : ∃ s, s < 2 ∧ x = nI s := by
  simp only [Bool.and_eq_true, decide_eq_true_eq] at h
  obtain ⟨j, hj, e⟩ := rgN (lo := 0) (hi := 1) (by decide) (by decide) h
  exact ⟨j, by omega, e.2⟩
theorem isS_eq (x : Int32) : (decide (0 ≤ x) && decide (x ≤ 1)) = isS x := by
  unfold isS
  have : x ≤ 1 ↔ x < 2 := by
    rw [i_le, i_lt]
    have e3 : (1 : Int32).toInt = 1 := rfl
    have e4 : (2 : Int32).toInt = 2 := rfl
    rw [e3, e4]
    exact ⟨fun h => by omega, fun h => by omega⟩
  rw [decide_eq_decide.mpr this]
theorem isS_tn {x : Int32} (h : isS x = true) : ∃ s, s < 2 ∧ x = nI s ∧ tn x = s := by
  rw [← isS_eq] at h
  obtain ⟨s, hs, e⟩ := isS_in h
  exact ⟨s, hs, e, by rw [e, tn, nI_clamp (by omega)]⟩
def ff (p : Nat → Bool) : Nat → Nat → Nat
  | 0, k => k
  | d + 1, k => if p k = true then k else ff p d (k + 1)
def sfN (y : xV) (i : Nat) : Nat := ff (fun k => decide (¬ (gHours y (k + 1)).2 (hz i 3) = 0)) 200 0
theorem ff_le (p : Nat → Bool) : ∀ d k, k ≤ ff p d k ∧ ff p d k ≤ k + d := by
  intro d
  induction d with
  | zero => intro k; exact ⟨Nat.le_refl _, Nat.le_refl _⟩
  | succ d ih =>
    intro k
    rw [ff]
    have := ih (k + 1)
    split <;> omega
theorem ff_cg {P Q : Nat → Bool} : ∀ (d k : Nat), (∀ j, k ≤ j → j < k + d → P j = Q j) → ff P d k = ff Q d k := by
  intro d
  induction d with
  | zero => intro k _; rfl
  | succ d ih =>
    intro k h
    rw [ff, ff, h k (Nat.le_refl _) (by omega), ih (k + 1) (fun j h1 h2 => h j (by omega) (by omega))]
theorem ff_all {P : Nat → Bool} : ∀ (d k : Nat), (∀ j, k ≤ j → j < k + d → P j = false) → ff P d k = k + d := by
  intro d
  induction d with
  | zero => intro k _; rfl
  | succ d ih =>
    intro k h
    rw [ff, if_neg (by rw [h k (Nat.le_refl _) (by omega)]; decide), ih (k + 1) (fun j h1 h2 => h j (by omega) (by omega))]
    omega
theorem ff_some {P : Nat → Bool} : ∀ (d k j : Nat), k ≤ j → j < k + d → P j = true → ff P d k ≤ j := by
  intro d
  induction d with
  | zero => intro k j h1 h2; omega
  | succ d ih =>
    intro k j h1 h2 hp
    rw [ff]
    split
    · exact h1
    · rename_i c
      have : j ≠ k := fun e => by rw [e] at hp; exact c hp
      exact ih (k + 1) j (by omega) (by omega) hp
theorem Ct.mono {l : Launch} {U : xU} {y : MethodName} {b : ByteArray} {maxL : Nat} {ret : Option FieldType} {rm : Room} {av : List Value} {μ : xH} {post post' : Option Value → xH → Prop} (h : Ct l U y b maxL ret rm av μ post) (e : ∀ (v : Option Value) (μ' : xH), post v μ' → post' v μ') : Ct l U y b maxL ret rm av μ post' := by
  unfold Ct Met at *
  refine MetFree.mono h (fun _ _ q => q) (fun _ _ _ _ _ q => q) (fun a s o t _ hq => ?_)
  obtain ⟨⟨⟨v, μ1, h1, h2, h3⟩, h4⟩, h5⟩ := hq
  exact ⟨⟨⟨v, μ1, h1, e v μ1 h2, h3⟩, h4⟩, h5⟩
