/-! rows that are kept aside -/
/-- the row that the model keeps from b on -/
def hrow (m : xV) (b : Nat) : xV := fun k => if k < 80 then m (b + k) else 0
theorem row_back {m m' : xV} {b : Nat} (h80 : ∀ i, i < 4 → m' (80 + i) = 0) (e : ∀ k, k < 80 → m' (b + k) = m (b + k)) : ∀ k, k < 84 → xcp m' 0 b 80 k = hrow m b k := by
  intro k hk
  unfold hrow
  by_cases h : k < 80
  · rw [if_pos h]
    have := xcp_i (m := m') (a := 0) (b := b) (k := 80) h
    rw [Nat.zero_add] at this
    rw [this]; exact e k h
  · rw [if_neg h, xcp_o (by omega)]
    have := h80 (k - 80) (by omega)
    rw [show 80 + (k - 80) = k by omega] at this
    exact this
theorem Sim.undo {y m : xV} {kn : Nat} (h80 : ∀ i, i < 4 → m (80 + i) = 0) (hk : kn + 1 ≤ 6) (h : Sim y (hrow m (200 + 80 * kn))) : (mUndo m (kn + 1)).1 = nI kn ∧ Sim y (mUndo m (kn + 1)).2 := by
  unfold mUndo
  rw [if_neg (by omega), Nat.add_sub_cancel]
  exact ⟨rfl, h.cg (row_back (fun i hi => by rw [upd_n (by omega)]; exact h80 i hi) (fun k hk2 => upd_n (by omega)))⟩
theorem hrow_cg {a b : xV} {p q : Nat} (e : ∀ k, k < 80 → a (p + k) = b (q + k)) : hrow a p = hrow b q := by
  funext k
  unfold hrow
  by_cases h : k < 80
  · rw [if_pos h, if_pos h]; exact e k h
  · rw [if_neg h, if_neg h]
/-- the present, kept aside -/
theorem Sim.kept {y m : xV} {b : Nat} {m' : xV} (h : Sim y m) (h80 : ∀ i, i < 4 → m (80 + i) = 0) (e : ∀ k, k < 80 → m' (b + k) = m k) : Sim y (hrow m' b) := by
  refine h.cg (fun k hk => ?_)
  unfold hrow
  by_cases q : k < 80
  · rw [if_pos q]; exact e k q
  · rw [if_neg q]
    have := h80 (k - 80) (by omega)
    rw [show 80 + (k - 80) = k by omega] at this
    exact this.symm
/-- a record: the present is the newest row -/
theorem Sim.recNew {y m : xV} {kn : Nat} (h : Sim y m) (h80 : ∀ i, i < 4 → m (80 + i) = 0) (hk : kn ≤ 6) : Sim y (hrow (mRec m kn) (200 + 80 * (if kn = 6 then 5 else kn))) := by
  refine h.kept h80 (fun k hk2 => ?_)
  by_cases h6 : kn = 6
  · subst h6; rw [if_pos rfl]; exact mRec_6 hk2
  · rw [if_neg h6]; exact mRec_at hk2 (by omega)
theorem recOld {m : xV} {kn q : Nat} (hq : q < kn) (hk : kn ≤ 5) : hrow (mRec m kn) (200 + 80 * q) = hrow m (200 + 80 * q) := hrow_cg (fun k hk2 => mRec_old hq hk2 hk)
theorem recOld6 {m : xV} {q : Nat} (hq : q < 5) : hrow (mRec m 6) (200 + 80 * q) = hrow m (200 + 80 * (q + 1)) := hrow_cg (fun k hk2 => mRec_6o hq hk2)
theorem recSlot {m : xV} {kn q : Nat} (hk : kn ≤ 6) (hq : q < 2) : hrow (mRec m kn) (700 + 80 * q) = hrow m (700 + 80 * q) := hrow_cg (fun k hk2 => mRec_lt hk (by omega))
