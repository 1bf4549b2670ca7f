/-! what is recorded and told of the rows beside the present -/
theorem Sim.cg {y a b : xV} (h : Sim y a) (e : ∀ k, k < 84 → b k = a k) : Sim y b := by
  refine ⟨fun k hk => by rw [e k (by omega)]; exact h.1 k hk, fun p hp hl f hf => ?_⟩
  rw [e _ (by simp only [tz]; omega)]
  refine h.2 p hp ?_ f hf
  unfold live at hl ⊢
  rw [e 12 (by omega), e 13 (by omega)] at hl
  exact hl
theorem Sim.rec {y m : xV} (h : Sim y m) {kn : Nat} (hk : kn ≤ 6) : Sim y (mRec m kn) := h.cg (fun k hk2 => mRec_lt hk (Or.inl (by omega)))
theorem IV.rec {m : xV} (h : IV m) {kn : Nat} (hk : kn ≤ 6) : IV (mRec m kn) := h.cg (fun k hk2 => mRec_lt hk (Or.inl (by omega)))
/-- the present goes into what undo takes back -/
theorem mRec_at {m : xV} {kn k : Nat} (hk : k < 80) (hkn : kn ≤ 5) : mRec m kn (200 + 80 * kn + k) = m k := by
  unfold mRec
  rw [if_neg (by omega), mRecL, upd_n (by omega), xcp_i hk, Nat.zero_add]
theorem mRec_old {m : xV} {kn q k : Nat} (hq : q < kn) (hk : k < 80) (hkn : kn ≤ 5) : mRec m kn (200 + 80 * q + k) = m (200 + 80 * q + k) := by
  unfold mRec
  rw [if_neg (by omega), mRecL, upd_n (by omega), xcp_o (by omega)]
theorem mRec_6 {m : xV} {k : Nat} (hk : k < 80) : mRec m 6 (200 + 80 * 5 + k) = m k := by
  unfold mRec
  rw [if_pos rfl, mRecL, upd_n (by omega), xcp_i hk, Nat.zero_add, upd_n (by omega), xcp_o (by omega)]
theorem mRec_6o {m : xV} {q k : Nat} (hq : q < 5) (hk : k < 80) : mRec m 6 (200 + 80 * q + k) = m (200 + 80 * (q + 1) + k) := by
  unfold mRec
  rw [if_pos rfl, mRecL, upd_n (by omega), xcp_o (by omega), upd_n (by omega)]
  have e : 200 + 80 * q + k = 200 + (80 * q + k) := by omega
  rw [e, xcp_i (by omega)]
  congr 1
  omega
theorem mRec_n {m : xV} {kn : Nat} (hk : kn ≤ 6) : mRec m kn 940 = nI (if kn = 6 then 6 else kn + 1) := by
  unfold mRec
  split
  · rw [mRecL, upd_s]
  · rw [mRecL, upd_s]
