/-! slots -/
theorem Sim.saved {y m : xV} {s : Nat} {v : Int32} (hs : s < 2) (h : Sim y m) (h80 : ∀ i, i < 4 → m (80 + i) = 0) : Sim y (hrow (upd (xcp m (700 + 80 * s) 0 80) (860 + s) v) (700 + 80 * s)) :=
  h.kept h80 (fun k hk => by rw [upd_n (by omega), xcp_i hk, Nat.zero_add])
theorem savedOther {m : xV} {s q : Nat} {v : Int32} (hs : s < 2) (hq : q < 2) (hne : q ≠ s) : hrow (upd (xcp m (700 + 80 * s) 0 80) (860 + s) v) (700 + 80 * q) = hrow m (700 + 80 * q) :=
  hrow_cg (fun k hk => by rw [upd_n (by omega), xcp_o (by omega)])
theorem savedHist {m : xV} {s q : Nat} {v : Int32} (hs : s < 2) (hq : q < 6) : hrow (upd (xcp m (700 + 80 * s) 0 80) (860 + s) v) (200 + 80 * q) = hrow m (200 + 80 * q) :=
  hrow_cg (fun k hk => by rw [upd_n (by omega), xcp_o (by omega)])
theorem saved_lt {m : xV} {s j : Nat} {v : Int32} (hs : s < 2) (hj : j < 700 ∨ 862 ≤ j) : upd (xcp m (700 + 80 * s) 0 80) (860 + s) v j = m j := by
  rw [upd_n (by omega), xcp_o (by omega)]
theorem Sim.restored {y m : xV} {kn s : Nat} (hk : kn ≤ 6) (hs : s < 2) (h80 : ∀ i, i < 4 → m (80 + i) = 0) (h : Sim y (hrow m (700 + 80 * s))) : Sim y (xcp (mRec m kn) 0 (700 + 80 * s) 80) :=
  h.cg (row_back (fun i hi => by rw [mRec_lt hk (Or.inl (by omega))]; exact h80 i hi) (fun k hk2 => mRec_lt hk (by omega)))
/-- putting the row back leaves the present as it was -/
theorem Sim.back {y m : xV} (h : Sim y m) : Sim y (xcp m 100 0 80) := h.cg (fun k hk => xcp_o (by omega))
