/-! run, in both systems -/
theorem SimA.run {rs : xR} {p : xV} {un : Nat} {sv : Nat → Int32} {m : xV} (h : SimA rs p un sv m) {n : Nat} (hn : n ≤ 60) (h60 : p 60 = nI n) (h941 : m 941 = nI n) :
    ((mFF m n).1 = -100006 → mGo n (n + 1) 0 (mRun0 m un n)) ∧
    (if (oQ p n).1 = -100006 then (oAll n (oQ p n).2 (rs 0)).1 else -100003) = (mRunS m un n).1 ∧
    SimA (if (oQ p n).1 = -100006 then dRs rs un ((oAll n (oQ p n).2 (rs 0)).1, (oAll n (oQ p n).2 (rs 0)).2.2) else rs) (if (oQ p n).1 = -100006 then upd (oAll n (oQ p n).2 (rs 0)).2.1 60 0 else (oQ p n).2) (if (oQ p n).1 = -100006 then dUn un ((oAll n (oQ p n).2 (rs 0)).1, (oAll n (oQ p n).2 (rs 0)).2.2) else un) sv (mRunS m un n).2 := by
  obtain ⟨f1, h1, f3⟩ := h.fault hn h60 h941
  unfold mRunS
  rw [f1]
  rcases Classical.em ((mFF m n).1 = -100006) with c | c
  rotate_left
  · rw [if_neg c, if_neg c, if_neg c, if_neg c, if_neg c]
    exact ⟨fun q => absurd q c, rfl, h1⟩
  rw [if_pos c, if_pos c, if_pos c, if_pos c, if_pos c]
  obtain ⟨w943, hok⟩ := f3 c
  have hun := h.2.1.1
  have p1o : ∀ j, j < 61 → (oQ p n).2 j = p j := fun j hj => by unfold oQ; rw [pFault_o hj, upd_n (by omega)]
  have m1o : ∀ j, j < 930 ∨ j = 940 ∨ j = 941 → (mFF m n).2 j = m j := fun j hj => mFF_o (by omega)
  obtain ⟨M0, hM0⟩ : ∃ M, M = mRun0 m un n := ⟨_, rfl⟩
  have hM0r : ∀ j, j ≠ 942 → M0 j = mRec (mFF m n).2 un j := fun j hj => by rw [hM0, mRun0, upd_n hj]
  have hlow : ∀ j, j < 84 → M0 j = m j := fun j hj => by rw [hM0r j (by omega), mRec_lt hun (Or.inl (by omega)), m1o j (by omega)]
  have hmid : ∀ j, (680 ≤ j ∧ j < 930) ∨ j = 941 → M0 j = m j := fun j hj => by rw [hM0r j (by omega), mRec_lt hun (Or.inr (by omega)), m1o j (by omega)]
  have hrr := run_rel (q0 := p) hn (n + 1) 0 (upd (oQ p n).2 61 0) (rs 0) M0 (by rw [upd_n (by decide), p1o _ (by decide)]; exact h60) upd_s (by rw [hmid _ (by omega)]; exact h941) (by rw [hM0, mRun0, upd_s]; rfl) (by omega)
    (fun j => by rw [ch_up hn (by decide)]; exact ch_of hn (fun i hi => p1o i (by omega)) j)
    (fun j => by
      rw [← h.txt hn h941 j]
      unfold tM
      by_cases q : j < n
      · rw [if_pos q, if_pos q, hmid _ (by omega)]
      · rw [if_neg q, if_neg q])
    (by rw [hM0r _ (by decide), mRec_lt hun (Or.inr (by decide))]; exact w943) (h.1.1.cg hlow) (h.1.2.cg hlow) (fun _ => hok) (by omega)
  obtain ⟨g0, g⟩ := hrr
  obtain ⟨k', k1, k2, k3, k4, k5, k6, k7⟩ := g 0
  have e0 : oAll n (oQ p n).2 (rs 0) = oRun n (n + 1) 0 (upd (oQ p n).2 61 0) (rs 0) (nI 0) := rfl
  have e1 : mRunL n (n + 1) 0 (mRun0 m un n) 0 = mRunL n (n + 1) 0 M0 (nI 0) := by rw [hM0]; rfl
  rw [e0, e1, k2, k3]
  refine ⟨fun _ => by rw [← hM0]; exact g0, rfl, ?_⟩
  generalize (oRun n (n + 1) 0 (upd (oQ p n).2 61 0) (rs 0) (nI 0)).2.2 = z' at k4 ⊢
  generalize (mRunL n (n + 1) 0 M0 (nI 0)).2 = mL at k4 k5 k6 ⊢
  generalize (oRun n (n + 1) 0 (upd (oQ p n).2 61 0) (rs 0) (nI 0)).2.1 = p' at k7 ⊢
  obtain ⟨a2, ha2⟩ : ∃ a2 : xV, a2 = fun j => if j < 84 then mL j else mRec (mFF m n).2 un j := ⟨_, rfl⟩
  have a_lo : ∀ j, j < 84 → a2 j = mL j := fun j hj => by rw [ha2]; exact if_pos hj
  have a_hi : ∀ j, 84 ≤ j → a2 j = mRec (mFF m n).2 un j := fun j hj => by rw [ha2]; exact if_neg (by omega)
  have hJa : mJ a2 := k5.cg a_lo
  have hD : Dn (nI k', z') 0 (nI k', a2) (rs 0) := Or.inr ⟨rfl, ⟨rfl, k4.cg a_lo⟩, ok_nI (by omega), hJa.1⟩
  have hc := (h1.change hD (fun _ => ⟨fun j hj => ?_, hJa.2.2.1, hJa.2.2.2⟩)).2
  rotate_left
  · by_cases q : j < 84
    · show a2 j = _
      rw [a_lo j q, mRec_lt hun (Or.inl (by omega))]
      have z1 := k5.2.1 (j - 80) (by omega)
      have z2 := h1.1.2.2.1 (j - 80) (by omega)
      rw [show 80 + (j - 80) = j by omega] at z1 z2
      rw [z1, z2]
    · exact a_hi j (by omega)
  have hc2 : SimA (dRs rs un (nI k', z')) (oQ p n).2 (dUn un (nI k', z')) sv mL := by
    refine SimA.mcg (m := a2) hc (fun k hk => ?_)
    by_cases q : k < 84
    · exact (a_lo k q).symm
    · rw [k6 k (by omega) (by omega), a_hi k (by omega), hM0r k (by omega)]
  refine hc2.wipe.2.pcg (fun k hk => ?_)
  by_cases q : k = 60
  · rw [q, upd_s, upd_s]
  · rw [upd_n q, upd_n q, k7 k (by omega), upd_n (by omega)]
