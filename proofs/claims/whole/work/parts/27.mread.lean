/-! the model's reading: exact; n the length, a where it stands -/
def tM (m : xV) (n a : Nat) : Int32 := if a < n then m (870 + a) else 0
def patM (m : xV) (n a : Nat) : Prop := m 941 = nI n ∧ m 942 = nI a ∧ n ≤ 60 ∧ a ≤ n
theorem tM_up {m : xV} {n a j : Nat} {v : Int32} (hn : n ≤ 60) (hj : j < 870 ∨ 930 ≤ j) : tM (upd m j v) n a = tM m n a := by
  unfold tM
  by_cases h : a < n
  · rw [if_pos h, if_pos h, upd_n (by omega)]
  · rw [if_neg h, if_neg h]
theorem tM_n {m : xV} {n : Nat} : tM m n n = 0 := if_neg (Nat.lt_irrefl _)
theorem tM_lt {m : xV} {n a : Nat} (h : ¬ tM m n a = 0) : a < n := by
  unfold tM at h
  by_cases q : a < n
  · exact q
  · rw [if_neg q] at h; exact absurd rfl h
theorem patM_up {m : xV} {n a j : Nat} {v : Int32} (h : patM m n a) (h0 : j ≠ 941) (h1 : j ≠ 942) : patM (upd m j v) n a := ⟨by rw [upd_n h0.symm]; exact h.1, by rw [upd_n h1.symm]; exact h.2.1, h.2.2⟩
theorem patM_at {m : xV} {n a b : Nat} (h : patM m n a) (hb : b ≤ n) : patM (upd m 942 (nI b)) n b := ⟨by rw [upd_n (by decide)]; exact h.1, upd_s, h.2.2.1, hb⟩
theorem inB_lt {m : xV} {n a : Nat} {lo hi : Int32} (h : inB (tM m n a) lo hi = true) (hl : ¬ lo ≤ 0) : a < n := tM_lt (m := m) (fun e => by
  rw [e] at h
  unfold inB at h
  simp only [Bool.and_eq_true, decide_eq_true_eq] at h
  exact hl h.1)
def mN (t : Nat → Int32) (w most : Int32) : Nat → Nat → Int32 → Int32 × Nat
  | 0, a, num => (num, a)
  | d + 1, a, num =>
    if (decide (w = 0) && inB (t a) (if num = 0 then 49 else 48) 57) = true ∧ 10 * num + t a - 48 ≤ most then mN t w most d (a + 1) (10 * num + t a - 48) else (num, a)
theorem mN_le {t : Nat → Int32} {w most : Int32} : ∀ (d a : Nat) (num : Int32), a ≤ (mN t w most d a num).2 ∧ (mN t w most d a num).2 ≤ a + d := by
  intro d
  induction d with
  | zero => intro a num; exact ⟨Nat.le_refl _, Nat.le_refl _⟩
  | succ d ih =>
    intro a num
    rw [mN]
    by_cases hc : (decide (w = 0) && inB (t a) (if num = 0 then 49 else 48) 57) = true ∧ 10 * num + t a - 48 ≤ most
    · rw [if_pos hc]
      have := ih (a + 1) (10 * num + t a - 48)
      omega
    · rw [if_neg hc]
      exact ⟨Nat.le_refl _, by show a ≤ a + (d + 1); omega⟩
def mNq (m : xV) (n a : Nat) (most : Int32) : Int32 × Nat := mN (tM m n) (m 943) most (n - a) a 0
def mNr (m : xV) (n a : Nat) (most : Int32) : xV := upd (upd (upd m 945 (mNq m n a most).1) 942 (nI (mNq m n a most).2)) 943 (if ¬ m 943 = 0 ∨ (mNq m n a most).1 = 0 then 1 else 0)
theorem mNq_le {m : xV} {n a : Nat} {most : Int32} (h : a ≤ n) : a ≤ (mNq m n a most).2 ∧ (mNq m n a most).2 ≤ n := by
  have := mN_le (t := tM m n) (w := m 943) (most := most) (n - a) a 0
  unfold mNq
  omega
theorem mNr_pat {m : xV} {n a : Nat} {most : Int32} (h : patM m n a) : patM (mNr m n a most) n (mNq m n a most).2 := by
  unfold mNr
  exact patM_up (patM_at (patM_up h (by decide) (by decide)) (mNq_le h.2.2.2).2) (by decide) (by decide)
set_option maxHeartbeats 200000 in
set_option maxRecDepth 100000 in
theorem c_X5_sign (l : Launch) (U : xU) (μ0 : xH) (ma : Nat → Nat) (m : xV) (hM0 : FRep U μ0 ma 5 FM m) (n a : Nat) (hp : patM m n a) : CtF l U yX5_sign cX5_sign 1 (some .int) ({ frames := 0, cells := 0, slots := 0, locals := 0 } : Room) [.ref (ma 0)] μ0 (tM m n a) := by
  refine Ct.of [some (.ref (ma 0))] (by decide +kernel) rfl (Nat.le_of_ble_eq_true rfl) (fun K Q X hnm hQ => ?_)
  have hM := FR.rf hM0
  refine aw_aload_n X dX5_sign_0 rfl ?_
  refine aw_fgetI X hM 8 (t := 0) (b := 942) (n := 0) rfl f_X5_160 dX5_sign_1 ?_
  refine aw_aload_n X dX5_sign_4 rfl ?_
  refine aw_fgetI X hM 7 (t := 0) (b := 941) (n := 0) rfl f_X5_143 dX5_sign_5 ?_
  refine aw_icmp_ge (tgt := 23) X dX5_sign_8 (by decide) (fun c8_1 => ?_) (fun c8_1 => ?_)
  · skip
    refine aw_iconst X (0) dX5_sign_23 rfl ?_
    exact aw_iret X hQ dX5_sign_24 ⟨congrArg (fun q => some (Value.int q)) (by
      rw [hp.1, hp.2.1] at c8_1
      have q : ¬ a < n := fun q => absurd c8_1 (nI_ge q (by have := hp.2.2; omega))
      rw [tM, if_neg q]), rfl⟩
  · skip
    have han : a < n := by
      rw [hp.1, hp.2.1] at c8_1
      rcases Nat.lt_or_ge a n with q | q
      · exact q
      · exact absurd (nI_le q (by have := hp.2.2; omega)) c8_1
    have hn60 := hp.2.2.1
    refine aw_aload_n X dX5_sign_11 rfl ?_
    refine aw_fgetA X hM 6 (t := 0) (b := 870) (n := 60) rfl f_X5_26 dX5_sign_12 ?_
    refine aw_aload_n X dX5_sign_15 rfl ?_
    refine aw_fgetI X hM 8 (t := 0) (b := 942) (n := 0) rfl f_X5_160 dX5_sign_16 ?_
    refine aw_fiald X hM 6 (b := 870) (n := 60) rfl (870 + a) (by rw [hp.2.1]; exact vp_in_nI (by omega) (by decide)) (by rw [hp.2.1, nI_clamp (by omega)]) dX5_sign_19 ?_
    refine aw_goto (tgt := 24) X dX5_sign_20 (by decide) ?_
    exact aw_iret X hQ dX5_sign_24 ⟨congrArg (fun q => some (Value.int q)) (by rw [tM, if_pos han]), rfl⟩

set_option maxHeartbeats 200000 in
set_option maxRecDepth 100000 in
theorem c_X5_isNext (l : Launch) (U : xU) (μ0 : xH) (ma : Nat → Nat) (m : xV) (hM0 : FRep U μ0 ma 5 FM m) (lo hi : Int32) (n a : Nat) (hp : patM m n a) : CtF l U yX5_isNext cX5_isNext 3 (some .boolean) ({ frames := 1, cells := 0, slots := 0, locals := 22 } : Room) [.ref (ma 0), .int lo, .int hi] μ0 (bI (decide (m 943 = 0) && inB (tM m n a) lo hi)) := by
  refine Ct.of [some (.ref (ma 0)), some (.int lo), some (.int hi)] (by decide +kernel) rfl (Nat.le_of_ble_eq_true rfl) (fun K Q X hnm hQ => ?_)
  have hM := FR.rf hM0
  refine aw_aload_n X dX5_isNext_0 rfl ?_
  refine aw_fgetI X hM 9 (t := 1) (b := 943) (n := 0) rfl f_X5_163 dX5_isNext_1 ?_
  refine aw_if_ne (tgt := 23) X dX5_isNext_4 (by decide) (fun c4_1 => ?_) (fun c4_1 => ?_)
  · skip
    refine aw_iconst X (0) dX5_isNext_23 rfl ?_
    exact aw_zret X rfl hQ dX5_isNext_24 ⟨congrArg (fun q => some (Value.int q)) (by simp [bI, c4_1]), rfl⟩
  · skip
    refine aw_aload_n X dX5_isNext_7 rfl ?_
    refine aw_cVFF (As := []) X hM (c_X5_sign (kl K) U _ ma _ hM.1 n (a) hp) s_X5_167 k_X5_sign (by decide) ⟨rfl, rfl⟩ ⟨Nat.zero_le _, Nat.zero_le _⟩ rfl (by exact Nat.le_of_ble_eq_true rfl) rfl dX5_isNext_8 ?_
    refine aw_top ((tM m n (a))) ((fun _ => rfl) _) ?_
    refine aw_iload_n X dX5_isNext_11 rfl ?_
    refine aw_iload_n X dX5_isNext_12 rfl ?_
    refine aw_cSF (As := [.int _, .int _, .int _]) X (c_X5_in (kl K) U _ _ _ _) s_X5_59 k_X5_in (by decide) ⟨rfl, rfl⟩ ⟨Nat.zero_le _, Nat.zero_le _⟩ rfl (by exact Nat.le_of_ble_eq_true rfl) dX5_isNext_13 ?_
    refine aw_top (bI (inB (tM m n (a)) lo hi)) rfl ?_
    refine aw_bj (tgt := 23) (t2 := 24) X dX5_isNext_16 dX5_isNext_19 dX5_isNext_20 dX5_isNext_23 (by decide) (by decide) rfl ?_
    rw [bI_ne]
    exact aw_zret X (bI_nar _) hQ dX5_isNext_24 ⟨congrArg (fun q => some (Value.int q)) (by simp [bI, c4_1]), rfl⟩
