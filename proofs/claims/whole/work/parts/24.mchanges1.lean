/-! the model's changes: whether, and what -/
def mDo (e : Int32) (a : Int32 × xV) (m : xV) : Int32 × xV := if e = 0 then a else (e, m)
def inB (v a b : Int32) : Bool := decide (a ≤ v) && decide (v ≤ b)
theorem inB_tn {v b : Int32} {n : Nat} (hb : b = nI n) (hn : n < 2147483648) (h : inB v 0 b = true) : ∃ k, k ≤ n ∧ v = nI k ∧ tn v = k := by
  unfold inB at h
  simp only [Bool.and_eq_true, decide_eq_true_eq] at h
  subst hb
  obtain ⟨k, -, hk, e⟩ := rgN (lo := 0) (hi := n) hn (by omega) h
  exact ⟨k, hk, e, by rw [e, tn, nI_clamp (by omega)]⟩
theorem IV.cg {a b : xV} (e : ∀ k, k < 80 → b k = a k) (h : IV a) : IV b := by
  obtain ⟨⟨a0, a1, a2, a3, a4, a5⟩, a8, a12, a13, a7, aS, aH, aT⟩ := h
  refine ⟨⟨by rw [e 0 (by omega)]; exact a0, by rw [e 1 (by omega)]; exact a1, by rw [e 2 (by omega)]; exact a2, by rw [e 3 (by omega)]; exact a3, by rw [e 4 (by omega)]; exact a4, by rw [e 5 (by omega)]; exact a5⟩, by rw [e 8 (by omega)]; exact a8, by rw [e 12 (by omega)]; exact a12, by rw [e 13 (by omega)]; exact a13, by rw [e 7 (by omega)]; exact a7, fun g hg => by rw [e _ (by omega)]; exact aS g hg, fun i hi => ?_, fun p hp hl g hg => ?_⟩
  · rw [e (hz i 0) (by simp only [hz]; omega), e (hz i 1) (by simp only [hz]; omega), e (hz i 2) (by simp only [hz]; omega), e (hz i 3) (by simp only [hz]; omega), e 13 (by omega)]
    exact aH i hi
  · rw [e _ (by simp only [tz]; omega)]
    refine aT p hp ?_ g hg
    unfold live at hl ⊢
    rw [e 12 (by omega), e 13 (by omega)] at hl
    exact hl
def eSet (s v : Int32) : Int32 := if inB s 0 5 = false then -100002 else if inB v (xsV 1 (tn s)) (xsV 2 (tn s)) = false then -100002 else 0
def aSet (z : xV) (s v : Int32) : Int32 × xV := (z (tn s), upd z (tn s) v)
def eArr (z : xV) (a b c d : Int32) : Int32 := if inB a 0 400 = false ∨ inB b 0 400 = false ∨ inB c 0 400 = false ∨ inB d 0 400 = false ∨ a + b + c + d = 0 then -100002 else if z 12 = 5 then -100004 else 0
def aArr (z : xV) (wn : Nat) (a b c d : Int32) : Int32 × xV :=
  let z1 := upd z 12 (nI (wn + 1))
  let z2 := upd z1 (tz (wn + 1) 0) a
  let z3 := upd z2 (tz (wn + 1) 1) b
  let z4 := upd z3 (tz (wn + 1) 2) c
  let z5 := upd z4 (tz (wn + 1) 3) d
  let z6 := upd z5 (tz (wn + 1) 4) (z5 6)
  (nI (wn + 1), z6)
def eBer (z : xV) : Int32 := if z 12 = 0 ∨ z 13 = 1 ∨ cFloats z (cDraught z 1) (z 6) = false then -100005 else 0
def mBer (z : xV) : Int32 × xV :=
  let z1 := xcp z 50 55 25
  let z2 := upd z1 12 (z1 12 - 1)
  let z3 := upd z2 13 1
  (cUnits z3 0, z3)
def eLea (z : xV) : Int32 := if z 13 = 0 ∨ cFloats z (cDraught z 0) (z 6) = false ∨ 0 < cConnN z then -100005 else 0
def aLea (z : xV) : Int32 × xV := (cUnits z 0, upd z 13 0)
def eRea (h v : Int32) : Int32 := if isG h = false then -100001 else if inB v 20 120 = false then -100002 else 0
def aRea (z : xV) (h v : Int32) : Int32 × xV := (z (hz (tn h) 0), upd z (hz (tn h) 0) v)
def kCon (z : xV) (i : Nat) : Bool := decide (z 13 = 1) && decide (z (hz i 3) = 0) && !isG (z (hz i 2)) && decide (cHeight z (cDraught z 0) (z 6) ≤ z (hz i 0))
def eCon (z : xV) (h g : Int32) : Int32 := if isG h = false ∨ isG g = false then -100001 else if kCon z (tn h) = false then -100005 else 0
def aCon (z : xV) (i : Nat) (g : Int32) : Int32 × xV :=
  let z1 := upd z (hz i 2) g
  (cConnN z1, z1)
def eDis (z : xV) (h : Int32) : Int32 := if isG h = false then -100001 else if isG (z (hz (tn h) 2)) = false then -100005 else 0
def aDis (z : xV) (i : Nat) : Int32 × xV := (z (hz i 2), upd z (hz i 2) (-100006))
def kFlu (z : xV) (i : Nat) : Bool := !isG (z (hz i 2)) && isG (z (hz i 1))
def eFlu (z : xV) (h : Int32) : Int32 := if isG h = false then -100001 else if kFlu z (tn h) = false then -100005 else 0
def aFlu (z : xV) (i : Nat) : Int32 × xV :=
  let g := z (hz i 1)
  let u := imin 5 (z (14 + tn g))
  let z1 := upd z (14 + tn g) (z (14 + tn g) - u)
  let z2 := upd z1 (18 + tn g) (z1 (18 + tn g) + u)
  (u, upd z2 (hz i 1) (-100006))
def eMen (z : xV) (h : Int32) : Int32 := if isG h = false then -100001 else if z (hz (tn h) 3) = 0 then -100005 else 0
def aMen (z : xV) (i : Nat) : Int32 × xV :=
  let z1 := upd z (hz i 3) 0
  let z2 := upd z1 (hz i 1) (-100006)
  (cBurstN z2, z2)
def eBoo (z : xV) (b : Int32) : Int32 := if z 7 = b then -100005 else 0
def aBoo (z : xV) (b : Int32) : Int32 × xV :=
  let z1 := upd z 10 (z 10 + z 8)
  let z2 := upd z1 8 0
  (z 8, upd z2 7 b)
def eDra (z : xV) (g u : Int32) : Int32 := if isG g = false then -100001 else if inB u 1 1000 = false then -100002 else if z (14 + tn g) < u then -100005 else 0
def aDra (z : xV) (g u : Int32) : Int32 × xV := (z (14 + tn g) - u, upd z (14 + tn g) (z (14 + tn g) - u))
def ePas (z : xV) (n : Int32) : Int32 := if inB n 1 48 = false then -100002 else if 9999 < z 6 + n then -100004 else 0
theorem hivr {m z : xV} {kn : Nat} (hk : kn ≤ 6) (e : z = mRec m kn) : ∀ j, j < 200 → z j = m j := fun j hj => by rw [e]; exact mRec_lt hk (Or.inl hj)
set_option maxHeartbeats 1000000 in
set_option maxRecDepth 100000 in
theorem c_X5_lowest (l : Launch) (U : xU) (μ : xH) (s : Int32) (sn : Nat) (hs : s = nI sn) (hsn : sn < 6) : CtF l U yX5_lowest cX5_lowest 1 (some .int) ({ frames := 0, cells := 0, slots := 0, locals := 0 } : Room) [.int s] μ (xsV 1 sn) := by
  refine Ct.of [some (.int s)] (by decide +kernel) rfl (Nat.le_of_ble_eq_true rfl) (fun K Q X hnm hQ => ?_)
  subst hs
  by_cases e0 : sn = 0
  · subst e0
    refine aw_iload_n X dX5_lowest_0 rfl ?_
    refine aw_if_ne_f (tgt := 9) X dX5_lowest_1 (by decide) (by decide) ?_
    refine aw_bipush X (50) dX5_lowest_4 rfl ?_
    refine aw_goto (tgt := 24) X dX5_lowest_6 (by decide) ?_
    exact aw_iret X hQ dX5_lowest_24 ⟨rfl, rfl⟩
  by_cases e1 : sn = 1
  · subst e1
    refine aw_iload_n X dX5_lowest_0 rfl ?_
    refine aw_if_ne_t (tgt := 9) X dX5_lowest_1 (by decide) (by decide) ?_
    refine aw_iload_n X dX5_lowest_9 rfl ?_
    refine aw_iconst X (3) dX5_lowest_10 rfl ?_
    refine aw_icmp_eq_f (tgt := 19) X dX5_lowest_11 (by decide) (by decide) ?_
    refine aw_iload_n X dX5_lowest_14 rfl ?_
    refine aw_iconst X (5) dX5_lowest_15 rfl ?_
    refine aw_icmp_ne_t (tgt := 23) X dX5_lowest_16 (by decide) (by decide) ?_
    refine aw_iconst X (0) dX5_lowest_23 rfl ?_
    exact aw_iret X hQ dX5_lowest_24 ⟨rfl, rfl⟩
  by_cases e2 : sn = 2
  · subst e2
    refine aw_iload_n X dX5_lowest_0 rfl ?_
    refine aw_if_ne_t (tgt := 9) X dX5_lowest_1 (by decide) (by decide) ?_
    refine aw_iload_n X dX5_lowest_9 rfl ?_
    refine aw_iconst X (3) dX5_lowest_10 rfl ?_
    refine aw_icmp_eq_f (tgt := 19) X dX5_lowest_11 (by decide) (by decide) ?_
    refine aw_iload_n X dX5_lowest_14 rfl ?_
    refine aw_iconst X (5) dX5_lowest_15 rfl ?_
    refine aw_icmp_ne_t (tgt := 23) X dX5_lowest_16 (by decide) (by decide) ?_
    refine aw_iconst X (0) dX5_lowest_23 rfl ?_
    exact aw_iret X hQ dX5_lowest_24 ⟨rfl, rfl⟩
  by_cases e3 : sn = 3
  · subst e3
    refine aw_iload_n X dX5_lowest_0 rfl ?_
    refine aw_if_ne_t (tgt := 9) X dX5_lowest_1 (by decide) (by decide) ?_
    refine aw_iload_n X dX5_lowest_9 rfl ?_
    refine aw_iconst X (3) dX5_lowest_10 rfl ?_
    refine aw_icmp_eq_t (tgt := 19) X dX5_lowest_11 (by decide) (by decide) ?_
    refine aw_iconst X (1) dX5_lowest_19 rfl ?_
    refine aw_goto (tgt := 24) X dX5_lowest_20 (by decide) ?_
    exact aw_iret X hQ dX5_lowest_24 ⟨rfl, rfl⟩
  by_cases e4 : sn = 4
  · subst e4
    refine aw_iload_n X dX5_lowest_0 rfl ?_
    refine aw_if_ne_t (tgt := 9) X dX5_lowest_1 (by decide) (by decide) ?_
    refine aw_iload_n X dX5_lowest_9 rfl ?_
    refine aw_iconst X (3) dX5_lowest_10 rfl ?_
    refine aw_icmp_eq_f (tgt := 19) X dX5_lowest_11 (by decide) (by decide) ?_
    refine aw_iload_n X dX5_lowest_14 rfl ?_
    refine aw_iconst X (5) dX5_lowest_15 rfl ?_
    refine aw_icmp_ne_t (tgt := 23) X dX5_lowest_16 (by decide) (by decide) ?_
    refine aw_iconst X (0) dX5_lowest_23 rfl ?_
    exact aw_iret X hQ dX5_lowest_24 ⟨rfl, rfl⟩
  by_cases e5 : sn = 5
  · subst e5
    refine aw_iload_n X dX5_lowest_0 rfl ?_
    refine aw_if_ne_t (tgt := 9) X dX5_lowest_1 (by decide) (by decide) ?_
    refine aw_iload_n X dX5_lowest_9 rfl ?_
    refine aw_iconst X (3) dX5_lowest_10 rfl ?_
    refine aw_icmp_eq_f (tgt := 19) X dX5_lowest_11 (by decide) (by decide) ?_
    refine aw_iload_n X dX5_lowest_14 rfl ?_
    refine aw_iconst X (5) dX5_lowest_15 rfl ?_
    refine aw_icmp_ne_f (tgt := 23) X dX5_lowest_16 (by decide) (by decide) ?_
    refine aw_iconst X (1) dX5_lowest_19 rfl ?_
    refine aw_goto (tgt := 24) X dX5_lowest_20 (by decide) ?_
    exact aw_iret X hQ dX5_lowest_24 ⟨rfl, rfl⟩
  exact absurd hsn (by omega)

set_option maxHeartbeats 1000000 in
set_option maxRecDepth 100000 in
theorem c_X5_highest (l : Launch) (U : xU) (μ : xH) (s : Int32) (sn : Nat) (hs : s = nI sn) (hsn : sn < 6) : CtF l U yX5_highest cX5_highest 1 (some .int) ({ frames := 0, cells := 0, slots := 0, locals := 0 } : Room) [.int s] μ (xsV 2 sn) := by
  refine Ct.of [some (.int s)] (by decide +kernel) rfl (Nat.le_of_ble_eq_true rfl) (fun K Q X hnm hQ => ?_)
  subst hs
  by_cases e0 : sn = 0
  · subst e0
    refine aw_iload_n X dX5_highest_0 rfl ?_
    refine aw_tableV (tgt := 32) X (0) rfl dX5_highest_1 (by decide) (by decide) rfl (by decide) ?_
    refine aw_sipush X (150) dX5_highest_32 rfl ?_
    exact aw_iret X hQ dX5_highest_35 ⟨rfl, rfl⟩
  by_cases e1 : sn = 1
  · subst e1
    refine aw_iload_n X dX5_highest_0 rfl ?_
    refine aw_tableV (tgt := 36) X (1) rfl dX5_highest_1 (by decide) (by decide) rfl (by decide) ?_
    refine aw_bipush X (40) dX5_highest_36 rfl ?_
    exact aw_iret X hQ dX5_highest_38 ⟨rfl, rfl⟩
  by_cases e2 : sn = 2
  · subst e2
    refine aw_iload_n X dX5_highest_0 rfl ?_
    refine aw_tableV (tgt := 39) X (2) rfl dX5_highest_1 (by decide) (by decide) rfl (by decide) ?_
    refine aw_bipush X (20) dX5_highest_39 rfl ?_
    exact aw_iret X hQ dX5_highest_41 ⟨rfl, rfl⟩
  by_cases e3 : sn = 3
  · subst e3
    refine aw_iload_n X dX5_highest_0 rfl ?_
    refine aw_tableV (tgt := 36) X (3) rfl dX5_highest_1 (by decide) (by decide) rfl (by decide) ?_
    refine aw_bipush X (40) dX5_highest_36 rfl ?_
    exact aw_iret X hQ dX5_highest_38 ⟨rfl, rfl⟩
  by_cases e4 : sn = 4
  · subst e4
    refine aw_iload_n X dX5_highest_0 rfl ?_
    refine aw_tableOut (tgt := 42) X dX5_highest_1 (by decide) (by decide) ?_
    refine aw_bipush X (99) dX5_highest_42 rfl ?_
    exact aw_iret X hQ dX5_highest_44 ⟨rfl, rfl⟩
  by_cases e5 : sn = 5
  · subst e5
    refine aw_iload_n X dX5_highest_0 rfl ?_
    refine aw_tableOut (tgt := 42) X dX5_highest_1 (by decide) (by decide) ?_
    refine aw_bipush X (99) dX5_highest_42 rfl ?_
    exact aw_iret X hQ dX5_highest_44 ⟨rfl, rfl⟩
  exact absurd hsn (by omega)

set_option maxHeartbeats 1000000 in
set_option maxRecDepth 100000 in
theorem c_X5_set (l : Launch) (U : xU) (μ0 : xH) (ma : Nat → Nat) (m : xV) (hM0 : FRep U μ0 ma 5 FM m) (hiv : IV m) (h80 : ∀ i, i < 4 → m (80 + i) = 0) (hn : Nat) (h6 : m 6 = nI hn) (hb : hn ≤ 9999) (kn : Nat) (hkn : kn ≤ 6) (hk9 : m 940 = nI kn) (s v : Int32) : CtFR l U yX5_set cX5_set 4 (some .int) ({ frames := 1, cells := 0, slots := 0, locals := 22 } : Room) [.ref (ma 0), .int s, .int v] μ0 ma 5 FM (mDo (eSet s v) (aSet (mRec m kn) s v) m).1 (mDo (eSet s v) (aSet (mRec m kn) s v) m).2 := by
  refine Ct.of [some (.ref (ma 0)), some (.int s), some (.int v), none] (by decide +kernel) rfl (Nat.le_of_ble_eq_true rfl) (fun K Q X hnm hQ => ?_)
  have hM := FR.rf hM0
  refine aw_iload_n X dX5_set_0 rfl ?_
  refine aw_iconst X (0) dX5_set_1 rfl ?_
  refine aw_iconst X (5) dX5_set_2 rfl ?_
  refine aw_cSF (As := [.int _, .int _, .int _]) X (c_X5_in (kl K) U _ _ _ _) s_X5_59 k_X5_in (by decide) ⟨rfl, rfl⟩ ⟨Nat.zero_le _, Nat.zero_le _⟩ rfl (by exact Nat.le_of_ble_eq_true rfl) dX5_set_3 ?_
  refine aw_top (bI (inB s (0 : Int32) (5 : Int32))) rfl ?_
  refine aw_b_eq (tgt := 24) X dX5_set_6 (by decide) (fun c6_1 => ?_) (fun c6_1 => ?_)
  · skip
    refine aw_ldc X dX5_set_24 a_X5_99 ?_
    exact aw_iret X hQ dX5_set_26 ⟨congrArg (fun q => some (Value.int q)) (by simp [mDo, eSet, aSet, c6_1]), hM.to (by simp [mDo, eSet, aSet, c6_1])⟩
  · skip
    obtain ⟨sn, hsn0, es, ets⟩ := inB_tn (n := 5) rfl (by decide) c6_1
    have hsn : sn < 6 := by omega
    refine aw_iload_n X dX5_set_9 rfl ?_
    refine aw_iload_n X dX5_set_10 rfl ?_
    refine aw_cSF (As := [.int _]) X (c_X5_lowest (kl K) U _ _ sn es hsn) s_X5_93 k_X5_lowest (by decide) ⟨rfl, rfl⟩ ⟨Nat.zero_le _, Nat.zero_le _⟩ rfl (by exact Nat.le_of_ble_eq_true rfl) dX5_set_11 ?_
    refine aw_iload_n X dX5_set_14 rfl ?_
    refine aw_cSF (As := [.int _]) X (c_X5_highest (kl K) U _ _ sn es hsn) s_X5_96 k_X5_highest (by decide) ⟨rfl, rfl⟩ ⟨Nat.zero_le _, Nat.zero_le _⟩ rfl (by exact Nat.le_of_ble_eq_true rfl) dX5_set_15 ?_
    refine aw_cSF (As := [.int _, .int _, .int _]) X (c_X5_in (kl K) U _ _ _ _) s_X5_59 k_X5_in (by decide) ⟨rfl, rfl⟩ ⟨Nat.zero_le _, Nat.zero_le _⟩ rfl (by exact Nat.le_of_ble_eq_true rfl) dX5_set_18 ?_
    refine aw_top (bI (inB v (xsV 1 sn) (xsV 2 sn))) rfl ?_
    refine aw_b_ne (tgt := 27) X dX5_set_21 (by decide) (fun c21_2 => ?_) (fun c21_2 => ?_)
    · skip
      refine aw_aload_n X dX5_set_27 rfl ?_
      refine aw_cVFK (As := []) X hM (c_X5_record (kl K) U _ ma _ hM.1 kn hkn hk9) s_X5_100 k_X5_record (by decide) ⟨rfl, rfl⟩ ⟨Nat.zero_le _, Nat.zero_le _⟩ rfl (by exact Nat.le_of_ble_eq_true rfl) rfl dX5_set_28 (fun μ z_3 ez_3 hM => ?_)
      have hr : ∀ j, j < 200 → z_3 j = m j := hivr hkn ez_3
      have hivr1 : IV z_3 := hiv.cg (fun k hk => hr k (by omega))
      have h6r : z_3 6 = nI hn := by rw [hr 6 (by omega)]; exact h6
      have h80r : ∀ i, i < 4 → z_3 (80 + i) = 0 := fun i hi => by rw [hr _ (by omega)]; exact h80 i hi
      refine aw_aload_n X dX5_set_31 rfl ?_
      refine aw_fgetA X hM 0 (t := 0) (b := 0) (n := 80) rfl f_X5_7 dX5_set_32 ?_
      refine aw_iload_n X dX5_set_35 rfl ?_
      refine aw_fiald X hM 0 (b := 0) (n := 80) rfl sn (by rw [es]; exact vp_in_nI (by omega) (by decide)) (by rw [Nat.zero_add]; exact ets) dX5_set_36 ?_
      refine aw_istore_n X dX5_set_37 rfl (by decide) ?_
      refine aw_aload_n X dX5_set_38 rfl ?_
      refine aw_fgetA X hM 0 (t := 0) (b := 0) (n := 80) rfl f_X5_7 dX5_set_39 ?_
      refine aw_iload_n X dX5_set_42 rfl ?_
      refine aw_iload_n X dX5_set_43 rfl ?_
      refine aw_fiast X FM_a hM 0 (b := 0) (n := 80) rfl sn (by rw [es]; exact vp_in_nI (by omega) (by decide)) (by rw [Nat.zero_add]; exact ets) dX5_set_44 (fun μ z_4 ez_4 hM => ?_)
      refine aw_iload_n X dX5_set_45 rfl ?_
      exact aw_iret X hQ dX5_set_46 ⟨congrArg (fun q => some (Value.int q)) (by subst ez_3 ez_4; simp [mDo, eSet, aSet, c6_1, c21_2, ets]), hM.to (by subst ez_3 ez_4; simp [mDo, eSet, aSet, c6_1, c21_2, ets])⟩
    · skip
      refine aw_ldc X dX5_set_24 a_X5_99 ?_
      exact aw_iret X hQ dX5_set_26 ⟨congrArg (fun q => some (Value.int q)) (by simp [mDo, eSet, aSet, c6_1, c21_2, ets]), hM.to (by simp [mDo, eSet, aSet, c6_1, c21_2, ets])⟩

set_option maxHeartbeats 1000000 in
set_option maxRecDepth 100000 in
theorem c_X5_doArrive (l : Launch) (U : xU) (μ0 : xH) (ma : Nat → Nat) (m : xV) (hM0 : FRep U μ0 ma 5 FM m) (hiv : IV m) (wn : Nat) (h12 : m 12 = nI wn) (hwn : wn < 5) (a b c d : Int32) : CtFR l U yX5_doArrive cX5_doArrive 5 (some .int) ({ frames := 1, cells := 0, slots := 0, locals := 23 } : Room) [.ref (ma 0), .int a, .int b, .int c, .int d] μ0 ma 5 FM (aArr m wn a b c d).1 (aArr m wn a b c d).2 := by
  refine Ct.of [some (.ref (ma 0)), some (.int a), some (.int b), some (.int c), some (.int d)] (by decide +kernel) rfl (Nat.le_of_ble_eq_true rfl) (fun K Q X hnm hQ => ?_)
  have hM := FR.rf hM0
  refine aw_aload_n X dX5_doArrive_0 rfl ?_
  refine aw_fgetA X hM 0 (t := 0) (b := 0) (n := 80) rfl f_X5_7 dX5_doArrive_1 ?_
  refine aw_bipush X (12) dX5_doArrive_4 rfl ?_
  refine aw_dup2 X dX5_doArrive_6 rfl rfl ?_
  refine aw_fiald X hM 0 (b := 0) (n := 80) rfl 12 (xin_d rfl) (by decide) dX5_doArrive_7 ?_
  refine aw_iconst X (1) dX5_doArrive_8 rfl ?_
  refine aw_iadd X dX5_doArrive_9 ?_
  refine aw_top (nI (wn + 1)) (by rw [h12, nI_1]) ?_
  refine aw_fiast X FM_a hM 0 (b := 0) (n := 80) rfl 12 (xin_d rfl) (by decide) dX5_doArrive_10 (fun μ z_1 ez_1 hM => ?_)
  have h12z_1 : z_1 12 = nI (wn + 1) := by rw [ez_1, upd_s]
  refine aw_aload_n X dX5_doArrive_11 rfl ?_
  refine aw_aload_n X dX5_doArrive_12 rfl ?_
  refine aw_fgetA X hM 0 (t := 0) (b := 0) (n := 80) rfl f_X5_7 dX5_doArrive_13 ?_
  refine aw_bipush X (12) dX5_doArrive_16 rfl ?_
  refine aw_fiald X hM 0 (b := 0) (n := 80) rfl 12 (xin_d rfl) (by decide) dX5_doArrive_18 ?_
  refine aw_top (nI (wn + 1)) h12z_1 ?_
  refine aw_iconst X (0) dX5_doArrive_19 rfl ?_
  refine aw_iload_n X dX5_doArrive_20 rfl ?_
  refine aw_cVFK (As := [.int _, .int _, .int _]) X hM (c_X5_setTanker (kl K) U _ ma _ hM.1 _ _ _ (wn + 1) 0 rfl rfl (by omega) (by decide)) s_X5_73 k_X5_setTanker (by decide) ⟨rfl, rfl⟩ ⟨Nat.zero_le _, Nat.zero_le _⟩ rfl (by exact Nat.le_of_ble_eq_true rfl) rfl dX5_doArrive_21 (fun μ z_2 ez_2 hM => ?_)
  have h12z_2 : z_2 12 = nI (wn + 1) := by rw [ez_2, upd_n (by simp only [tz]; omega)]; exact h12z_1
  refine aw_aload_n X dX5_doArrive_24 rfl ?_
  refine aw_aload_n X dX5_doArrive_25 rfl ?_
  refine aw_fgetA X hM 0 (t := 0) (b := 0) (n := 80) rfl f_X5_7 dX5_doArrive_26 ?_
  refine aw_bipush X (12) dX5_doArrive_29 rfl ?_
  refine aw_fiald X hM 0 (b := 0) (n := 80) rfl 12 (xin_d rfl) (by decide) dX5_doArrive_31 ?_
  refine aw_top (nI (wn + 1)) h12z_2 ?_
  refine aw_iconst X (1) dX5_doArrive_32 rfl ?_
  refine aw_iload_n X dX5_doArrive_33 rfl ?_
  refine aw_cVFK (As := [.int _, .int _, .int _]) X hM (c_X5_setTanker (kl K) U _ ma _ hM.1 _ _ _ (wn + 1) 1 rfl rfl (by omega) (by decide)) s_X5_73 k_X5_setTanker (by decide) ⟨rfl, rfl⟩ ⟨Nat.zero_le _, Nat.zero_le _⟩ rfl (by exact Nat.le_of_ble_eq_true rfl) rfl dX5_doArrive_34 (fun μ z_3 ez_3 hM => ?_)
  have h12z_3 : z_3 12 = nI (wn + 1) := by rw [ez_3, upd_n (by simp only [tz]; omega)]; exact h12z_2
  refine aw_aload_n X dX5_doArrive_37 rfl ?_
  refine aw_aload_n X dX5_doArrive_38 rfl ?_
  refine aw_fgetA X hM 0 (t := 0) (b := 0) (n := 80) rfl f_X5_7 dX5_doArrive_39 ?_
  refine aw_bipush X (12) dX5_doArrive_42 rfl ?_
  refine aw_fiald X hM 0 (b := 0) (n := 80) rfl 12 (xin_d rfl) (by decide) dX5_doArrive_44 ?_
  refine aw_top (nI (wn + 1)) h12z_3 ?_
  refine aw_iconst X (2) dX5_doArrive_45 rfl ?_
  refine aw_iload_n X dX5_doArrive_46 rfl ?_
  refine aw_cVFK (As := [.int _, .int _, .int _]) X hM (c_X5_setTanker (kl K) U _ ma _ hM.1 _ _ _ (wn + 1) 2 rfl rfl (by omega) (by decide)) s_X5_73 k_X5_setTanker (by decide) ⟨rfl, rfl⟩ ⟨Nat.zero_le _, Nat.zero_le _⟩ rfl (by exact Nat.le_of_ble_eq_true rfl) rfl dX5_doArrive_47 (fun μ z_4 ez_4 hM => ?_)
  have h12z_4 : z_4 12 = nI (wn + 1) := by rw [ez_4, upd_n (by simp only [tz]; omega)]; exact h12z_3
  refine aw_aload_n X dX5_doArrive_50 rfl ?_
  refine aw_aload_n X dX5_doArrive_51 rfl ?_
  refine aw_fgetA X hM 0 (t := 0) (b := 0) (n := 80) rfl f_X5_7 dX5_doArrive_52 ?_
  refine aw_bipush X (12) dX5_doArrive_55 rfl ?_
  refine aw_fiald X hM 0 (b := 0) (n := 80) rfl 12 (xin_d rfl) (by decide) dX5_doArrive_57 ?_
  refine aw_top (nI (wn + 1)) h12z_4 ?_
  refine aw_iconst X (3) dX5_doArrive_58 rfl ?_
  refine aw_iload X dX5_doArrive_59 rfl ?_
  refine aw_cVFK (As := [.int _, .int _, .int _]) X hM (c_X5_setTanker (kl K) U _ ma _ hM.1 _ _ _ (wn + 1) 3 rfl rfl (by omega) (by decide)) s_X5_73 k_X5_setTanker (by decide) ⟨rfl, rfl⟩ ⟨Nat.zero_le _, Nat.zero_le _⟩ rfl (by exact Nat.le_of_ble_eq_true rfl) rfl dX5_doArrive_61 (fun μ z_5 ez_5 hM => ?_)
  have h12z_5 : z_5 12 = nI (wn + 1) := by rw [ez_5, upd_n (by simp only [tz]; omega)]; exact h12z_4
  refine aw_aload_n X dX5_doArrive_64 rfl ?_
  refine aw_aload_n X dX5_doArrive_65 rfl ?_
  refine aw_fgetA X hM 0 (t := 0) (b := 0) (n := 80) rfl f_X5_7 dX5_doArrive_66 ?_
  refine aw_bipush X (12) dX5_doArrive_69 rfl ?_
  refine aw_fiald X hM 0 (b := 0) (n := 80) rfl 12 (xin_d rfl) (by decide) dX5_doArrive_71 ?_
  refine aw_top (nI (wn + 1)) h12z_5 ?_
  refine aw_iconst X (4) dX5_doArrive_72 rfl ?_
  refine aw_aload_n X dX5_doArrive_73 rfl ?_
  refine aw_fgetA X hM 0 (t := 0) (b := 0) (n := 80) rfl f_X5_7 dX5_doArrive_74 ?_
  refine aw_bipush X (6) dX5_doArrive_77 rfl ?_
  refine aw_fiald X hM 0 (b := 0) (n := 80) rfl 6 (xin_d rfl) (by decide) dX5_doArrive_79 ?_
  refine aw_cVFK (As := [.int _, .int _, .int _]) X hM (c_X5_setTanker (kl K) U _ ma _ hM.1 _ _ _ (wn + 1) 4 rfl rfl (by omega) (by decide)) s_X5_73 k_X5_setTanker (by decide) ⟨rfl, rfl⟩ ⟨Nat.zero_le _, Nat.zero_le _⟩ rfl (by exact Nat.le_of_ble_eq_true rfl) rfl dX5_doArrive_80 (fun μ z_6 ez_6 hM => ?_)
  have h12z_6 : z_6 12 = nI (wn + 1) := by rw [ez_6, upd_n (by simp only [tz]; omega)]; exact h12z_5
  refine aw_aload_n X dX5_doArrive_83 rfl ?_
  refine aw_fgetA X hM 0 (t := 0) (b := 0) (n := 80) rfl f_X5_7 dX5_doArrive_84 ?_
  refine aw_bipush X (12) dX5_doArrive_87 rfl ?_
  refine aw_fiald X hM 0 (b := 0) (n := 80) rfl 12 (xin_d rfl) (by decide) dX5_doArrive_89 ?_
  refine aw_top (nI (wn + 1)) h12z_6 ?_
  exact aw_iret X hQ dX5_doArrive_90 ⟨congrArg (fun q => some (Value.int q)) (by subst ez_1 ez_2 ez_3 ez_4 ez_5 ez_6; rfl), hM.to (by subst ez_1 ez_2 ez_3 ez_4 ez_5 ez_6; rfl)⟩

set_option maxHeartbeats 1000000 in
set_option maxRecDepth 100000 in
theorem c_X5_arrive (l : Launch) (U : xU) (μ0 : xH) (ma : Nat → Nat) (m : xV) (hM0 : FRep U μ0 ma 5 FM m) (hiv : IV m) (h80 : ∀ i, i < 4 → m (80 + i) = 0) (hn : Nat) (h6 : m 6 = nI hn) (hb : hn ≤ 9999) (kn : Nat) (hkn : kn ≤ 6) (hk9 : m 940 = nI kn) (a b c d : Int32) : CtFR l U yX5_arrive cX5_arrive 5 (some .int) ({ frames := 2, cells := 0, slots := 0, locals := 47 } : Room) [.ref (ma 0), .int a, .int b, .int c, .int d] μ0 ma 5 FM (mDo (eArr m a b c d) (aArr (mRec m kn) (tn (m 12)) a b c d) m).1 (mDo (eArr m a b c d) (aArr (mRec m kn) (tn (m 12)) a b c d) m).2 := by
  refine Ct.of [some (.ref (ma 0)), some (.int a), some (.int b), some (.int c), some (.int d)] (by decide +kernel) rfl (Nat.le_of_ble_eq_true rfl) (fun K Q X hnm hQ => ?_)
  have hM := FR.rf hM0
  refine aw_iload_n X dX5_arrive_0 rfl ?_
  refine aw_iconst X (0) dX5_arrive_1 rfl ?_
  refine aw_sipush X (400) dX5_arrive_2 rfl ?_
  refine aw_cSF (As := [.int _, .int _, .int _]) X (c_X5_in (kl K) U _ _ _ _) s_X5_59 k_X5_in (by decide) ⟨rfl, rfl⟩ ⟨Nat.zero_le _, Nat.zero_le _⟩ rfl (by exact Nat.le_of_ble_eq_true rfl) dX5_arrive_5 ?_
  refine aw_top (bI (inB a (0 : Int32) (400 : Int32))) rfl ?_
  refine aw_b_eq (tgt := 56) X dX5_arrive_8 (by decide) (fun c8_1 => ?_) (fun c8_1 => ?_)
  · skip
    refine aw_ldc X dX5_arrive_56 a_X5_99 ?_
    exact aw_iret X hQ dX5_arrive_58 ⟨congrArg (fun q => some (Value.int q)) (by simp [mDo, eArr, c8_1]), hM.to (by simp [mDo, eArr, c8_1])⟩
  · skip
    refine aw_iload_n X dX5_arrive_11 rfl ?_
    refine aw_iconst X (0) dX5_arrive_12 rfl ?_
    refine aw_sipush X (400) dX5_arrive_13 rfl ?_
    refine aw_cSF (As := [.int _, .int _, .int _]) X (c_X5_in (kl K) U _ _ _ _) s_X5_59 k_X5_in (by decide) ⟨rfl, rfl⟩ ⟨Nat.zero_le _, Nat.zero_le _⟩ rfl (by exact Nat.le_of_ble_eq_true rfl) dX5_arrive_16 ?_
    refine aw_top (bI (inB b (0 : Int32) (400 : Int32))) rfl ?_
    refine aw_b_eq (tgt := 56) X dX5_arrive_19 (by decide) (fun c19_2 => ?_) (fun c19_2 => ?_)
    · skip
      refine aw_ldc X dX5_arrive_56 a_X5_99 ?_
      exact aw_iret X hQ dX5_arrive_58 ⟨congrArg (fun q => some (Value.int q)) (by simp [mDo, eArr, c8_1, c19_2]), hM.to (by simp [mDo, eArr, c8_1, c19_2])⟩
    · skip
      refine aw_iload_n X dX5_arrive_22 rfl ?_
      refine aw_iconst X (0) dX5_arrive_23 rfl ?_
      refine aw_sipush X (400) dX5_arrive_24 rfl ?_
      refine aw_cSF (As := [.int _, .int _, .int _]) X (c_X5_in (kl K) U _ _ _ _) s_X5_59 k_X5_in (by decide) ⟨rfl, rfl⟩ ⟨Nat.zero_le _, Nat.zero_le _⟩ rfl (by exact Nat.le_of_ble_eq_true rfl) dX5_arrive_27 ?_
      refine aw_top (bI (inB c (0 : Int32) (400 : Int32))) rfl ?_
      refine aw_b_eq (tgt := 56) X dX5_arrive_30 (by decide) (fun c30_3 => ?_) (fun c30_3 => ?_)
      · skip
        refine aw_ldc X dX5_arrive_56 a_X5_99 ?_
        exact aw_iret X hQ dX5_arrive_58 ⟨congrArg (fun q => some (Value.int q)) (by simp [mDo, eArr, c8_1, c19_2, c30_3]), hM.to (by simp [mDo, eArr, c8_1, c19_2, c30_3])⟩
      · skip
        refine aw_iload X dX5_arrive_33 rfl ?_
        refine aw_iconst X (0) dX5_arrive_35 rfl ?_
        refine aw_sipush X (400) dX5_arrive_36 rfl ?_
        refine aw_cSF (As := [.int _, .int _, .int _]) X (c_X5_in (kl K) U _ _ _ _) s_X5_59 k_X5_in (by decide) ⟨rfl, rfl⟩ ⟨Nat.zero_le _, Nat.zero_le _⟩ rfl (by exact Nat.le_of_ble_eq_true rfl) dX5_arrive_39 ?_
        refine aw_top (bI (inB d (0 : Int32) (400 : Int32))) rfl ?_
        refine aw_b_eq (tgt := 56) X dX5_arrive_42 (by decide) (fun c42_4 => ?_) (fun c42_4 => ?_)
        · skip
          refine aw_ldc X dX5_arrive_56 a_X5_99 ?_
          exact aw_iret X hQ dX5_arrive_58 ⟨congrArg (fun q => some (Value.int q)) (by simp [mDo, eArr, c8_1, c19_2, c30_3, c42_4]), hM.to (by simp [mDo, eArr, c8_1, c19_2, c30_3, c42_4])⟩
        · skip
          refine aw_iload_n X dX5_arrive_45 rfl ?_
          refine aw_iload_n X dX5_arrive_46 rfl ?_
          refine aw_iadd X dX5_arrive_47 ?_
          refine aw_iload_n X dX5_arrive_48 rfl ?_
          refine aw_iadd X dX5_arrive_49 ?_
          refine aw_iload X dX5_arrive_50 rfl ?_
          refine aw_iadd X dX5_arrive_52 ?_
          refine aw_if_ne (tgt := 59) X dX5_arrive_53 (by decide) (fun c53_5 => ?_) (fun c53_5 => ?_)
          · skip
            refine aw_aload_n X dX5_arrive_59 rfl ?_
            refine aw_fgetA X hM 0 (t := 0) (b := 0) (n := 80) rfl f_X5_7 dX5_arrive_60 ?_
            refine aw_bipush X (12) dX5_arrive_63 rfl ?_
            refine aw_fiald X hM 0 (b := 0) (n := 80) rfl 12 (xin_d rfl) (by decide) dX5_arrive_65 ?_
            refine aw_iconst X (5) dX5_arrive_66 rfl ?_
            refine aw_icmp_ne (tgt := 73) X dX5_arrive_67 (by decide) (fun c67_6 => ?_) (fun c67_6 => ?_)
            · skip
              obtain ⟨wn, -, hwn5, h12⟩ := rgN (lo := 0) (hi := 5) (by decide) (by decide) hiv.2.2.1
              have etw : tn (m 12) = wn := by rw [h12, tn, nI_clamp (by omega)]
              have hwn : wn < 5 := by
                rcases Nat.lt_or_ge wn 5 with q | q
                · exact q
                · exact absurd (by rw [h12, show wn = 5 by omega]; rfl) c67_6
              refine aw_aload_n X dX5_arrive_73 rfl ?_
              refine aw_cVFK (As := []) X hM (c_X5_record (kl K) U _ ma _ hM.1 kn hkn hk9) s_X5_100 k_X5_record (by decide) ⟨rfl, rfl⟩ ⟨Nat.zero_le _, Nat.zero_le _⟩ rfl (by exact Nat.le_of_ble_eq_true rfl) rfl dX5_arrive_74 (fun μ z_7 ez_7 hM => ?_)
              have hr : ∀ j, j < 200 → z_7 j = m j := hivr hkn ez_7
              have hivr1 : IV z_7 := hiv.cg (fun k hk => hr k (by omega))
              have h6r : z_7 6 = nI hn := by rw [hr 6 (by omega)]; exact h6
              have h80r : ∀ i, i < 4 → z_7 (80 + i) = 0 := fun i hi => by rw [hr _ (by omega)]; exact h80 i hi
              refine aw_aload_n X dX5_arrive_77 rfl ?_
              refine aw_iload_n X dX5_arrive_78 rfl ?_
              refine aw_iload_n X dX5_arrive_79 rfl ?_
              refine aw_iload_n X dX5_arrive_80 rfl ?_
              refine aw_iload X dX5_arrive_81 rfl ?_
              refine aw_cVFR (As := [.int _, .int _, .int _, .int _]) X hM (c_X5_doArrive (kl K) U _ ma _ hM.1 hivr1 wn (by rw [hr 12 (by omega)]; exact h12) hwn _ _ _ _) s_X5_104 k_X5_doArrive (by decide) ⟨rfl, rfl⟩ ⟨Nat.zero_le _, Nat.zero_le _⟩ rfl (by exact Nat.le_of_ble_eq_true rfl) rfl dX5_arrive_83 (fun μ z_8 ez_8 hM => ?_)
              exact aw_iret X hQ dX5_arrive_86 ⟨congrArg (fun q => some (Value.int q)) (by subst ez_7 ez_8; simp [mDo, eArr, c8_1, c19_2, c30_3, c42_4, c53_5, c67_6, etw]), hM.to (by subst ez_7 ez_8; simp [mDo, eArr, c8_1, c19_2, c30_3, c42_4, c53_5, c67_6, etw])⟩
            · skip
              refine aw_ldc X dX5_arrive_70 a_X5_103 ?_
              exact aw_iret X hQ dX5_arrive_72 ⟨congrArg (fun q => some (Value.int q)) (by simp [mDo, eArr, c8_1, c19_2, c30_3, c42_4, c53_5, c67_6]), hM.to (by simp [mDo, eArr, c8_1, c19_2, c30_3, c42_4, c53_5, c67_6])⟩
          · skip
            refine aw_ldc X dX5_arrive_56 a_X5_99 ?_
            exact aw_iret X hQ dX5_arrive_58 ⟨congrArg (fun q => some (Value.int q)) (by simp [mDo, eArr, c8_1, c19_2, c30_3, c42_4, c53_5]), hM.to (by simp [mDo, eArr, c8_1, c19_2, c30_3, c42_4, c53_5])⟩
