/-! what the model tells -/
theorem mIsT_tn {z : xV} (h : IV z) {p : Int32} (hp : mIsT z p = true) : ∃ k, k < 6 ∧ p = nI k ∧ tn p = k := by
  unfold mIsT at hp
  by_cases h0 : p = 0
  · exact ⟨0, by omega, h0, by rw [h0]; rfl⟩
  · rw [if_neg h0] at hp
    simp only [Bool.and_eq_true, decide_eq_true_eq] at hp
    obtain ⟨k, hk1, hk, e⟩ := rgN (x := p) (lo := 1) (hi := 5) (by decide) (by decide) ⟨hp.1, Int32.le_trans hp.2 h.2.2.1.2⟩
    exact ⟨k, by omega, e, by rw [e, tn, nI_clamp (by omega)]⟩
def kTan (z : xV) (p w : Int32) : Int32 :=
  if inB w 0 7 = false then -100002 else if mIsT z p = false then -100001
  else if w = 4 then cDraught z (tn p) else if w = 5 then cHeight z (cDraught z (tn p)) (z 6)
  else if w = 6 then bI (cFloats z (cDraught z (tn p)) (z 6)) else if w = 7 then z 6 - z (tz (tn p) 4) else z (tz (tn p) (tn w))
def kHos (z : xV) (h w : Int32) : Int32 := if isG h = false then -100001 else if inB w 0 5 = true then z (hz (tn h) (tn w)) else -100002
def mUIT (z : xV) (g : Nat) : Nat → Int32
  | 0 => 0
  | k + 1 => mUIT z g k + (if mIsT z (nI k) = true then z (tz k g) else 0)
def kGra (z : xV) (g w : Int32) : Int32 :=
  if isG g = false then -100001 else if inB w 0 3 = false then -100002
  else if w = 1 then mUIT z (tn g) (tn (z 12) + 1) else if w = 0 then z (14 + tn g) else if w = 2 then z (18 + tn g) else z (22 + tn g)
def kCnt (z : xV) (w : Int32) : Int32 :=
  if inB w 0 6 = true then z (tn w) else if w = 7 then cTide z (z 6) else if w = 8 then z 0 + cTide z (z 6) else if w = 9 then z 12 else if w = 10 then z 13
  else if w = 11 then cConnN z else if w = 12 then cBurstN z else if w = 13 then z 7 else if w = 14 then z 8 else if w = 15 then z 9 else if w = 16 then z 10
  else if w = 17 then z 11 else if w = 18 then z 941 else if w = 19 then z 940 else -100002
def uFl (z : xV) : Nat → Int32
  | 0 => -100006
  | n + 1 => if cFloats z (cDraught z 1) (z 6 + (12 - nI n)) = true then 12 - nI n else uFl z n
def kUnt (z : xV) : Int32 := if z 12 = 0 then -100005 else uFl z 13
theorem dn_1 (k : Nat) : (12 : Int32) - nI k + -1 = 12 - nI (k + 1) := by
  rw [← nI_1, ← Int32.sub_sub]
  exact (Int32.sub_eq_add_neg _ _).symm
/-- the first place from k on, of d, where it holds -/
def ff (p : Nat → Bool) : Nat → Nat → Nat
  | 0, k => k
  | d + 1, k => if p k = true then k else ff p d (k + 1)
def sfN (y : xV) (i : Nat) : Nat := ff (fun k => decide (¬ (gHours y (k + 1)).2 (hz i 3) = 0)) 200 0
def ueN (y : xV) : Nat := ff (fun k => decide (¬ 0 < cUnits (gHours y k).2 0)) 200 0
theorem putBack_eq {x m : xV} (h : ∀ j, 80 ≤ j → x j = xcp m 100 0 80 j) : xcp x 0 100 80 = xcp m 100 0 80 := by
  funext j
  by_cases hj : j < 80
  · have e1 := xcp_i (m := x) (a := 0) (b := 100) (k := 80) (j := j) hj
    rw [Nat.zero_add] at e1
    have e2 := xcp_i (m := m) (a := 100) (b := 0) (k := 80) (j := j) hj
    rw [Nat.zero_add] at e2
    rw [e1, h _ (by omega), e2, xcp_o (by omega)]
  · rw [xcp_o (by omega)]
    exact h j (by omega)
def kEmp (y : xV) : Int32 := if cUnits (gHours y (ueN y)).2 0 = 0 then nI (ueN y) else -100006
def kIfP (y : xV) (n : Nat) (w : Int32) : Int32 :=
  if w = 0 then (gHours y n).1 else if w = 1 then (gHours y n).2 9 - y 9 else if w = 2 then cSpoilt (gHours y n).2 - cSpoilt y else (gHours y n).2 11 - y 11
def lrF (y : xV) (i : Nat) : Nat := ff (fun r => decide (sfN (upd y (hz i 0) (nI r)) i = 200)) 101 20
def kLea (y : xV) (i : Nat) : Int32 := if lrF y i = 121 then -100006 else nI (lrF y i)
theorem ff_le (p : Nat → Bool) : ∀ d k, k ≤ ff p d k ∧ ff p d k ≤ k + d := by
  intro d
  induction d with
  | zero => intro k; exact ⟨Nat.le_refl _, Nat.le_refl _⟩
  | succ d ih =>
    intro k
    rw [ff]
    have := ih (k + 1)
    split <;> omega
theorem units_0 {z : xV} (h : IV z) (h13 : z 13 = 1) : ¬ cUnits z 0 < 0 := by
  obtain ⟨u, hu, e⟩ := h.units (p := 0) (by decide) (live0.mpr h13)
  rw [e]; exact nI_pos (by omega)
set_option maxHeartbeats 1000000 in
set_option maxRecDepth 100000 in
theorem c_X5_tanker (l : Launch) (U : xU) (μ0 : xH) (ma : Nat → Nat) (m : xV) (hM0 : FRep U μ0 ma 5 FM m) (hiv : IV m) (h80 : ∀ i, i < 4 → m (80 + i) = 0) (hn : Nat) (h6 : m 6 = nI hn) (hb : hn ≤ 9999) (p w : Int32) : CtF l U yX5_tanker cX5_tanker 3 (some .int) ({ frames := 4, cells := 0, slots := 0, locals := 88 } : Room) [.ref (ma 0), .int p, .int w] μ0 (kTan m p w) := by
  refine Ct.of [some (.ref (ma 0)), some (.int p), some (.int w)] (by decide +kernel) rfl (Nat.le_of_ble_eq_true rfl) (fun K Q X hnm hQ => ?_)
  have hM := FR.rf hM0
  refine aw_iload_n X dX5_tanker_0 rfl ?_
  refine aw_iconst X (0) dX5_tanker_1 rfl ?_
  refine aw_bipush X (7) dX5_tanker_2 rfl ?_
  refine aw_cSF (As := [.int _, .int _, .int _]) X (c_X5_in (kl K) U _ _ _ _) s_X5_59 k_X5_in (by decide) ⟨rfl, rfl⟩ ⟨Nat.zero_le _, Nat.zero_le _⟩ rfl (by exact Nat.le_of_ble_eq_true rfl) dX5_tanker_4 ?_
  refine aw_top (bI (inB w (0 : Int32) (7 : Int32))) rfl ?_
  refine aw_b_ne (tgt := 13) X dX5_tanker_7 (by decide) (fun c7_1 => ?_) (fun c7_1 => ?_)
  · skip
    obtain ⟨wn, hwn, ew, etw⟩ := inB_tn (n := 7) rfl (by decide) c7_1
    refine aw_aload_n X dX5_tanker_13 rfl ?_
    refine aw_iload_n X dX5_tanker_14 rfl ?_
    refine aw_cVFF (As := [.int _]) X hM (c_X5_isTanker (kl K) U _ ma _ hM.1 _ ) s_X5_90 k_X5_isTanker (by decide) ⟨rfl, rfl⟩ ⟨Nat.zero_le _, Nat.zero_le _⟩ rfl (by exact Nat.le_of_ble_eq_true rfl) rfl dX5_tanker_15 ?_
    refine aw_b_ne (tgt := 24) X dX5_tanker_18 (by decide) (fun c18_2 => ?_) (fun c18_2 => ?_)
    · skip
      obtain ⟨pn, hpn, ep, etp⟩ := mIsT_tn hiv c18_2
      refine aw_iload_n X dX5_tanker_24 rfl ?_
      by_cases e0 : wn = 0
      · subst e0 ew
        have k0 : nI 0 = (0 : Int32) := rfl
        refine aw_tableOut (tgt := 104) X dX5_tanker_25 (by decide) (by decide) ?_
        refine aw_aload_n X dX5_tanker_104 rfl ?_
        refine aw_iload_n X dX5_tanker_105 rfl ?_
        refine aw_iload_n X dX5_tanker_106 rfl ?_
        refine aw_cVFF (As := [.int _, .int _]) X hM (c_X5_ofTanker (kl K) U _ ma _ hM.1 _ _ pn 0 ep rfl (by omega) (by decide)) s_X5_45 k_X5_ofTanker (by decide) ⟨rfl, rfl⟩ ⟨Nat.zero_le _, Nat.zero_le _⟩ rfl (by exact Nat.le_of_ble_eq_true rfl) rfl dX5_tanker_107 ?_
        exact aw_iret X hQ dX5_tanker_110 ⟨congrArg (fun q => some (Value.int q)) (by unfold kTan; rw [if_neg (by rw [c7_1]; decide), if_neg (by rw [c18_2]; decide), etp, if_neg (by decide), if_neg (by decide), if_neg (by decide), if_neg (by decide)]; rfl), rfl⟩
      by_cases e1 : wn = 1
      · subst e1 ew
        have k1 : nI 1 = (1 : Int32) := rfl
        refine aw_tableOut (tgt := 104) X dX5_tanker_25 (by decide) (by decide) ?_
        refine aw_aload_n X dX5_tanker_104 rfl ?_
        refine aw_iload_n X dX5_tanker_105 rfl ?_
        refine aw_iload_n X dX5_tanker_106 rfl ?_
        refine aw_cVFF (As := [.int _, .int _]) X hM (c_X5_ofTanker (kl K) U _ ma _ hM.1 _ _ pn 1 ep rfl (by omega) (by decide)) s_X5_45 k_X5_ofTanker (by decide) ⟨rfl, rfl⟩ ⟨Nat.zero_le _, Nat.zero_le _⟩ rfl (by exact Nat.le_of_ble_eq_true rfl) rfl dX5_tanker_107 ?_
        exact aw_iret X hQ dX5_tanker_110 ⟨congrArg (fun q => some (Value.int q)) (by unfold kTan; rw [if_neg (by rw [c7_1]; decide), if_neg (by rw [c18_2]; decide), etp, if_neg (by decide), if_neg (by decide), if_neg (by decide), if_neg (by decide)]; rfl), rfl⟩
      by_cases e2 : wn = 2
      · subst e2 ew
        have k2 : nI 2 = (2 : Int32) := rfl
        refine aw_tableOut (tgt := 104) X dX5_tanker_25 (by decide) (by decide) ?_
        refine aw_aload_n X dX5_tanker_104 rfl ?_
        refine aw_iload_n X dX5_tanker_105 rfl ?_
        refine aw_iload_n X dX5_tanker_106 rfl ?_
        refine aw_cVFF (As := [.int _, .int _]) X hM (c_X5_ofTanker (kl K) U _ ma _ hM.1 _ _ pn 2 ep rfl (by omega) (by decide)) s_X5_45 k_X5_ofTanker (by decide) ⟨rfl, rfl⟩ ⟨Nat.zero_le _, Nat.zero_le _⟩ rfl (by exact Nat.le_of_ble_eq_true rfl) rfl dX5_tanker_107 ?_
        exact aw_iret X hQ dX5_tanker_110 ⟨congrArg (fun q => some (Value.int q)) (by unfold kTan; rw [if_neg (by rw [c7_1]; decide), if_neg (by rw [c18_2]; decide), etp, if_neg (by decide), if_neg (by decide), if_neg (by decide), if_neg (by decide)]; rfl), rfl⟩
      by_cases e3 : wn = 3
      · subst e3 ew
        have k3 : nI 3 = (3 : Int32) := rfl
        refine aw_tableOut (tgt := 104) X dX5_tanker_25 (by decide) (by decide) ?_
        refine aw_aload_n X dX5_tanker_104 rfl ?_
        refine aw_iload_n X dX5_tanker_105 rfl ?_
        refine aw_iload_n X dX5_tanker_106 rfl ?_
        refine aw_cVFF (As := [.int _, .int _]) X hM (c_X5_ofTanker (kl K) U _ ma _ hM.1 _ _ pn 3 ep rfl (by omega) (by decide)) s_X5_45 k_X5_ofTanker (by decide) ⟨rfl, rfl⟩ ⟨Nat.zero_le _, Nat.zero_le _⟩ rfl (by exact Nat.le_of_ble_eq_true rfl) rfl dX5_tanker_107 ?_
        exact aw_iret X hQ dX5_tanker_110 ⟨congrArg (fun q => some (Value.int q)) (by unfold kTan; rw [if_neg (by rw [c7_1]; decide), if_neg (by rw [c18_2]; decide), etp, if_neg (by decide), if_neg (by decide), if_neg (by decide), if_neg (by decide)]; rfl), rfl⟩
      by_cases e4 : wn = 4
      · subst e4 ew
        have k4 : nI 4 = (4 : Int32) := rfl
        refine aw_tableV (tgt := 56) X (4) rfl dX5_tanker_25 (by decide) (by decide) rfl (by decide) ?_
        refine aw_aload_n X dX5_tanker_56 rfl ?_
        refine aw_iload_n X dX5_tanker_57 rfl ?_
        refine aw_cVFF (As := [.int _]) X hM (c_X5_draughtOf (kl K) U _ ma _ hM.1 _ pn ep (by omega)) s_X5_56 k_X5_draughtOf (by decide) ⟨rfl, rfl⟩ ⟨Nat.zero_le _, Nat.zero_le _⟩ rfl (by exact Nat.le_of_ble_eq_true rfl) rfl dX5_tanker_58 ?_
        exact aw_iret X hQ dX5_tanker_61 ⟨congrArg (fun q => some (Value.int q)) (by unfold kTan; rw [if_neg (by rw [c7_1]; decide), if_neg (by rw [c18_2]; decide), etp, if_pos (show nI 4 = (4 : Int32) from rfl)]), rfl⟩
      by_cases e5 : wn = 5
      · subst e5 ew
        have k5 : nI 5 = (5 : Int32) := rfl
        refine aw_tableV (tgt := 62) X (5) rfl dX5_tanker_25 (by decide) (by decide) rfl (by decide) ?_
        refine aw_aload_n X dX5_tanker_62 rfl ?_
        refine aw_iload_n X dX5_tanker_63 rfl ?_
        refine aw_cVFF (As := [.int _]) X hM (c_X5_heightOf (kl K) U _ ma _ hM.1 _ pn ep (by omega) _ h6 (by omega)) s_X5_76 k_X5_heightOf (by decide) ⟨rfl, rfl⟩ ⟨Nat.zero_le _, Nat.zero_le _⟩ rfl (by exact Nat.le_of_ble_eq_true rfl) rfl dX5_tanker_64 ?_
        exact aw_iret X hQ dX5_tanker_67 ⟨congrArg (fun q => some (Value.int q)) (by unfold kTan; rw [if_neg (by rw [c7_1]; decide), if_neg (by rw [c18_2]; decide), etp, if_neg (by decide), if_pos (show nI 5 = (5 : Int32) from rfl)]), rfl⟩
      by_cases e6 : wn = 6
      · subst e6 ew
        have k6 : nI 6 = (6 : Int32) := rfl
        refine aw_tableV (tgt := 68) X (6) rfl dX5_tanker_25 (by decide) (by decide) rfl (by decide) ?_
        refine aw_aload_n X dX5_tanker_68 rfl ?_
        refine aw_iload_n X dX5_tanker_69 rfl ?_
        refine aw_aload_n X dX5_tanker_70 rfl ?_
        refine aw_fgetA X hM 0 (t := 0) (b := 0) (n := 80) rfl f_X5_7 dX5_tanker_71 ?_
        refine aw_bipush X (6) dX5_tanker_74 rfl ?_
        refine aw_fiald X hM 0 (b := 0) (n := 80) rfl 6 (xin_d rfl) (by decide) dX5_tanker_76 ?_
        refine aw_cVFF (As := [.int _, .int _]) X hM (c_X5_floats (kl K) U _ ma _ hM.1 _ pn ep (by omega) _ (hn) h6 (by omega)) s_X5_83 k_X5_floats (by decide) ⟨rfl, rfl⟩ ⟨Nat.zero_le _, Nat.zero_le _⟩ rfl (by exact Nat.le_of_ble_eq_true rfl) rfl dX5_tanker_77 ?_
        refine aw_bj (tgt := 87) (t2 := 88) X dX5_tanker_80 dX5_tanker_83 dX5_tanker_84 dX5_tanker_87 (by decide) (by decide) rfl ?_
        rw [bI_ne]
        exact aw_iret X hQ dX5_tanker_88 ⟨congrArg (fun q => some (Value.int q)) (by unfold kTan; rw [if_neg (by rw [c7_1]; decide), if_neg (by rw [c18_2]; decide), etp, if_neg (by decide), if_neg (by decide), if_pos (show nI 6 = (6 : Int32) from rfl)]), rfl⟩
      by_cases e7 : wn = 7
      · subst e7 ew
        have k7 : nI 7 = (7 : Int32) := rfl
        refine aw_tableV (tgt := 89) X (7) rfl dX5_tanker_25 (by decide) (by decide) rfl (by decide) ?_
        refine aw_aload_n X dX5_tanker_89 rfl ?_
        refine aw_fgetA X hM 0 (t := 0) (b := 0) (n := 80) rfl f_X5_7 dX5_tanker_90 ?_
        refine aw_bipush X (6) dX5_tanker_93 rfl ?_
        refine aw_fiald X hM 0 (b := 0) (n := 80) rfl 6 (xin_d rfl) (by decide) dX5_tanker_95 ?_
        refine aw_aload_n X dX5_tanker_96 rfl ?_
        refine aw_iload_n X dX5_tanker_97 rfl ?_
        refine aw_iconst X (4) dX5_tanker_98 rfl ?_
        refine aw_cVFF (As := [.int _, .int _]) X hM (c_X5_ofTanker (kl K) U _ ma _ hM.1 _ _ pn 4 ep rfl (by omega) (by decide)) s_X5_45 k_X5_ofTanker (by decide) ⟨rfl, rfl⟩ ⟨Nat.zero_le _, Nat.zero_le _⟩ rfl (by exact Nat.le_of_ble_eq_true rfl) rfl dX5_tanker_99 ?_
        refine aw_isub X dX5_tanker_102 ?_
        exact aw_iret X hQ dX5_tanker_103 ⟨congrArg (fun q => some (Value.int q)) (by unfold kTan; rw [if_neg (by rw [c7_1]; decide), if_neg (by rw [c18_2]; decide), etp, if_neg (by decide), if_neg (by decide), if_neg (by decide), if_pos (show nI 7 = (7 : Int32) from rfl)]), rfl⟩
      exact absurd hwn (by omega)
    · skip
      refine aw_ldc X dX5_tanker_21 a_X5_115 ?_
      exact aw_iret X hQ dX5_tanker_23 ⟨congrArg (fun q => some (Value.int q)) (by unfold kTan; rw [if_neg (by rw [c7_1]; decide), if_pos c18_2]), rfl⟩
  · skip
    refine aw_ldc X dX5_tanker_10 a_X5_99 ?_
    exact aw_iret X hQ dX5_tanker_12 ⟨congrArg (fun q => some (Value.int q)) (by unfold kTan; rw [if_pos c7_1]), rfl⟩

set_option maxHeartbeats 1000000 in
set_option maxRecDepth 100000 in
theorem c_X5_hose (l : Launch) (U : xU) (μ0 : xH) (ma : Nat → Nat) (m : xV) (hM0 : FRep U μ0 ma 5 FM m) (hiv : IV m) (h80 : ∀ i, i < 4 → m (80 + i) = 0) (hn : Nat) (h6 : m 6 = nI hn) (hb : hn ≤ 9999) (h w : Int32) : CtF l U yX5_hose cX5_hose 3 (some .int) ({ frames := 2, cells := 0, slots := 0, locals := 42 } : Room) [.ref (ma 0), .int h, .int w] μ0 (kHos m h w) := by
  refine Ct.of [some (.ref (ma 0)), some (.int h), some (.int w)] (by decide +kernel) rfl (Nat.le_of_ble_eq_true rfl) (fun K Q X hnm hQ => ?_)
  have hM := FR.rf hM0
  refine aw_iload_n X dX5_hose_0 rfl ?_
  refine aw_cSF (As := [.int _]) X (c_X5_isHose (kl K) U _ _) s_X5_112 k_X5_isHose (by decide) ⟨rfl, rfl⟩ ⟨Nat.zero_le _, Nat.zero_le _⟩ rfl (by exact Nat.le_of_ble_eq_true rfl) dX5_hose_1 ?_
  refine aw_b_ne (tgt := 10) X dX5_hose_4 (by decide) (fun c4_1 => ?_) (fun c4_1 => ?_)
  · skip
    refine aw_iload_n X dX5_hose_10 rfl ?_
    refine aw_iconst X (0) dX5_hose_11 rfl ?_
    refine aw_iconst X (5) dX5_hose_12 rfl ?_
    refine aw_cSF (As := [.int _, .int _, .int _]) X (c_X5_in (kl K) U _ _ _ _) s_X5_59 k_X5_in (by decide) ⟨rfl, rfl⟩ ⟨Nat.zero_le _, Nat.zero_le _⟩ rfl (by exact Nat.le_of_ble_eq_true rfl) dX5_hose_13 ?_
    refine aw_top (bI (inB w (0 : Int32) (5 : Int32))) rfl ?_
    refine aw_b_eq (tgt := 28) X dX5_hose_16 (by decide) (fun c16_2 => ?_) (fun c16_2 => ?_)
    · skip
      refine aw_ldc X dX5_hose_28 a_X5_99 ?_
      exact aw_iret X hQ dX5_hose_30 ⟨congrArg (fun q => some (Value.int q)) (by simp [kHos, c4_1, c16_2]), rfl⟩
    · skip
      obtain ⟨wn, hwn, ew, etw⟩ := inB_tn (n := 5) rfl (by decide) c16_2
      refine aw_aload_n X dX5_hose_19 rfl ?_
      refine aw_iload_n X dX5_hose_20 rfl ?_
      refine aw_iload_n X dX5_hose_21 rfl ?_
      refine aw_cVFF (As := [.int _, .int _]) X hM (c_X5_hoseOf (kl K) U _ ma _ hM.1 _ _ (tn h) wn (isG_hv c4_1) ew (isG_tn c4_1) (by omega)) s_X5_63 k_X5_hoseOf (by decide) ⟨rfl, rfl⟩ ⟨Nat.zero_le _, Nat.zero_le _⟩ rfl (by exact Nat.le_of_ble_eq_true rfl) rfl dX5_hose_22 ?_
      refine aw_goto (tgt := 30) X dX5_hose_25 (by decide) ?_
      exact aw_iret X hQ dX5_hose_30 ⟨congrArg (fun q => some (Value.int q)) (by simp [kHos, c4_1, c16_2, etw]), rfl⟩
  · skip
    refine aw_ldc X dX5_hose_7 a_X5_115 ?_
    exact aw_iret X hQ dX5_hose_9 ⟨congrArg (fun q => some (Value.int q)) (by simp [kHos, c4_1]), rfl⟩

set_option maxHeartbeats 1000000 in
set_option maxRecDepth 100000 in
theorem c_X5_grade (l : Launch) (U : xU) (μ0 : xH) (ma : Nat → Nat) (m : xV) (hM0 : FRep U μ0 ma 5 FM m) (hiv : IV m) (h80 : ∀ i, i < 4 → m (80 + i) = 0) (hn : Nat) (h6 : m 6 = nI hn) (hb : hn ≤ 9999) (g w : Int32) : CtF l U yX5_grade cX5_grade 5 (some .int) ({ frames := 2, cells := 0, slots := 0, locals := 43 } : Room) [.ref (ma 0), .int g, .int w] μ0 (kGra m g w) := by
  refine Ct.of [some (.ref (ma 0)), some (.int g), some (.int w), none, none] (by decide +kernel) rfl (Nat.le_of_ble_eq_true rfl) (fun K Q X hnm hQ => ?_)
  have hM := FR.rf hM0
  refine aw_iload_n X dX5_grade_0 rfl ?_
  refine aw_cSF (As := [.int _]) X (c_X5_isGrade (kl K) U _ _) s_X5_116 k_X5_isGrade (by decide) ⟨rfl, rfl⟩ ⟨Nat.zero_le _, Nat.zero_le _⟩ rfl (by exact Nat.le_of_ble_eq_true rfl) dX5_grade_1 ?_
  refine aw_b_ne (tgt := 10) X dX5_grade_4 (by decide) (fun c4_1 => ?_) (fun c4_1 => ?_)
  · skip
    refine aw_iload_n X dX5_grade_10 rfl ?_
    refine aw_iconst X (0) dX5_grade_11 rfl ?_
    refine aw_iconst X (3) dX5_grade_12 rfl ?_
    refine aw_cSF (As := [.int _, .int _, .int _]) X (c_X5_in (kl K) U _ _ _ _) s_X5_59 k_X5_in (by decide) ⟨rfl, rfl⟩ ⟨Nat.zero_le _, Nat.zero_le _⟩ rfl (by exact Nat.le_of_ble_eq_true rfl) dX5_grade_13 ?_
    refine aw_top (bI (inB w (0 : Int32) (3 : Int32))) rfl ?_
    refine aw_b_ne (tgt := 22) X dX5_grade_16 (by decide) (fun c16_2 => ?_) (fun c16_2 => ?_)
    · skip
      refine aw_iload_n X dX5_grade_22 rfl ?_
      refine aw_iconst X (1) dX5_grade_23 rfl ?_
      refine aw_icmp_ne (tgt := 75) X dX5_grade_24 (by decide) (fun c24_3 => ?_) (fun c24_3 => ?_)
      · skip
        refine aw_iload_n X dX5_grade_75 rfl ?_
        refine aw_if_ne (tgt := 91) X dX5_grade_76 (by decide) (fun c76_4 => ?_) (fun c76_4 => ?_)
        · skip
          refine aw_iload_n X dX5_grade_91 rfl ?_
          refine aw_iconst X (2) dX5_grade_92 rfl ?_
          refine aw_icmp_ne (tgt := 108) X dX5_grade_93 (by decide) (fun c93_5 => ?_) (fun c93_5 => ?_)
          · skip
            refine aw_aload_n X dX5_grade_108 rfl ?_
            refine aw_fgetA X hM 0 (t := 0) (b := 0) (n := 80) rfl f_X5_7 dX5_grade_109 ?_
            refine aw_bipush X (22) dX5_grade_112 rfl ?_
            refine aw_iload_n X dX5_grade_114 rfl ?_
            refine aw_iadd X dX5_grade_115 ?_
            refine aw_top (nI (22 + tn g)) (ixg c4_1 _ _ rfl) ?_
            have hgb115 : tn g < 4 := isG_tn c4_1
            refine aw_fiald X hM 0 (b := 0) (n := 80) rfl (22 + tn g) (vp_in_nI (by omega) (by decide)) (by rw [nI_clamp (by omega), Nat.zero_add]) dX5_grade_116 ?_
            exact aw_iret X hQ dX5_grade_117 ⟨congrArg (fun q => some (Value.int q)) (by simp [kGra, c4_1, c16_2, c24_3, c76_4, c93_5, show inB 0 0 3 = true from rfl, show inB 2 0 3 = true from rfl]), rfl⟩
          · skip
            refine aw_aload_n X dX5_grade_96 rfl ?_
            refine aw_fgetA X hM 0 (t := 0) (b := 0) (n := 80) rfl f_X5_7 dX5_grade_97 ?_
            refine aw_bipush X (18) dX5_grade_100 rfl ?_
            refine aw_iload_n X dX5_grade_102 rfl ?_
            refine aw_iadd X dX5_grade_103 ?_
            refine aw_top (nI (18 + tn g)) (ixg c4_1 _ _ rfl) ?_
            have hgb103 : tn g < 4 := isG_tn c4_1
            refine aw_fiald X hM 0 (b := 0) (n := 80) rfl (18 + tn g) (vp_in_nI (by omega) (by decide)) (by rw [nI_clamp (by omega), Nat.zero_add]) dX5_grade_104 ?_
            refine aw_goto (tgt := 117) X dX5_grade_105 (by decide) ?_
            exact aw_iret X hQ dX5_grade_117 ⟨congrArg (fun q => some (Value.int q)) (by simp [kGra, c4_1, c16_2, c24_3, c76_4, c93_5, show inB 0 0 3 = true from rfl, show inB 2 0 3 = true from rfl]), rfl⟩
        · skip
          refine aw_aload_n X dX5_grade_79 rfl ?_
          refine aw_fgetA X hM 0 (t := 0) (b := 0) (n := 80) rfl f_X5_7 dX5_grade_80 ?_
          refine aw_bipush X (14) dX5_grade_83 rfl ?_
          refine aw_iload_n X dX5_grade_85 rfl ?_
          refine aw_iadd X dX5_grade_86 ?_
          refine aw_top (nI (14 + tn g)) (ixg c4_1 _ _ rfl) ?_
          have hgb86 : tn g < 4 := isG_tn c4_1
          refine aw_fiald X hM 0 (b := 0) (n := 80) rfl (14 + tn g) (vp_in_nI (by omega) (by decide)) (by rw [nI_clamp (by omega), Nat.zero_add]) dX5_grade_87 ?_
          refine aw_goto (tgt := 117) X dX5_grade_88 (by decide) ?_
          exact aw_iret X hQ dX5_grade_117 ⟨congrArg (fun q => some (Value.int q)) (by simp [kGra, c4_1, c16_2, c24_3, c76_4, show inB 0 0 3 = true from rfl, show inB 2 0 3 = true from rfl]), rfl⟩
      · skip
        obtain ⟨wn, -, hwn, h12⟩ := rgN (lo := 0) (hi := 5) (by decide) (by decide) hiv.2.2.1
        refine aw_iconst X (0) dX5_grade_27 rfl ?_
        refine aw_istore_n X dX5_grade_28 rfl (by decide) ?_
        refine aw_iconst X (0) dX5_grade_29 rfl ?_
        refine aw_istore X dX5_grade_30 rfl (by decide) ?_
        have loop : ∀ (d k : Nat) , k + d = wn + 1 → AW U K 5 0 0 Q μ0 32 [some (.ref (ma 0)), some (.int g), none, some (.int (mUIT m (tn g) k)), some (.int (nI k))] [] := by
          intro d
          induction d with
          | zero =>
            intro k hk
            have hk : k = wn + 1 := by omega
            subst hk
            refine aw_iload X dX5_grade_32 rfl ?_
            refine aw_aload_n X dX5_grade_34 rfl ?_
            refine aw_fgetA X hM 0 (t := 0) (b := 0) (n := 80) rfl f_X5_7 dX5_grade_35 ?_
            refine aw_bipush X (12) dX5_grade_38 rfl ?_
            refine aw_fiald X hM 0 (b := 0) (n := 80) rfl 12 (xin_d rfl) (by decide) dX5_grade_40 ?_
            refine aw_icmp_gt_t (tgt := 73) X dX5_grade_41 (by decide) (by rw [h12]; exact nI_lt (by omega) (by omega)) ?_
            refine aw_iload_n X dX5_grade_73 rfl ?_
            exact aw_iret X hQ dX5_grade_74 ⟨congrArg (fun q => some (Value.int q)) (by unfold kGra; rw [if_neg (by rw [c4_1]; decide), if_neg (by rw [c16_2]; decide), if_pos c24_3, h12, tn, tn, nI_clamp (n := wn) (by omega)]), rfl⟩
          | succ d ih =>
            intro k hk
            refine aw_iload X dX5_grade_32 rfl ?_
            refine aw_aload_n X dX5_grade_34 rfl ?_
            refine aw_fgetA X hM 0 (t := 0) (b := 0) (n := 80) rfl f_X5_7 dX5_grade_35 ?_
            refine aw_bipush X (12) dX5_grade_38 rfl ?_
            refine aw_fiald X hM 0 (b := 0) (n := 80) rfl 12 (xin_d rfl) (by decide) dX5_grade_40 ?_
            refine aw_icmp_gt_f (tgt := 73) X dX5_grade_41 (by decide) (by rw [h12]; exact nI_nlt (by omega) (by omega)) ?_
            refine aw_iload_n X dX5_grade_44 rfl ?_
            refine aw_aload_n X dX5_grade_45 rfl ?_
            refine aw_iload X dX5_grade_46 rfl ?_
            refine aw_cVFF (As := [.int _]) X hM (c_X5_isTanker (kl K) U _ ma _ hM.1 _ ) s_X5_90 k_X5_isTanker (by decide) ⟨rfl, rfl⟩ ⟨Nat.zero_le _, Nat.zero_le _⟩ rfl (by exact Nat.le_of_ble_eq_true rfl) rfl dX5_grade_48 ?_
            refine aw_b_eq (tgt := 64) X dX5_grade_51 (by decide) (fun c51_4 => ?_) (fun c51_4 => ?_)
            · skip
              refine aw_iconst X (0) dX5_grade_64 rfl ?_
              refine aw_iadd X dX5_grade_65 ?_
              refine aw_istore_n X dX5_grade_66 rfl (by decide) ?_
              refine aw_iinc X (1) dX5_grade_67 rfl rfl rfl (by decide) ?_
              refine aw_goto (tgt := 32) X dX5_grade_70 (by decide) ?_
              refine aw_sub [some (.ref (ma 0)), some (.int g), none, some (.int (mUIT m (tn g) (k + 1))), some (.int (nI (k + 1)))] ⟨rfl, rfl, congrArg (fun q => some (Value.int q)) (by simp [mUIT, c4_1, c16_2, c24_3, c51_4]), congrArg (fun q => some (Value.int q)) (nI_1 k), trivial⟩ ?_
              exact ih (k + 1) (by omega)
            · skip
              refine aw_aload_n X dX5_grade_54 rfl ?_
              refine aw_iload X dX5_grade_55 rfl ?_
              refine aw_iload_n X dX5_grade_57 rfl ?_
              refine aw_cVFF (As := [.int _, .int _]) X hM (c_X5_ofTanker (kl K) U _ ma _ hM.1 _ _ (k) (tn g) rfl (isG_hv c4_1) (by omega) (Nat.lt_trans (isG_tn c4_1) (by decide))) s_X5_45 k_X5_ofTanker (by decide) ⟨rfl, rfl⟩ ⟨Nat.zero_le _, Nat.zero_le _⟩ rfl (by exact Nat.le_of_ble_eq_true rfl) rfl dX5_grade_58 ?_
              refine aw_goto (tgt := 65) X dX5_grade_61 (by decide) ?_
              refine aw_iadd X dX5_grade_65 ?_
              refine aw_istore_n X dX5_grade_66 rfl (by decide) ?_
              refine aw_iinc X (1) dX5_grade_67 rfl rfl rfl (by decide) ?_
              refine aw_goto (tgt := 32) X dX5_grade_70 (by decide) ?_
              refine aw_sub [some (.ref (ma 0)), some (.int g), none, some (.int (mUIT m (tn g) (k + 1))), some (.int (nI (k + 1)))] ⟨rfl, rfl, congrArg (fun q => some (Value.int q)) (by simp [mUIT, c4_1, c16_2, c24_3, c51_4]), congrArg (fun q => some (Value.int q)) (nI_1 k), trivial⟩ ?_
              exact ih (k + 1) (by omega)
        refine aw_sub [some (.ref (ma 0)), some (.int g), none, some (.int (mUIT m (tn g) 0)), some (.int (nI 0))] ⟨rfl, rfl, rfl, rfl, trivial⟩ ?_
        exact loop (wn + 1) 0 (by omega)
    · skip
      refine aw_ldc X dX5_grade_19 a_X5_99 ?_
      exact aw_iret X hQ dX5_grade_21 ⟨congrArg (fun q => some (Value.int q)) (by simp [kGra, c4_1, c16_2, show inB 0 0 3 = true from rfl, show inB 2 0 3 = true from rfl]), rfl⟩
  · skip
    refine aw_ldc X dX5_grade_7 a_X5_115 ?_
    exact aw_iret X hQ dX5_grade_9 ⟨congrArg (fun q => some (Value.int q)) (by simp [kGra, c4_1, show inB 0 0 3 = true from rfl, show inB 2 0 3 = true from rfl]), rfl⟩

set_option maxHeartbeats 1000000 in
set_option maxRecDepth 100000 in
theorem c_X5_count (l : Launch) (U : xU) (μ0 : xH) (ma : Nat → Nat) (m : xV) (hM0 : FRep U μ0 ma 5 FM m) (hiv : IV m) (h80 : ∀ i, i < 4 → m (80 + i) = 0) (hn : Nat) (h6 : m 6 = nI hn) (hb : hn ≤ 9999) (w : Int32) : CtF l U yX5_count cX5_count 2 (some .int) ({ frames := 3, cells := 0, slots := 0, locals := 65 } : Room) [.ref (ma 0), .int w] μ0 (kCnt m w) := by
  refine Ct.of [some (.ref (ma 0)), some (.int w)] (by decide +kernel) rfl (Nat.le_of_ble_eq_true rfl) (fun K Q X hnm hQ => ?_)
  have hM := FR.rf hM0
  refine aw_iload_n X dX5_count_0 rfl ?_
  refine aw_iconst X (0) dX5_count_1 rfl ?_
  refine aw_bipush X (6) dX5_count_2 rfl ?_
  refine aw_cSF (As := [.int _, .int _, .int _]) X (c_X5_in (kl K) U _ _ _ _) s_X5_59 k_X5_in (by decide) ⟨rfl, rfl⟩ ⟨Nat.zero_le _, Nat.zero_le _⟩ rfl (by exact Nat.le_of_ble_eq_true rfl) dX5_count_4 ?_
  refine aw_top (bI (inB w (0 : Int32) (6 : Int32))) rfl ?_
  refine aw_b_eq (tgt := 17) X dX5_count_7 (by decide) (fun c7_1 => ?_) (fun c7_1 => ?_)
  · skip
    refine aw_iload_n X dX5_count_17 rfl ?_
    by_cases s18_2 : w = 7
    · refine aw_tableV (tgt := 84) X (7) s18_2 dX5_count_18 (by decide) (by decide) rfl (by decide) ?_
      refine aw_aload_n X dX5_count_84 rfl ?_
      refine aw_cVFF (As := []) X hM (c_X5_tideNow (kl K) U _ ma _ hM.1 _ h6 (by omega)) s_X5_52 k_X5_tideNow (by decide) ⟨rfl, rfl⟩ ⟨Nat.zero_le _, Nat.zero_le _⟩ rfl (by exact Nat.le_of_ble_eq_true rfl) rfl dX5_count_85 ?_
      exact aw_iret X hQ dX5_count_88 ⟨congrArg (fun q => some (Value.int q)) (by simp [kCnt, show inB 7 0 6 = false from rfl, show inB 8 0 6 = false from rfl, show inB 9 0 6 = false from rfl, show inB 10 0 6 = false from rfl, show inB 11 0 6 = false from rfl, show inB 12 0 6 = false from rfl, show inB 13 0 6 = false from rfl, show inB 14 0 6 = false from rfl, show inB 15 0 6 = false from rfl, show inB 16 0 6 = false from rfl, show inB 17 0 6 = false from rfl, show inB 18 0 6 = false from rfl, show inB 19 0 6 = false from rfl, c7_1, s18_2]), rfl⟩
    by_cases s18_3 : w = 8
    · refine aw_tableV (tgt := 89) X (8) s18_3 dX5_count_18 (by decide) (by decide) rfl (by decide) ?_
      refine aw_aload_n X dX5_count_89 rfl ?_
      refine aw_fgetA X hM 0 (t := 0) (b := 0) (n := 80) rfl f_X5_7 dX5_count_90 ?_
      refine aw_iconst X (0) dX5_count_93 rfl ?_
      refine aw_fiald X hM 0 (b := 0) (n := 80) rfl 0 (xin_d rfl) (by decide) dX5_count_94 ?_
      refine aw_aload_n X dX5_count_95 rfl ?_
      refine aw_cVFF (As := []) X hM (c_X5_tideNow (kl K) U _ ma _ hM.1 _ h6 (by omega)) s_X5_52 k_X5_tideNow (by decide) ⟨rfl, rfl⟩ ⟨Nat.zero_le _, Nat.zero_le _⟩ rfl (by exact Nat.le_of_ble_eq_true rfl) rfl dX5_count_96 ?_
      refine aw_iadd X dX5_count_99 ?_
      exact aw_iret X hQ dX5_count_100 ⟨congrArg (fun q => some (Value.int q)) (by simp [kCnt, show inB 7 0 6 = false from rfl, show inB 8 0 6 = false from rfl, show inB 9 0 6 = false from rfl, show inB 10 0 6 = false from rfl, show inB 11 0 6 = false from rfl, show inB 12 0 6 = false from rfl, show inB 13 0 6 = false from rfl, show inB 14 0 6 = false from rfl, show inB 15 0 6 = false from rfl, show inB 16 0 6 = false from rfl, show inB 17 0 6 = false from rfl, show inB 18 0 6 = false from rfl, show inB 19 0 6 = false from rfl, c7_1, s18_2, s18_3]), rfl⟩
    by_cases s18_4 : w = 9
    · refine aw_tableV (tgt := 101) X (9) s18_4 dX5_count_18 (by decide) (by decide) rfl (by decide) ?_
      refine aw_aload_n X dX5_count_101 rfl ?_
      refine aw_fgetA X hM 0 (t := 0) (b := 0) (n := 80) rfl f_X5_7 dX5_count_102 ?_
      refine aw_bipush X (12) dX5_count_105 rfl ?_
      refine aw_fiald X hM 0 (b := 0) (n := 80) rfl 12 (xin_d rfl) (by decide) dX5_count_107 ?_
      exact aw_iret X hQ dX5_count_108 ⟨congrArg (fun q => some (Value.int q)) (by simp [kCnt, show inB 7 0 6 = false from rfl, show inB 8 0 6 = false from rfl, show inB 9 0 6 = false from rfl, show inB 10 0 6 = false from rfl, show inB 11 0 6 = false from rfl, show inB 12 0 6 = false from rfl, show inB 13 0 6 = false from rfl, show inB 14 0 6 = false from rfl, show inB 15 0 6 = false from rfl, show inB 16 0 6 = false from rfl, show inB 17 0 6 = false from rfl, show inB 18 0 6 = false from rfl, show inB 19 0 6 = false from rfl, c7_1, s18_2, s18_3, s18_4]), rfl⟩
    by_cases s18_5 : w = 10
    · refine aw_tableV (tgt := 109) X (10) s18_5 dX5_count_18 (by decide) (by decide) rfl (by decide) ?_
      refine aw_aload_n X dX5_count_109 rfl ?_
      refine aw_fgetA X hM 0 (t := 0) (b := 0) (n := 80) rfl f_X5_7 dX5_count_110 ?_
      refine aw_bipush X (13) dX5_count_113 rfl ?_
      refine aw_fiald X hM 0 (b := 0) (n := 80) rfl 13 (xin_d rfl) (by decide) dX5_count_115 ?_
      exact aw_iret X hQ dX5_count_116 ⟨congrArg (fun q => some (Value.int q)) (by simp [kCnt, show inB 7 0 6 = false from rfl, show inB 8 0 6 = false from rfl, show inB 9 0 6 = false from rfl, show inB 10 0 6 = false from rfl, show inB 11 0 6 = false from rfl, show inB 12 0 6 = false from rfl, show inB 13 0 6 = false from rfl, show inB 14 0 6 = false from rfl, show inB 15 0 6 = false from rfl, show inB 16 0 6 = false from rfl, show inB 17 0 6 = false from rfl, show inB 18 0 6 = false from rfl, show inB 19 0 6 = false from rfl, c7_1, s18_2, s18_3, s18_4, s18_5]), rfl⟩
    by_cases s18_6 : w = 11
    · refine aw_tableV (tgt := 117) X (11) s18_6 dX5_count_18 (by decide) (by decide) rfl (by decide) ?_
      refine aw_aload_n X dX5_count_117 rfl ?_
      refine aw_cVFF (As := []) X hM (c_X5_connected (kl K) U _ ma _ hM.1 (fun i hi => (hiv.2.2.2.2.2.2.1 i hi).2.2.1)) s_X5_109 k_X5_connected (by decide) ⟨rfl, rfl⟩ ⟨Nat.zero_le _, Nat.zero_le _⟩ rfl (by exact Nat.le_of_ble_eq_true rfl) rfl dX5_count_118 ?_
      exact aw_iret X hQ dX5_count_121 ⟨congrArg (fun q => some (Value.int q)) (by simp [kCnt, show inB 7 0 6 = false from rfl, show inB 8 0 6 = false from rfl, show inB 9 0 6 = false from rfl, show inB 10 0 6 = false from rfl, show inB 11 0 6 = false from rfl, show inB 12 0 6 = false from rfl, show inB 13 0 6 = false from rfl, show inB 14 0 6 = false from rfl, show inB 15 0 6 = false from rfl, show inB 16 0 6 = false from rfl, show inB 17 0 6 = false from rfl, show inB 18 0 6 = false from rfl, show inB 19 0 6 = false from rfl, c7_1, s18_2, s18_3, s18_4, s18_5, s18_6]), rfl⟩
    by_cases s18_7 : w = 12
    · refine aw_tableV (tgt := 122) X (12) s18_7 dX5_count_18 (by decide) (by decide) rfl (by decide) ?_
      refine aw_aload_n X dX5_count_122 rfl ?_
      refine aw_cVFF (As := []) X hM (c_X5_burst (kl K) U _ ma _ hM.1 (fun i hi => (hiv.2.2.2.2.2.2.1 i hi).2.2.2.1)) s_X5_134 k_X5_burst (by decide) ⟨rfl, rfl⟩ ⟨Nat.zero_le _, Nat.zero_le _⟩ rfl (by exact Nat.le_of_ble_eq_true rfl) rfl dX5_count_123 ?_
      exact aw_iret X hQ dX5_count_126 ⟨congrArg (fun q => some (Value.int q)) (by simp [kCnt, show inB 7 0 6 = false from rfl, show inB 8 0 6 = false from rfl, show inB 9 0 6 = false from rfl, show inB 10 0 6 = false from rfl, show inB 11 0 6 = false from rfl, show inB 12 0 6 = false from rfl, show inB 13 0 6 = false from rfl, show inB 14 0 6 = false from rfl, show inB 15 0 6 = false from rfl, show inB 16 0 6 = false from rfl, show inB 17 0 6 = false from rfl, show inB 18 0 6 = false from rfl, show inB 19 0 6 = false from rfl, c7_1, s18_2, s18_3, s18_4, s18_5, s18_6, s18_7]), rfl⟩
    by_cases s18_8 : w = 13
    · refine aw_tableV (tgt := 127) X (13) s18_8 dX5_count_18 (by decide) (by decide) rfl (by decide) ?_
      refine aw_aload_n X dX5_count_127 rfl ?_
      refine aw_fgetA X hM 0 (t := 0) (b := 0) (n := 80) rfl f_X5_7 dX5_count_128 ?_
      refine aw_bipush X (7) dX5_count_131 rfl ?_
      refine aw_fiald X hM 0 (b := 0) (n := 80) rfl 7 (xin_d rfl) (by decide) dX5_count_133 ?_
      exact aw_iret X hQ dX5_count_134 ⟨congrArg (fun q => some (Value.int q)) (by simp [kCnt, show inB 7 0 6 = false from rfl, show inB 8 0 6 = false from rfl, show inB 9 0 6 = false from rfl, show inB 10 0 6 = false from rfl, show inB 11 0 6 = false from rfl, show inB 12 0 6 = false from rfl, show inB 13 0 6 = false from rfl, show inB 14 0 6 = false from rfl, show inB 15 0 6 = false from rfl, show inB 16 0 6 = false from rfl, show inB 17 0 6 = false from rfl, show inB 18 0 6 = false from rfl, show inB 19 0 6 = false from rfl, c7_1, s18_2, s18_3, s18_4, s18_5, s18_6, s18_7, s18_8]), rfl⟩
    by_cases s18_9 : w = 14
    · refine aw_tableV (tgt := 135) X (14) s18_9 dX5_count_18 (by decide) (by decide) rfl (by decide) ?_
      refine aw_aload_n X dX5_count_135 rfl ?_
      refine aw_fgetA X hM 0 (t := 0) (b := 0) (n := 80) rfl f_X5_7 dX5_count_136 ?_
      refine aw_bipush X (8) dX5_count_139 rfl ?_
      refine aw_fiald X hM 0 (b := 0) (n := 80) rfl 8 (xin_d rfl) (by decide) dX5_count_141 ?_
      exact aw_iret X hQ dX5_count_142 ⟨congrArg (fun q => some (Value.int q)) (by simp [kCnt, show inB 7 0 6 = false from rfl, show inB 8 0 6 = false from rfl, show inB 9 0 6 = false from rfl, show inB 10 0 6 = false from rfl, show inB 11 0 6 = false from rfl, show inB 12 0 6 = false from rfl, show inB 13 0 6 = false from rfl, show inB 14 0 6 = false from rfl, show inB 15 0 6 = false from rfl, show inB 16 0 6 = false from rfl, show inB 17 0 6 = false from rfl, show inB 18 0 6 = false from rfl, show inB 19 0 6 = false from rfl, c7_1, s18_2, s18_3, s18_4, s18_5, s18_6, s18_7, s18_8, s18_9]), rfl⟩
    by_cases s18_10 : w = 15
    · refine aw_tableV (tgt := 143) X (15) s18_10 dX5_count_18 (by decide) (by decide) rfl (by decide) ?_
      refine aw_aload_n X dX5_count_143 rfl ?_
      refine aw_fgetA X hM 0 (t := 0) (b := 0) (n := 80) rfl f_X5_7 dX5_count_144 ?_
      refine aw_bipush X (9) dX5_count_147 rfl ?_
      refine aw_fiald X hM 0 (b := 0) (n := 80) rfl 9 (xin_d rfl) (by decide) dX5_count_149 ?_
      exact aw_iret X hQ dX5_count_150 ⟨congrArg (fun q => some (Value.int q)) (by simp [kCnt, show inB 7 0 6 = false from rfl, show inB 8 0 6 = false from rfl, show inB 9 0 6 = false from rfl, show inB 10 0 6 = false from rfl, show inB 11 0 6 = false from rfl, show inB 12 0 6 = false from rfl, show inB 13 0 6 = false from rfl, show inB 14 0 6 = false from rfl, show inB 15 0 6 = false from rfl, show inB 16 0 6 = false from rfl, show inB 17 0 6 = false from rfl, show inB 18 0 6 = false from rfl, show inB 19 0 6 = false from rfl, c7_1, s18_2, s18_3, s18_4, s18_5, s18_6, s18_7, s18_8, s18_9, s18_10]), rfl⟩
    by_cases s18_11 : w = 16
    · refine aw_tableV (tgt := 151) X (16) s18_11 dX5_count_18 (by decide) (by decide) rfl (by decide) ?_
      refine aw_aload_n X dX5_count_151 rfl ?_
      refine aw_fgetA X hM 0 (t := 0) (b := 0) (n := 80) rfl f_X5_7 dX5_count_152 ?_
      refine aw_bipush X (10) dX5_count_155 rfl ?_
      refine aw_fiald X hM 0 (b := 0) (n := 80) rfl 10 (xin_d rfl) (by decide) dX5_count_157 ?_
      exact aw_iret X hQ dX5_count_158 ⟨congrArg (fun q => some (Value.int q)) (by simp [kCnt, show inB 7 0 6 = false from rfl, show inB 8 0 6 = false from rfl, show inB 9 0 6 = false from rfl, show inB 10 0 6 = false from rfl, show inB 11 0 6 = false from rfl, show inB 12 0 6 = false from rfl, show inB 13 0 6 = false from rfl, show inB 14 0 6 = false from rfl, show inB 15 0 6 = false from rfl, show inB 16 0 6 = false from rfl, show inB 17 0 6 = false from rfl, show inB 18 0 6 = false from rfl, show inB 19 0 6 = false from rfl, c7_1, s18_2, s18_3, s18_4, s18_5, s18_6, s18_7, s18_8, s18_9, s18_10, s18_11]), rfl⟩
    by_cases s18_12 : w = 17
    · refine aw_tableV (tgt := 159) X (17) s18_12 dX5_count_18 (by decide) (by decide) rfl (by decide) ?_
      refine aw_aload_n X dX5_count_159 rfl ?_
      refine aw_fgetA X hM 0 (t := 0) (b := 0) (n := 80) rfl f_X5_7 dX5_count_160 ?_
      refine aw_bipush X (11) dX5_count_163 rfl ?_
      refine aw_fiald X hM 0 (b := 0) (n := 80) rfl 11 (xin_d rfl) (by decide) dX5_count_165 ?_
      exact aw_iret X hQ dX5_count_166 ⟨congrArg (fun q => some (Value.int q)) (by simp [kCnt, show inB 7 0 6 = false from rfl, show inB 8 0 6 = false from rfl, show inB 9 0 6 = false from rfl, show inB 10 0 6 = false from rfl, show inB 11 0 6 = false from rfl, show inB 12 0 6 = false from rfl, show inB 13 0 6 = false from rfl, show inB 14 0 6 = false from rfl, show inB 15 0 6 = false from rfl, show inB 16 0 6 = false from rfl, show inB 17 0 6 = false from rfl, show inB 18 0 6 = false from rfl, show inB 19 0 6 = false from rfl, c7_1, s18_2, s18_3, s18_4, s18_5, s18_6, s18_7, s18_8, s18_9, s18_10, s18_11, s18_12]), rfl⟩
    by_cases s18_13 : w = 18
    · refine aw_tableV (tgt := 167) X (18) s18_13 dX5_count_18 (by decide) (by decide) rfl (by decide) ?_
      refine aw_aload_n X dX5_count_167 rfl ?_
      refine aw_fgetI X hM 7 (t := 0) (b := 941) (n := 0) rfl f_X5_143 dX5_count_168 ?_
      exact aw_iret X hQ dX5_count_171 ⟨congrArg (fun q => some (Value.int q)) (by simp [kCnt, show inB 7 0 6 = false from rfl, show inB 8 0 6 = false from rfl, show inB 9 0 6 = false from rfl, show inB 10 0 6 = false from rfl, show inB 11 0 6 = false from rfl, show inB 12 0 6 = false from rfl, show inB 13 0 6 = false from rfl, show inB 14 0 6 = false from rfl, show inB 15 0 6 = false from rfl, show inB 16 0 6 = false from rfl, show inB 17 0 6 = false from rfl, show inB 18 0 6 = false from rfl, show inB 19 0 6 = false from rfl, c7_1, s18_2, s18_3, s18_4, s18_5, s18_6, s18_7, s18_8, s18_9, s18_10, s18_11, s18_12, s18_13]), rfl⟩
    by_cases s18_14 : w = 19
    · refine aw_tableV (tgt := 172) X (19) s18_14 dX5_count_18 (by decide) (by decide) rfl (by decide) ?_
      refine aw_aload_n X dX5_count_172 rfl ?_
      refine aw_fgetI X hM 3 (t := 0) (b := 940) (n := 0) rfl f_X5_37 dX5_count_173 ?_
      exact aw_iret X hQ dX5_count_176 ⟨congrArg (fun q => some (Value.int q)) (by simp [kCnt, show inB 7 0 6 = false from rfl, show inB 8 0 6 = false from rfl, show inB 9 0 6 = false from rfl, show inB 10 0 6 = false from rfl, show inB 11 0 6 = false from rfl, show inB 12 0 6 = false from rfl, show inB 13 0 6 = false from rfl, show inB 14 0 6 = false from rfl, show inB 15 0 6 = false from rfl, show inB 16 0 6 = false from rfl, show inB 17 0 6 = false from rfl, show inB 18 0 6 = false from rfl, show inB 19 0 6 = false from rfl, c7_1, s18_2, s18_3, s18_4, s18_5, s18_6, s18_7, s18_8, s18_9, s18_10, s18_11, s18_12, s18_13, s18_14]), rfl⟩
    refine aw_tableOut (tgt := 177) X dX5_count_18 (by have h0 := lv_neT (a := 7) s18_2 (by decide); have h1 := lv_neT (a := 8) s18_3 (by decide); have h2 := lv_neT (a := 9) s18_4 (by decide); have h3 := lv_neT (a := 10) s18_5 (by decide); have h4 := lv_neT (a := 11) s18_6 (by decide); have h5 := lv_neT (a := 12) s18_7 (by decide); have h6 := lv_neT (a := 13) s18_8 (by decide); have h7 := lv_neT (a := 14) s18_9 (by decide); have h8 := lv_neT (a := 15) s18_10 (by decide); have h9 := lv_neT (a := 16) s18_11 (by decide); have h10 := lv_neT (a := 17) s18_12 (by decide); have h11 := lv_neT (a := 18) s18_13 (by decide); have h12 := lv_neT (a := 19) s18_14 (by decide); omega) (by decide) ?_
    refine aw_ldc X dX5_count_177 a_X5_99 ?_
    exact aw_iret X hQ dX5_count_179 ⟨congrArg (fun q => some (Value.int q)) (by simp [kCnt, show inB 7 0 6 = false from rfl, show inB 8 0 6 = false from rfl, show inB 9 0 6 = false from rfl, show inB 10 0 6 = false from rfl, show inB 11 0 6 = false from rfl, show inB 12 0 6 = false from rfl, show inB 13 0 6 = false from rfl, show inB 14 0 6 = false from rfl, show inB 15 0 6 = false from rfl, show inB 16 0 6 = false from rfl, show inB 17 0 6 = false from rfl, show inB 18 0 6 = false from rfl, show inB 19 0 6 = false from rfl, c7_1, s18_2, s18_3, s18_4, s18_5, s18_6, s18_7, s18_8, s18_9, s18_10, s18_11, s18_12, s18_13, s18_14]), rfl⟩
  · skip
    obtain ⟨wn, hwn, ew, etw⟩ := inB_tn (n := 6) rfl (by decide) c7_1
    refine aw_aload_n X dX5_count_10 rfl ?_
    refine aw_fgetA X hM 0 (t := 0) (b := 0) (n := 80) rfl f_X5_7 dX5_count_11 ?_
    refine aw_iload_n X dX5_count_14 rfl ?_
    refine aw_fiald X hM 0 (b := 0) (n := 80) rfl wn (by rw [ew]; exact vp_in_nI (by omega) (by decide)) (by rw [Nat.zero_add]; exact etw) dX5_count_15 ?_
    exact aw_iret X hQ dX5_count_16 ⟨congrArg (fun q => some (Value.int q)) (by simp [kCnt, show inB 7 0 6 = false from rfl, show inB 8 0 6 = false from rfl, show inB 9 0 6 = false from rfl, show inB 10 0 6 = false from rfl, show inB 11 0 6 = false from rfl, show inB 12 0 6 = false from rfl, show inB 13 0 6 = false from rfl, show inB 14 0 6 = false from rfl, show inB 15 0 6 = false from rfl, show inB 16 0 6 = false from rfl, show inB 17 0 6 = false from rfl, show inB 18 0 6 = false from rfl, show inB 19 0 6 = false from rfl, c7_1, etw]), rfl⟩

set_option maxHeartbeats 1000000 in
set_option maxRecDepth 100000 in
theorem c_X5_tide (l : Launch) (U : xU) (μ0 : xH) (ma : Nat → Nat) (m : xV) (hM0 : FRep U μ0 ma 5 FM m) (hiv : IV m) (h80 : ∀ i, i < 4 → m (80 + i) = 0) (hn : Nat) (h6 : m 6 = nI hn) (hb : hn ≤ 9999) (h : Int32) : CtF l U yX5_tide cX5_tide 2 (some .int) ({ frames := 1, cells := 0, slots := 0, locals := 22 } : Room) [.ref (ma 0), .int h] μ0 (if h < 0 then -100002 else cTide m h) := by
  refine Ct.of [some (.ref (ma 0)), some (.int h)] (by decide +kernel) rfl (Nat.le_of_ble_eq_true rfl) (fun K Q X hnm hQ => ?_)
  have hM := FR.rf hM0
  refine aw_iload_n X dX5_tide_0 rfl ?_
  refine aw_if_ge (tgt := 9) X dX5_tide_1 (by decide) (fun c1_1 => ?_) (fun c1_1 => ?_)
  · skip
    obtain ⟨kn, hkn, ek⟩ := nI_of (show ¬ h < 0 from Int32.not_lt.mpr c1_1)
    refine aw_aload_n X dX5_tide_9 rfl ?_
    refine aw_iload_n X dX5_tide_10 rfl ?_
    refine aw_cVFF (As := [.int _]) X hM (c_X5_tideAt (kl K) U _ ma _ hM.1 _ (kn) ek (by omega)) s_X5_41 k_X5_tideAt (by decide) ⟨rfl, rfl⟩ ⟨Nat.zero_le _, Nat.zero_le _⟩ rfl (by exact Nat.le_of_ble_eq_true rfl) rfl dX5_tide_11 ?_
    exact aw_iret X hQ dX5_tide_14 ⟨congrArg (fun q => some (Value.int q)) (by simp [c1_1, Int32.not_lt.mpr c1_1]), rfl⟩
  · skip
    refine aw_ldc X dX5_tide_4 a_X5_99 ?_
    refine aw_goto (tgt := 14) X dX5_tide_6 (by decide) ?_
    exact aw_iret X hQ dX5_tide_14 ⟨congrArg (fun q => some (Value.int q)) (by simp [c1_1, Int32.not_le.mp c1_1]), rfl⟩

set_option maxHeartbeats 1000000 in
set_option maxRecDepth 100000 in
theorem c_X5_wipe (l : Launch) (U : xU) (μ0 : xH) (ma : Nat → Nat) (m : xV) (hM0 : FRep U μ0 ma 5 FM m) : CtFR l U yX5_wipe cX5_wipe 2 (some .int) ({ frames := 0, cells := 0, slots := 0, locals := 0 } : Room) [.ref (ma 0)] μ0 ma 5 FM (m 941) (upd m 941 0) := by
  refine Ct.of [some (.ref (ma 0)), none] (by decide +kernel) rfl (Nat.le_of_ble_eq_true rfl) (fun K Q X hnm hQ => ?_)
  have hM := FR.rf hM0
  refine aw_aload_n X dX5_wipe_0 rfl ?_
  refine aw_fgetI X hM 7 (t := 0) (b := 941) (n := 0) rfl f_X5_143 dX5_wipe_1 ?_
  refine aw_istore_n X dX5_wipe_4 rfl (by decide) ?_
  refine aw_aload_n X dX5_wipe_5 rfl ?_
  refine aw_iconst X (0) dX5_wipe_6 rfl ?_
  refine aw_fput X FM_a hM 7 (b := 941) (n := 0) rfl f_X5_143 rfl (by decide +kernel) dX5_wipe_7 (fun μ z_1 ez_1 hM => ?_)
  refine aw_iload_n X dX5_wipe_10 rfl ?_
  exact aw_iret X hQ dX5_wipe_11 ⟨congrArg (fun q => some (Value.int q)) (by subst ez_1; simp []), hM.to (by subst ez_1; simp [])⟩

set_option maxHeartbeats 1000000 in
set_option maxRecDepth 100000 in
theorem c_X5_untilFloats (l : Launch) (U : xU) (μ0 : xH) (ma : Nat → Nat) (m : xV) (hM0 : FRep U μ0 ma 5 FM m) (hiv : IV m) (h80 : ∀ i, i < 4 → m (80 + i) = 0) (hn : Nat) (h6 : m 6 = nI hn) (hb : hn ≤ 9999) : CtF l U yX5_untilFloats cX5_untilFloats 3 (some .int) ({ frames := 4, cells := 0, slots := 0, locals := 88 } : Room) [.ref (ma 0)] μ0 (kUnt m) := by
  refine Ct.of [some (.ref (ma 0)), none, none] (by decide +kernel) rfl (Nat.le_of_ble_eq_true rfl) (fun K Q X hnm hQ => ?_)
  have hM := FR.rf hM0
  refine aw_aload_n X dX5_untilFloats_0 rfl ?_
  refine aw_fgetA X hM 0 (t := 0) (b := 0) (n := 80) rfl f_X5_7 dX5_untilFloats_1 ?_
  refine aw_bipush X (12) dX5_untilFloats_4 rfl ?_
  refine aw_fiald X hM 0 (b := 0) (n := 80) rfl 12 (xin_d rfl) (by decide) dX5_untilFloats_6 ?_
  refine aw_if_ne (tgt := 13) X dX5_untilFloats_7 (by decide) (fun c7_1 => ?_) (fun c7_1 => ?_)
  · skip
    refine aw_ldc X dX5_untilFloats_13 a_X5_36 ?_
    refine aw_istore_n X dX5_untilFloats_15 rfl (by decide) ?_
    refine aw_bipush X (12) dX5_untilFloats_16 rfl ?_
    refine aw_istore_n X dX5_untilFloats_18 rfl (by decide) ?_
    have loop : ∀ (d k : Nat) , k + d = 13 → AW U K 3 0 0 Q μ0 19 [some (.ref (ma 0)), some (.int (uFl m k)), some (.int (12 - nI k))] [] := by
      intro d
      induction d with
      | zero =>
        intro k hk
        have hk : k = 13 := by omega
        subst hk
        refine aw_iload_n X dX5_untilFloats_19 rfl ?_
        refine aw_if_lt_t (tgt := 52) X dX5_untilFloats_20 (by decide) (by decide) ?_
        refine aw_iload_n X dX5_untilFloats_52 rfl ?_
        exact aw_iret X hQ dX5_untilFloats_53 ⟨congrArg (fun q => some (Value.int q)) (by simp [kUnt, c7_1]), rfl⟩
      | succ d ih =>
        intro k hk
        refine aw_iload_n X dX5_untilFloats_19 rfl ?_
        refine aw_if_lt_f (tgt := 52) X dX5_untilFloats_20 (by decide) (by rw [show (12 : Int32) = nI 12 from rfl, pk_sub (by omega)]; exact nI_pos (by omega)) ?_
        refine aw_aload_n X dX5_untilFloats_23 rfl ?_
        refine aw_iconst X (1) dX5_untilFloats_24 rfl ?_
        refine aw_aload_n X dX5_untilFloats_25 rfl ?_
        refine aw_fgetA X hM 0 (t := 0) (b := 0) (n := 80) rfl f_X5_7 dX5_untilFloats_26 ?_
        refine aw_bipush X (6) dX5_untilFloats_29 rfl ?_
        refine aw_fiald X hM 0 (b := 0) (n := 80) rfl 6 (xin_d rfl) (by decide) dX5_untilFloats_31 ?_
        refine aw_iload_n X dX5_untilFloats_32 rfl ?_
        refine aw_iadd X dX5_untilFloats_33 ?_
        have eh : m 6 + (12 - nI k) = nI (hn + (12 - k)) := by rw [h6, show (12 : Int32) = nI 12 from rfl, pk_sub (by omega), nI_add]
        refine aw_cVFF (As := [.int _, .int _]) X hM (c_X5_floats (kl K) U _ ma _ hM.1 _ 1 rfl (by decide) _ (hn + (12 - k)) eh (by omega)) s_X5_83 k_X5_floats (by decide) ⟨rfl, rfl⟩ ⟨Nat.zero_le _, Nat.zero_le _⟩ rfl (by exact Nat.le_of_ble_eq_true rfl) rfl dX5_untilFloats_34 ?_
        refine aw_b_eq (tgt := 44) X dX5_untilFloats_37 (by decide) (fun c37_2 => ?_) (fun c37_2 => ?_)
        · skip
          refine aw_iload_n X dX5_untilFloats_44 rfl ?_
          refine aw_istore_n X dX5_untilFloats_45 rfl (by decide) ?_
          refine aw_iinc X (-1) dX5_untilFloats_46 rfl rfl rfl (by decide) ?_
          refine aw_goto (tgt := 19) X dX5_untilFloats_49 (by decide) ?_
          refine aw_sub [some (.ref (ma 0)), some (.int (uFl m (k + 1))), some (.int (12 - nI (k + 1)))] ⟨rfl, congrArg (fun q => some (Value.int q)) (by simp [uFl, c7_1, c37_2]), congrArg (fun q => some (Value.int q)) (dn_1 k), trivial⟩ ?_
          exact ih (k + 1) (by omega)
        · skip
          refine aw_iload_n X dX5_untilFloats_40 rfl ?_
          refine aw_goto (tgt := 45) X dX5_untilFloats_41 (by decide) ?_
          refine aw_istore_n X dX5_untilFloats_45 rfl (by decide) ?_
          refine aw_iinc X (-1) dX5_untilFloats_46 rfl rfl rfl (by decide) ?_
          refine aw_goto (tgt := 19) X dX5_untilFloats_49 (by decide) ?_
          refine aw_sub [some (.ref (ma 0)), some (.int (uFl m (k + 1))), some (.int (12 - nI (k + 1)))] ⟨rfl, congrArg (fun q => some (Value.int q)) (by simp [uFl, c7_1, c37_2]), congrArg (fun q => some (Value.int q)) (dn_1 k), trivial⟩ ?_
          exact ih (k + 1) (by omega)
    refine aw_sub [some (.ref (ma 0)), some (.int (uFl m 0)), some (.int (12 - nI 0))] ⟨rfl, rfl, congrArg (fun q => some (Value.int q)) (by decide), trivial⟩ ?_
    exact loop (13) 0 (by omega)
  · skip
    refine aw_ldc X dX5_untilFloats_10 a_X5_108 ?_
    exact aw_iret X hQ dX5_untilFloats_12 ⟨congrArg (fun q => some (Value.int q)) (by simp [kUnt, c7_1]), rfl⟩

set_option maxHeartbeats 1000000 in
set_option maxRecDepth 100000 in
theorem c_X5_safeHours (l : Launch) (U : xU) (μ0 : xH) (ma : Nat → Nat) (m : xV) (hM0 : FRep U μ0 ma 5 FM m) (hiv : IV m) (h80 : ∀ i, i < 4 → m (80 + i) = 0) (hn : Nat) (h6 : m 6 = nI hn) (hb : hn ≤ 9999) (p r : Int32) (pn : Nat) (hp : p = nI pn) (hpn : pn < 4) (hrr : rg r 20 120) : CtFR l U yX5_safeHours cX5_safeHours 5 (some .int) ({ frames := 5, cells := 0, slots := 0, locals := 113 } : Room) [.ref (ma 0), .int p, .int r] μ0 ma 5 FM (nI (sfN (upd (xcp m 100 0 80) (hz pn 0) r) pn)) (xcp m 100 0 80) := by
  refine Ct.of [some (.ref (ma 0)), some (.int p), some (.int r), none, none] (by decide +kernel) rfl (Nat.le_of_ble_eq_true rfl) (fun K Q X hnm hQ => ?_)
  obtain ⟨μ, hμ, hM⟩ : ∃ μ : xH, μ0 = μ ∧ FR U μ0 μ ma 5 FM m := ⟨μ0, rfl, FR.rf hM0⟩
  refine aw_mu hμ ?_
  refine aw_aload_n X dX5_safeHours_0 rfl ?_
  refine aw_cVFK (As := []) X hM (c_X5_keepRow (kl K) U _ ma _ hM.1) s_X5_146 k_X5_keepRow (by decide) ⟨rfl, rfl⟩ ⟨Nat.zero_le _, Nat.zero_le _⟩ rfl (by exact Nat.le_of_ble_eq_true rfl) rfl dX5_safeHours_1 (fun μ z_1 ez_1 hM => ?_)
  have ho1 : ∀ j, j < 100 → z_1 j = m j := fun j hj => by rw [ez_1, xcp_o (by omega)]
  have hivk : IV z_1 := hiv.cg (fun k hk => ho1 k (by omega))
  have h6k : z_1 6 = nI hn := by rw [ho1 6 (by omega)]; exact h6
  have h80k : ∀ i, i < 4 → z_1 (80 + i) = 0 := fun i hi => by rw [ho1 _ (by omega)]; exact h80 i hi
  refine aw_aload_n X dX5_safeHours_4 rfl ?_
  refine aw_iload_n X dX5_safeHours_5 rfl ?_
  refine aw_iconst X (0) dX5_safeHours_6 rfl ?_
  refine aw_iload_n X dX5_safeHours_7 rfl ?_
  refine aw_cVFK (As := [.int _, .int _, .int _]) X hM (c_X5_setHose (kl K) U _ ma _ hM.1 _ _ _ pn 0 hp rfl (by omega) (by decide)) s_X5_32 k_X5_setHose (by decide) ⟨rfl, rfl⟩ ⟨Nat.zero_le _, Nat.zero_le _⟩ rfl (by exact Nat.le_of_ble_eq_true rfl) rfl dX5_safeHours_8 (fun μ z_2 ez_2 hM => ?_)
  have hivy : IV z_2 := by rw [ez_2]; exact hivk.up (VC.h0 hpn hrr)
  have h6y : z_2 6 = nI hn := by rw [ez_2, upd_n (by simp only [hz]; omega)]; exact h6k
  have h80y : ∀ i, i < 4 → z_2 (80 + i) = 0 := fun i hi => by rw [ez_2, upd_n (by simp only [hz]; omega)]; exact h80k i hi
  refine aw_iconst X (0) dX5_safeHours_11 rfl ?_
  refine aw_istore_n X dX5_safeHours_12 rfl (by decide) ?_
  refine aw_iconst X (1) dX5_safeHours_13 rfl ?_
  refine aw_istore X dX5_safeHours_14 rfl (by decide) ?_
  have loop : ∀ (d : Nat) (k : Nat) (μ : xH) (zc : xV), k + d = 200 → ff (fun k => decide (¬ (gHours z_2 (k + 1)).2 (hz pn 3) = 0)) d k = sfN z_2 pn → zc = (gHours z_2 k).2 → FR U μ0 μ ma 5 FM zc →AW U K 5 0 0 Q μ 16 [some (.ref (ma 0)), some (.int p), none, some (.int (nI k)), some (.int 1)] [] := by
    intro d
    induction d with
    | zero =>
      intro k μ zc hkd hR ezc hM
      obtain rfl : k = 200 := by omega
      refine aw_iload X dX5_safeHours_16 rfl ?_
      refine aw_if_eq_f (tgt := 65) X dX5_safeHours_18 (by decide) (by decide) ?_
      refine aw_iload_n X dX5_safeHours_21 rfl ?_
      refine aw_sipush X (200) dX5_safeHours_22 rfl ?_
      refine aw_icmp_ge_t (tgt := 65) X dX5_safeHours_25 (by decide) (by decide) ?_
      refine aw_aload_n X dX5_safeHours_65 rfl ?_
      refine aw_cVFK (As := []) X hM (c_X5_putBack (kl K) U _ ma _ hM.1) s_X5_149 k_X5_putBack (by decide) ⟨rfl, rfl⟩ ⟨Nat.zero_le _, Nat.zero_le _⟩ rfl (by exact Nat.le_of_ble_eq_true rfl) rfl dX5_safeHours_66 (fun μ z_3 ez_3 hM => ?_)
      refine aw_iload_n X dX5_safeHours_69 rfl ?_
      have eR : nI 200 = nI (sfN z_2 pn) := by rw [← hR]; rfl
      refine aw_iret X hQ dX5_safeHours_70 ⟨congrArg (fun q => some (Value.int q)) (by rw [eR, ez_2, ez_1]), hM.to ?_⟩
      rw [ez_3]
      exact putBack_eq (fun j hj => by rw [ezc, gHours_o (by omega), ez_2, upd_n (by simp only [hz]; omega), ez_1])
    | succ d ih =>
      intro k μ zc hkd hR ezc hM
      have hk2 : k < 200 := by omega
      refine aw_iload X dX5_safeHours_16 rfl ?_
      refine aw_if_eq_f (tgt := 65) X dX5_safeHours_18 (by decide) (by decide) ?_
      refine aw_iload_n X dX5_safeHours_21 rfl ?_
      refine aw_sipush X (200) dX5_safeHours_22 rfl ?_
      refine aw_icmp_ge_f (tgt := 65) X dX5_safeHours_25 (by decide) (xn_le (N := 200) (by omega) (by decide) rfl) ?_
      have hv : IV zc := by rw [ezc]; exact (hivy.hours k).1
      have h6c : zc 6 = nI (hn + k) := by rw [ezc]; exact gHours_6 h6y k
      have h80c : ∀ i, i < 4 → zc (80 + i) = 0 := fun i hi => by rw [ezc, gHours_o (by omega)]; exact h80y i hi
      refine aw_aload_n X dX5_safeHours_28 rfl ?_
      refine aw_cVFR (As := []) X hM (c_X5_hour (kl K) U _ ma _ hM.1 hv h80c _ h6c (by omega)) s_X5_137 k_X5_hour (by decide) ⟨rfl, rfl⟩ ⟨Nat.zero_le _, Nat.zero_le _⟩ rfl (by exact Nat.le_of_ble_eq_true rfl) rfl dX5_safeHours_29 (fun μ z_3 ez_3 hM => ?_)
      refine aw_pop X dX5_safeHours_32 rfl ?_
      refine aw_aload_n X dX5_safeHours_33 rfl ?_
      refine aw_iload_n X dX5_safeHours_34 rfl ?_
      refine aw_iconst X (3) dX5_safeHours_35 rfl ?_
      refine aw_cVFF (As := [.int _, .int _]) X hM (c_X5_hoseOf (kl K) U _ ma _ hM.1 _ _ pn 3 hp rfl (by omega) (by decide)) s_X5_63 k_X5_hoseOf (by decide) ⟨rfl, rfl⟩ ⟨Nat.zero_le _, Nat.zero_le _⟩ rfl (by exact Nat.le_of_ble_eq_true rfl) rfl dX5_safeHours_36 ?_
      refine aw_if_ne (tgt := 46) X dX5_safeHours_39 (by decide) (fun c39_4 => ?_) (fun c39_4 => ?_)
      · skip
        refine aw_iconst X (0) dX5_safeHours_46 rfl ?_
        refine aw_istore X dX5_safeHours_47 rfl (by decide) ?_
        refine aw_iload_n X dX5_safeHours_49 rfl ?_
        refine aw_iload X dX5_safeHours_50 rfl ?_
        refine aw_bj (tgt := 59) (t2 := 60) X dX5_safeHours_52 dX5_safeHours_55 dX5_safeHours_56 dX5_safeHours_59 (by decide) (by decide) rfl ?_
        refine aw_iadd X dX5_safeHours_60 ?_
        refine aw_istore_n X dX5_safeHours_61 rfl (by decide) ?_
        refine aw_goto (tgt := 16) X dX5_safeHours_62 (by decide) ?_
        refine aw_iload X dX5_safeHours_16 rfl ?_
        refine aw_if_eq_t (tgt := 65) X dX5_safeHours_18 (by decide) (by decide) ?_
        refine aw_aload_n X dX5_safeHours_65 rfl ?_
        refine aw_cVFK (As := []) X hM (c_X5_putBack (kl K) U _ ma _ hM.1) s_X5_149 k_X5_putBack (by decide) ⟨rfl, rfl⟩ ⟨Nat.zero_le _, Nat.zero_le _⟩ rfl (by exact Nat.le_of_ble_eq_true rfl) rfl dX5_safeHours_66 (fun μ z_5 ez_5 hM => ?_)
        refine aw_iload_n X dX5_safeHours_69 rfl ?_
        have eR : nI k + bI (decide (¬ (0 : Int32) = 0)) = nI (sfN z_2 pn) := by
          rw [ff, if_pos (by rw [decide_eq_true_iff]; intro q; exact c39_4 (by rw [ez_3, ezc]; exact q))] at hR
          rw [← hR, show bI (decide (¬ (0 : Int32) = 0)) = 0 from by decide]; exact Int32.add_zero _
        refine aw_iret X hQ dX5_safeHours_70 ⟨congrArg (fun q => some (Value.int q)) (by rw [eR, ez_2, ez_1]), hM.to ?_⟩
        rw [ez_5]
        exact putBack_eq (fun j hj => by rw [ez_3, gHour_o (by omega), ezc, gHours_o (by omega), ez_2, upd_n (by simp only [hz]; omega), ez_1])
      · skip
        refine aw_iconst X (1) dX5_safeHours_42 rfl ?_
        refine aw_goto (tgt := 47) X dX5_safeHours_43 (by decide) ?_
        refine aw_istore X dX5_safeHours_47 rfl (by decide) ?_
        refine aw_iload_n X dX5_safeHours_49 rfl ?_
        refine aw_iload X dX5_safeHours_50 rfl ?_
        refine aw_bj (tgt := 59) (t2 := 60) X dX5_safeHours_52 dX5_safeHours_55 dX5_safeHours_56 dX5_safeHours_59 (by decide) (by decide) rfl ?_
        refine aw_iadd X dX5_safeHours_60 ?_
        refine aw_istore_n X dX5_safeHours_61 rfl (by decide) ?_
        refine aw_goto (tgt := 16) X dX5_safeHours_62 (by decide) ?_
        rw [ff, if_neg (by rw [decide_eq_true_iff]; intro q; exact q (by show (gHour (gHours z_2 k).2).2 (hz pn 3) = 0; rw [← ezc, ← ez_3]; exact c39_4))] at hR
        refine aw_sub [some (.ref (ma 0)), some (.int p), none, some (.int (nI (k + 1))), some (.int 1)] ⟨rfl, rfl, congrArg (fun q => some (Value.int q)) (nI_1 k), rfl, trivial⟩ ?_
        exact ih (k + 1) μ _ (by omega) hR (by rw [ez_3, ezc]; rfl) hM
  refine aw_sub [some (.ref (ma 0)), some (.int p), none, some (.int (nI 0)), some (.int 1)] ⟨rfl, rfl, rfl, rfl, trivial⟩ ?_
  exact loop 200 0 μ _ (by omega) rfl rfl hM
