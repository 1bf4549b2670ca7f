/-! when the first tanker floats -/
def pF (z : xV) : Nat → Bool := fun k => cFloats z (cDraught z 1) (z 6 + nI k)
def duF (z : xV) (k : Nat) : Int32 := if ff (pF z) (13 - k) k = 13 then -100006 else nI (ff (pF z) (13 - k) k)
def kI : Nat → Int32
  | 0 => -1
  | k + 1 => nI k
theorem kI_s (k : Nat) : kI (k + 1) + (-1) = kI k := by
  cases k with
  | zero => rfl
  | succ k =>
    show nI (k + 1) + (-1) = nI k
    rw [← nI_pred k]
    grind
theorem duF_13 (z : xV) : duF z 13 = -100006 := rfl
theorem duF_t {z : xV} {k : Nat} (hk : k < 13) (h : pF z k = true) : nI k = duF z k := by
  unfold duF
  obtain ⟨d, hd⟩ : ∃ d, 13 - k = d + 1 := ⟨12 - k, by omega⟩
  rw [hd, ff, if_pos h, if_neg (by omega)]
theorem duF_f {z : xV} {k : Nat} (hk : k < 13) (h : ¬ pF z k = true) : duF z (k + 1) = duF z k := by
  unfold duF
  obtain ⟨d, hd⟩ : ∃ d, 13 - k = d + 1 := ⟨12 - k, by omega⟩
  have hd2 : 13 - (k + 1) = d := by omega
  rw [hd, hd2, ff, if_neg h]
theorem cUnt_d {z : xV} (h : ¬ z 12 = 0) : cUnt z = duF z 0 := by
  unfold cUnt duF
  rw [if_neg h]
  rfl
theorem cUnt_n {z : xV} (h : z 12 = 0) : cUnt z = -100005 := by
  unfold cUnt
  rw [if_pos h]
theorem tan14 {z : xV} (hv : IV z) (h : ¬ z 12 = 0) : cTanker z 1 4 = cDraught z 1 := by
  obtain ⟨w, -, hw5, hw⟩ := rgN (lo := 0) (hi := 5) (by decide) (by decide) hv.2.2.1
  have e : cIsT z 1 = bI (decide (1 ≤ w)) := cIsT_n (p := 1) hw hw5 (by decide) (by decide)
  have h1 : 1 ≤ w := by
    rcases Nat.eq_zero_or_pos w with q | q
    · exact absurd (by rw [hw, q]; rfl) h
    · exact q
  unfold cTanker
  rw [if_neg (by decide), if_neg (by rw [e, decide_eq_true h1]; decide), if_pos rfl]
  rfl
theorem flm12 (h : Nat) (hh : h < 2 ^ 30) : tn (flm (nI h) 12) = h % 12 := by
  unfold flm
  have e0 : (12 : Int32) = nI 12 := rfl
  have e1 : nI h - nI h / 12 * 12 = nI (h % 12) := by
    rw [e0, pk_div (by omega) (by decide) (by decide), pk_mul, pk_sub (Nat.div_mul_le_self h 12)]
    have := Nat.div_add_mod h 12
    congr 1
    omega
  have e2 : (0 : Int32) ≤ nI h ^^^ 12 := by
    have hb : (nI h ^^^ 12).toBitVec.msb = false := by
      show ((nI h).toBitVec ^^^ 12#32).msb = false
      rw [BitVec.msb_xor]
      have : (nI h).toBitVec.msb = false := by
        rw [show (nI h).toBitVec = BitVec.ofNat 32 h from rfl, BitVec.msb_eq_false_iff_two_mul_lt, BitVec.toNat_ofNat, Nat.mod_eq_of_lt (by omega)]
        omega
      rw [this]; rfl
    rw [i_le, show (0 : Int32).toInt = 0 from rfl, show (nI h ^^^ 12).toInt = (nI h ^^^ 12).toBitVec.toInt from rfl, BitVec.toInt_eq_toNat_of_msb hb]
    exact Int.natCast_nonneg _
  rw [if_pos e2, e1]
  exact nI_clamp (by omega)
theorem tide12 {z : xV} {h : Nat} (h6 : z 6 = nI h) (hh : h < 100000) : cTide z (z 6 + 12) = cTide z (z 6) := by
  unfold cTide
  rw [h6, show (12 : Int32) = nI 12 from rfl, nI_add, show nI 12 = 12 from rfl, flm12 _ (by omega), flm12 _ (by omega), show (h + 12) % 12 = h % 12 by omega]
theorem tide6_all : ∀ a, a < 41 → ∀ r, r < 12 → nI a * xsV 3 ((r + 6) % 12) / 10 = -(nI a * xsV 3 r / 10) := by decide +kernel
theorem tide6 {z : xV} (hv : IV z) {h : Nat} (h6 : z 6 = nI h) (hh : h < 100000) : cTide z (z 6 + 6) = -cTide z (z 6) := by
  obtain ⟨a, -, ha, ea⟩ := rgN (lo := 0) (hi := 40) (by decide) (by decide) hv.1.2.1
  unfold cTide
  rw [h6, show (6 : Int32) = nI 6 from rfl, nI_add, flm12 _ (by omega), flm12 _ (by omega), ea, show (h + 6) % 12 = (h % 12 + 6) % 12 by omega]
  exact tide6_all a (by omega) _ (Nat.mod_lt _ (by decide))
theorem hr_ok {z : xV} {h : Nat} (h6 : z 6 = nI h) (hh : h < 100000) (k : Nat) (hk : k ≤ 100) : ¬ z 6 + nI k < 0 := by
  rw [h6, nI_add]
  exact nI_pos (by omega)
set_option maxHeartbeats 20000000 in
set_option maxRecDepth 100000 in
theorem c_L_isFloating (l : Launch) (U : xU) {Kp : Nat → Prop} {μ0 : xH} {a : Nat} {z : xV} {un : Nat} {t s0 s1 : xV} {v0 v1 : Int32} (hR : LR U Kp μ0 a z un t s0 s1 v0 v1) {n : Nat} {f : Nat → Int32} (hL : LV z f n) (hn : n ≤ 40) : Ct l U yL_isFloating cL_isFloating 3 (some .boolean) ({ frames := 5, cells := 0, slots := 0, locals := 110 } : Room) [.ref a] μ0 (fun r μ' => r = some (.int 1) ∧ μ' = μ0) := by
  refine Ct.of [some (.ref a), none, none] (by decide +kernel) rfl (Nat.le_of_ble_eq_true rfl) (fun K Q X hnm hQ => ?_)
  obtain ⟨hr, hrn, h6⟩ := hL.1.2.2.1
  refine aw_ldc X dL_isFloating_0 a_L_109 ?_
  refine aw_istore_n X dL_isFloating_2 rfl (by decide) ?_
  refine aw_bipush X (12) dL_isFloating_3 rfl ?_
  refine aw_istore_n X dL_isFloating_5 rfl (by decide) ?_
  by_cases h12 : z 12 = 0
  · skip
    refine aw_iload_n X dL_isFloating_6 rfl ?_
    refine aw_if_lt_f (tgt := 64) X dL_isFloating_7 (by decide) (by decide) ?_
    refine aw_aload_n X dL_isFloating_10 rfl ?_
    refine aw_bipush X (9) dL_isFloating_11 rfl ?_
    refine aw_lF (As := [.int _]) X hR.g0 (l_count hR _ (by decide) (by decide)) s_L_22 k_X4_count (by decide) ⟨rfl, rfl⟩ (by exact ⟨Nat.le_of_ble_eq_true rfl, Nat.le_of_ble_eq_true rfl⟩) rfl (by exact Nat.le_of_ble_eq_true rfl) rfl dL_isFloating_13 ?_
    refine aw_top (z 12) rfl ?_
    refine aw_if_le_t (tgt := 64) X dL_isFloating_16 (by decide) (by rw [h12]; decide) ?_
    refine aw_aload_n X dL_isFloating_64 rfl ?_
    refine aw_lF (As := []) X hR.g0 (l_untilFloats hR) s_L_113 k_X4_untilFloats (by decide) ⟨rfl, rfl⟩ (by exact ⟨Nat.le_of_ble_eq_true rfl, Nat.le_of_ble_eq_true rfl⟩) rfl (by exact Nat.le_of_ble_eq_true rfl) rfl dL_isFloating_65 ?_
    refine aw_top (-100005) (cUnt_n h12) ?_
    refine aw_aload_n X dL_isFloating_68 rfl ?_
    refine aw_bipush X (9) dL_isFloating_69 rfl ?_
    refine aw_lF (As := [.int _]) X hR.g0 (l_count hR _ (by decide) (by decide)) s_L_22 k_X4_count (by decide) ⟨rfl, rfl⟩ (by exact ⟨Nat.le_of_ble_eq_true rfl, Nat.le_of_ble_eq_true rfl⟩) rfl (by exact Nat.le_of_ble_eq_true rfl) rfl dL_isFloating_71 ?_
    refine aw_top (z 12) rfl ?_
    refine aw_if_ne_f (tgt := 82) X dL_isFloating_74 (by decide) h12 ?_
    refine aw_ldc X dL_isFloating_77 a_L_99 ?_
    refine aw_goto (tgt := 83) X dL_isFloating_79 (by decide) ?_
    refine aw_icmp_ne_f (tgt := 135) X dL_isFloating_83 (by decide) (by decide) ?_
    refine aw_aload_n X dL_isFloating_86 rfl ?_
    refine aw_aload_n X dL_isFloating_87 rfl ?_
    refine aw_bipush X (6) dL_isFloating_88 rfl ?_
    refine aw_lF (As := [.int _]) X hR.g0 (l_count hR _ (by decide) (by decide)) s_L_22 k_X4_count (by decide) ⟨rfl, rfl⟩ (by exact ⟨Nat.le_of_ble_eq_true rfl, Nat.le_of_ble_eq_true rfl⟩) rfl (by exact Nat.le_of_ble_eq_true rfl) rfl dL_isFloating_90 ?_
    refine aw_top (z 6) rfl ?_
    refine aw_bipush X (12) dL_isFloating_93 rfl ?_
    refine aw_iadd X dL_isFloating_95 ?_
    refine aw_lF (As := [.int _]) X hR.g0 (l_tide hR _) s_L_110 k_X4_tide (by decide) ⟨rfl, rfl⟩ (by exact ⟨Nat.le_of_ble_eq_true rfl, Nat.le_of_ble_eq_true rfl⟩) rfl (by exact Nat.le_of_ble_eq_true rfl) rfl dL_isFloating_96 ?_
    refine aw_top (cTide z (z 6 + 12)) (if_neg (hr_ok h6 (by omega) 12 (by omega))) ?_
    refine aw_aload_n X dL_isFloating_99 rfl ?_
    refine aw_bipush X (7) dL_isFloating_100 rfl ?_
    refine aw_lF (As := [.int _]) X hR.g0 (l_count hR _ (by decide) (by decide)) s_L_22 k_X4_count (by decide) ⟨rfl, rfl⟩ (by exact ⟨Nat.le_of_ble_eq_true rfl, Nat.le_of_ble_eq_true rfl⟩) rfl (by exact Nat.le_of_ble_eq_true rfl) rfl dL_isFloating_102 ?_
    refine aw_top (cTide z (z 6)) rfl ?_
    refine aw_icmp_ne_f (tgt := 135) X dL_isFloating_105 (by decide) (tide12 h6 (by omega)) ?_
    refine aw_aload_n X dL_isFloating_108 rfl ?_
    refine aw_aload_n X dL_isFloating_109 rfl ?_
    refine aw_bipush X (6) dL_isFloating_110 rfl ?_
    refine aw_lF (As := [.int _]) X hR.g0 (l_count hR _ (by decide) (by decide)) s_L_22 k_X4_count (by decide) ⟨rfl, rfl⟩ (by exact ⟨Nat.le_of_ble_eq_true rfl, Nat.le_of_ble_eq_true rfl⟩) rfl (by exact Nat.le_of_ble_eq_true rfl) rfl dL_isFloating_112 ?_
    refine aw_top (z 6) rfl ?_
    refine aw_bipush X (6) dL_isFloating_115 rfl ?_
    refine aw_iadd X dL_isFloating_117 ?_
    refine aw_lF (As := [.int _]) X hR.g0 (l_tide hR _) s_L_110 k_X4_tide (by decide) ⟨rfl, rfl⟩ (by exact ⟨Nat.le_of_ble_eq_true rfl, Nat.le_of_ble_eq_true rfl⟩) rfl (by exact Nat.le_of_ble_eq_true rfl) rfl dL_isFloating_118 ?_
    refine aw_top (cTide z (z 6 + 6)) (if_neg (hr_ok h6 (by omega) 6 (by omega))) ?_
    refine aw_aload_n X dL_isFloating_121 rfl ?_
    refine aw_bipush X (7) dL_isFloating_122 rfl ?_
    refine aw_lF (As := [.int _]) X hR.g0 (l_count hR _ (by decide) (by decide)) s_L_22 k_X4_count (by decide) ⟨rfl, rfl⟩ (by exact ⟨Nat.le_of_ble_eq_true rfl, Nat.le_of_ble_eq_true rfl⟩) rfl (by exact Nat.le_of_ble_eq_true rfl) rfl dL_isFloating_124 ?_
    refine aw_top (cTide z (z 6)) rfl ?_
    refine aw_ineg X dL_isFloating_127 ?_
    refine aw_icmp_ne_f (tgt := 135) X dL_isFloating_128 (by decide) (tide6 hL.1.1 h6 (by omega)) ?_
    refine aw_iconst X (1) dL_isFloating_131 rfl ?_
    refine aw_goto (tgt := 136) X dL_isFloating_132 (by decide) ?_
    exact aw_zret X rfl hQ dL_isFloating_136 ⟨rfl, rfl⟩
  · skip
    have h12p : ¬ z 12 ≤ 0 := fun q => h12 (Int32.le_antisymm q hL.1.1.2.2.1.1)
    have loop : ∀ k, k ≤ 13 → AW U K 3 0 0 Q μ0 6 [some (.ref a), some (.int (duF z k)), some (.int (kI k))] [] := by
      intro k
      induction k with
      | zero =>
        intro hk
        refine aw_iload_n X dL_isFloating_6 rfl ?_
        refine aw_if_lt_t (tgt := 64) X dL_isFloating_7 (by decide) (by decide) ?_
        refine aw_aload_n X dL_isFloating_64 rfl ?_
        refine aw_lF (As := []) X hR.g0 (l_untilFloats hR) s_L_113 k_X4_untilFloats (by decide) ⟨rfl, rfl⟩ (by exact ⟨Nat.le_of_ble_eq_true rfl, Nat.le_of_ble_eq_true rfl⟩) rfl (by exact Nat.le_of_ble_eq_true rfl) rfl dL_isFloating_65 ?_
        refine aw_top (duF z 0) (cUnt_d h12) ?_
        refine aw_aload_n X dL_isFloating_68 rfl ?_
        refine aw_bipush X (9) dL_isFloating_69 rfl ?_
        refine aw_lF (As := [.int _]) X hR.g0 (l_count hR _ (by decide) (by decide)) s_L_22 k_X4_count (by decide) ⟨rfl, rfl⟩ (by exact ⟨Nat.le_of_ble_eq_true rfl, Nat.le_of_ble_eq_true rfl⟩) rfl (by exact Nat.le_of_ble_eq_true rfl) rfl dL_isFloating_71 ?_
        refine aw_top (z 12) rfl ?_
        refine aw_if_ne_t (tgt := 82) X dL_isFloating_74 (by decide) h12 ?_
        refine aw_iload_n X dL_isFloating_82 rfl ?_
        refine aw_icmp_ne_f (tgt := 135) X dL_isFloating_83 (by decide) rfl ?_
        refine aw_aload_n X dL_isFloating_86 rfl ?_
        refine aw_aload_n X dL_isFloating_87 rfl ?_
        refine aw_bipush X (6) dL_isFloating_88 rfl ?_
        refine aw_lF (As := [.int _]) X hR.g0 (l_count hR _ (by decide) (by decide)) s_L_22 k_X4_count (by decide) ⟨rfl, rfl⟩ (by exact ⟨Nat.le_of_ble_eq_true rfl, Nat.le_of_ble_eq_true rfl⟩) rfl (by exact Nat.le_of_ble_eq_true rfl) rfl dL_isFloating_90 ?_
        refine aw_top (z 6) rfl ?_
        refine aw_bipush X (12) dL_isFloating_93 rfl ?_
        refine aw_iadd X dL_isFloating_95 ?_
        refine aw_lF (As := [.int _]) X hR.g0 (l_tide hR _) s_L_110 k_X4_tide (by decide) ⟨rfl, rfl⟩ (by exact ⟨Nat.le_of_ble_eq_true rfl, Nat.le_of_ble_eq_true rfl⟩) rfl (by exact Nat.le_of_ble_eq_true rfl) rfl dL_isFloating_96 ?_
        refine aw_top (cTide z (z 6 + 12)) (if_neg (hr_ok h6 (by omega) 12 (by omega))) ?_
        refine aw_aload_n X dL_isFloating_99 rfl ?_
        refine aw_bipush X (7) dL_isFloating_100 rfl ?_
        refine aw_lF (As := [.int _]) X hR.g0 (l_count hR _ (by decide) (by decide)) s_L_22 k_X4_count (by decide) ⟨rfl, rfl⟩ (by exact ⟨Nat.le_of_ble_eq_true rfl, Nat.le_of_ble_eq_true rfl⟩) rfl (by exact Nat.le_of_ble_eq_true rfl) rfl dL_isFloating_102 ?_
        refine aw_top (cTide z (z 6)) rfl ?_
        refine aw_icmp_ne_f (tgt := 135) X dL_isFloating_105 (by decide) (tide12 h6 (by omega)) ?_
        refine aw_aload_n X dL_isFloating_108 rfl ?_
        refine aw_aload_n X dL_isFloating_109 rfl ?_
        refine aw_bipush X (6) dL_isFloating_110 rfl ?_
        refine aw_lF (As := [.int _]) X hR.g0 (l_count hR _ (by decide) (by decide)) s_L_22 k_X4_count (by decide) ⟨rfl, rfl⟩ (by exact ⟨Nat.le_of_ble_eq_true rfl, Nat.le_of_ble_eq_true rfl⟩) rfl (by exact Nat.le_of_ble_eq_true rfl) rfl dL_isFloating_112 ?_
        refine aw_top (z 6) rfl ?_
        refine aw_bipush X (6) dL_isFloating_115 rfl ?_
        refine aw_iadd X dL_isFloating_117 ?_
        refine aw_lF (As := [.int _]) X hR.g0 (l_tide hR _) s_L_110 k_X4_tide (by decide) ⟨rfl, rfl⟩ (by exact ⟨Nat.le_of_ble_eq_true rfl, Nat.le_of_ble_eq_true rfl⟩) rfl (by exact Nat.le_of_ble_eq_true rfl) rfl dL_isFloating_118 ?_
        refine aw_top (cTide z (z 6 + 6)) (if_neg (hr_ok h6 (by omega) 6 (by omega))) ?_
        refine aw_aload_n X dL_isFloating_121 rfl ?_
        refine aw_bipush X (7) dL_isFloating_122 rfl ?_
        refine aw_lF (As := [.int _]) X hR.g0 (l_count hR _ (by decide) (by decide)) s_L_22 k_X4_count (by decide) ⟨rfl, rfl⟩ (by exact ⟨Nat.le_of_ble_eq_true rfl, Nat.le_of_ble_eq_true rfl⟩) rfl (by exact Nat.le_of_ble_eq_true rfl) rfl dL_isFloating_124 ?_
        refine aw_top (cTide z (z 6)) rfl ?_
        refine aw_ineg X dL_isFloating_127 ?_
        refine aw_icmp_ne_f (tgt := 135) X dL_isFloating_128 (by decide) (tide6 hL.1.1 h6 (by omega)) ?_
        refine aw_iconst X (1) dL_isFloating_131 rfl ?_
        refine aw_goto (tgt := 136) X dL_isFloating_132 (by decide) ?_
        exact aw_zret X rfl hQ dL_isFloating_136 ⟨rfl, rfl⟩
      | succ k ih =>
        intro hk
        refine aw_iload_n X dL_isFloating_6 rfl ?_
        refine aw_if_lt_f (tgt := 64) X dL_isFloating_7 (by decide) (nI_pos (by omega)) ?_
        refine aw_aload_n X dL_isFloating_10 rfl ?_
        refine aw_bipush X (9) dL_isFloating_11 rfl ?_
        refine aw_lF (As := [.int _]) X hR.g0 (l_count hR _ (by decide) (by decide)) s_L_22 k_X4_count (by decide) ⟨rfl, rfl⟩ (by exact ⟨Nat.le_of_ble_eq_true rfl, Nat.le_of_ble_eq_true rfl⟩) rfl (by exact Nat.le_of_ble_eq_true rfl) rfl dL_isFloating_13 ?_
        refine aw_top (z 12) rfl ?_
        refine aw_if_le_f (tgt := 64) X dL_isFloating_16 (by decide) h12p ?_
        refine aw_aload_n X dL_isFloating_19 rfl ?_
        refine aw_iconst X (0) dL_isFloating_20 rfl ?_
        refine aw_lF (As := [.int _]) X hR.g0 (l_count hR _ (by decide) (by decide)) s_L_22 k_X4_count (by decide) ⟨rfl, rfl⟩ (by exact ⟨Nat.le_of_ble_eq_true rfl, Nat.le_of_ble_eq_true rfl⟩) rfl (by exact Nat.le_of_ble_eq_true rfl) rfl dL_isFloating_21 ?_
        refine aw_top (z 0) rfl ?_
        refine aw_aload_n X dL_isFloating_24 rfl ?_
        refine aw_aload_n X dL_isFloating_25 rfl ?_
        refine aw_bipush X (6) dL_isFloating_26 rfl ?_
        refine aw_lF (As := [.int _]) X hR.g0 (l_count hR _ (by decide) (by decide)) s_L_22 k_X4_count (by decide) ⟨rfl, rfl⟩ (by exact ⟨Nat.le_of_ble_eq_true rfl, Nat.le_of_ble_eq_true rfl⟩) rfl (by exact Nat.le_of_ble_eq_true rfl) rfl dL_isFloating_28 ?_
        refine aw_top (z 6) rfl ?_
        refine aw_iload_n X dL_isFloating_31 rfl ?_
        refine aw_iadd X dL_isFloating_32 ?_
        refine aw_lF (As := [.int _]) X hR.g0 (l_tide hR _) s_L_110 k_X4_tide (by decide) ⟨rfl, rfl⟩ (by exact ⟨Nat.le_of_ble_eq_true rfl, Nat.le_of_ble_eq_true rfl⟩) rfl (by exact Nat.le_of_ble_eq_true rfl) rfl dL_isFloating_33 ?_
        refine aw_top (cTide z (z 6 + nI k)) (if_neg (hr_ok h6 (by omega) k (by omega))) ?_
        refine aw_iadd X dL_isFloating_36 ?_
        refine aw_aload_n X dL_isFloating_37 rfl ?_
        refine aw_iconst X (1) dL_isFloating_38 rfl ?_
        refine aw_iconst X (4) dL_isFloating_39 rfl ?_
        refine aw_lF (As := [.int _, .int _]) X hR.g0 (l_tanker hR _ _) s_L_15 k_X4_tanker (by decide) ⟨rfl, rfl⟩ (by exact ⟨Nat.le_of_ble_eq_true rfl, Nat.le_of_ble_eq_true rfl⟩) rfl (by exact Nat.le_of_ble_eq_true rfl) rfl dL_isFloating_40 ?_
        refine aw_top (cTanker z 1 4) rfl ?_
        refine aw_top (cDraught z 1) (tan14 hL.1.1 h12) ?_
        refine aw_aload_n X dL_isFloating_43 rfl ?_
        refine aw_iconst X (2) dL_isFloating_44 rfl ?_
        refine aw_lF (As := [.int _]) X hR.g0 (l_count hR _ (by decide) (by decide)) s_L_22 k_X4_count (by decide) ⟨rfl, rfl⟩ (by exact ⟨Nat.le_of_ble_eq_true rfl, Nat.le_of_ble_eq_true rfl⟩) rfl (by exact Nat.le_of_ble_eq_true rfl) rfl dL_isFloating_45 ?_
        refine aw_top (z 2) rfl ?_
        refine aw_iadd X dL_isFloating_48 ?_
        refine aw_icmp_lt (tgt := 56) X dL_isFloating_49 (by decide) (fun c49_1 => ?_) (fun c49_1 => ?_)
        · skip
          refine aw_iload_n X dL_isFloating_56 rfl ?_
          refine aw_istore_n X dL_isFloating_57 rfl (by decide) ?_
          refine aw_iinc X (-1) dL_isFloating_58 rfl rfl rfl (by decide) ?_
          refine aw_goto (tgt := 6) X dL_isFloating_61 (by decide) ?_
          refine aw_sub [some (.ref a), some (.int (duF z k)), some (.int (kI k))] ⟨rfl, (congrArg (fun q => some (Value.int q)) (duF_f (by omega) (fun q => by have := of_decide_eq_true q; exact absurd c49_1 (Int32.not_lt.mpr this)))), (congrArg (fun q => some (Value.int q)) (kI_s k)), trivial⟩ ?_
          exact ih (by omega)
        · skip
          refine aw_iload_n X dL_isFloating_52 rfl ?_
          refine aw_goto (tgt := 57) X dL_isFloating_53 (by decide) ?_
          refine aw_istore_n X dL_isFloating_57 rfl (by decide) ?_
          refine aw_iinc X (-1) dL_isFloating_58 rfl rfl rfl (by decide) ?_
          refine aw_goto (tgt := 6) X dL_isFloating_61 (by decide) ?_
          refine aw_sub [some (.ref a), some (.int (duF z k)), some (.int (kI k))] ⟨rfl, (congrArg (fun q => some (Value.int q)) (duF_t (by omega) (decide_eq_true (Int32.not_lt.mp c49_1)))), (congrArg (fun q => some (Value.int q)) (kI_s k)), trivial⟩ ?_
          exact ih (by omega)
    refine aw_sub [some (.ref a), some (.int (duF z 13)), some (.int (kI 13))] ⟨rfl, rfl, rfl, trivial⟩ ?_
    exact loop 13 (Nat.le_refl _)
