/-! what some hours would bring comes with them -/
theorem lg_self (x : Int64) : lg_cmp x x = 0 := by
  unfold lg_cmp
  simp
theorem gp_eq {z : xV} {h k : Nat} (h6 : z 6 = nI h) (hh : h ≤ 9000) (h1 : 1 ≤ k) (hk : k ≤ 48) : gPass z (nI k) = gHours z k := by
  unfold gPass
  rw [if_neg, if_neg, show tn (nI k) = k from nI_clamp (by omega)]
  · rw [h6, nI_add]
    exact nI_nlt (b := h + k) (a := 9999) (by omega) (by omega) |> fun q => q
  · rintro (q | q)
    · exact nI_nlt (a := k) (b := 1) h1 (by omega) q
    · exact nI_nlt (a := 48) (b := k) hk (by omega) q
theorem gh_ok {z : xV} (hv : IV z) (k : Nat) (hk : k ≤ 200) : ¬ (gHours z k).1 < 0 := by
  obtain ⟨-, u, u1, u2⟩ := hv.hours k
  rw [u2]; exact nI_pos (by omega)
theorem ifp {z : xV} {k : Nat} (h1 : 1 ≤ k) (hk : k ≤ 48) : ∀ w : Int32, (w = 0 ∨ w = 1 ∨ w = 2 ∨ w = 3) → cIfP z (nI k) w = if w = 0 then (gHours z k).1 else if w = 1 then (gHours z k).2 9 - z 9 else if w = 2 then cSpoilt (gHours z k).2 - cSpoilt z else (gHours z k).2 11 - z 11 := by
  intro w hw
  unfold cIfP
  rw [if_neg, show tn (nI k) = k from nI_clamp (by omega)]
  rintro (q | q | q)
  · exact nI_nlt (a := k) (b := 1) h1 (by omega) q
  · exact nI_nlt (a := 200) (b := k) (by omega) (by omega) q
  · rcases hw with rfl | rfl | rfl | rfl <;> revert q <;> decide
theorem ifp0 {z : xV} {k : Nat} (h1 : 1 ≤ k) (hk : k ≤ 48) : cIfP z (nI k) 0 = (gHours z k).1 := by rw [ifp h1 hk 0 (by decide), if_pos rfl]
theorem ifp1 {z : xV} {k : Nat} (h1 : 1 ≤ k) (hk : k ≤ 48) : cIfP z (nI k) 1 = (gHours z k).2 9 - z 9 := by rw [ifp h1 hk 1 (by decide), if_neg (by decide), if_pos rfl]
theorem cSp_l (z : xV) : cSpoilt z = lSp z := by
  unfold cSpoilt lSp
  grind
theorem ifp2 {z : xV} {k : Nat} (h1 : 1 ≤ k) (hk : k ≤ 48) : cIfP z (nI k) 2 = lSp (gHours z k).2 - lSp z := by rw [ifp h1 hk 2 (by decide), if_neg (by decide), if_neg (by decide), if_pos rfl, cSp_l, cSp_l]
theorem ifp3 {z : xV} {k : Nat} (h1 : 1 ≤ k) (hk : k ≤ 48) : cIfP z (nI k) 3 = (gHours z k).2 11 - z 11 := by rw [ifp h1 hk 3 (by decide), if_neg (by decide), if_neg (by decide), if_neg (by decide)]
theorem lAt_u {z : xV} (h13 : z 13 = 1) : lAt z = cUnits z 0 := by
  unfold lAt cUnits
  rw [show cTanker z 0 0 = z (tz 0 0) from cTan_u (g := 0) (by decide) h13, show cTanker z 0 1 = z (tz 0 1) from cTan_u (g := 1) (by decide) h13, show cTanker z 0 2 = z (tz 0 2) from cTan_u (g := 2) (by decide) h13, show cTanker z 0 3 = z (tz 0 3) from cTan_u (g := 3) (by decide) h13]
  grind
theorem ff_min {P : Nat → Bool} : ∀ (d k j : Nat), k ≤ j → j < ff P d k → ¬ P j = true := by
  intro d
  induction d with
  | zero => intro k j h1 h2; rw [ff] at h2; omega
  | succ d ih =>
    intro k j h1 h2
    rw [ff] at h2
    by_cases c : P k = true
    · rw [if_pos c] at h2; omega
    · rw [if_neg c] at h2
      by_cases e : j = k
      · rw [e]; exact c
      · exact ih (k + 1) j (by omega) h2
theorem ff_hit {P : Nat → Bool} : ∀ (d k : Nat), ff P d k < k + d → P (ff P d k) = true := by
  intro d
  induction d with
  | zero => intro k h; rw [ff] at h; omega
  | succ d ih =>
    intro k h
    rw [ff] at h ⊢
    by_cases c : P k = true
    · rw [if_pos c]; exact c
    · rw [if_neg c] at h ⊢
      exact ih (k + 1) (by omega)
theorem cEmp_0 {z : xV} (h13 : z 13 = 0) : cEmp z = -100005 := by
  unfold cEmp
  rw [if_pos h13]
theorem cEmp_n {z : xV} (h13 : ¬ z 13 = 0) (h : ¬ cUnits (gHours z (ceN z)).2 0 = 0) : cEmp z = -100006 := by
  unfold cEmp
  rw [if_neg h13, if_neg h]
theorem cEmp_k {z : xV} (h13 : ¬ z 13 = 0) (h : cUnits (gHours z (ceN z)).2 0 = 0) {j : Nat} (hj : ceN z = j) : cEmp z = nI j := by
  unfold cEmp
  rw [if_neg h13, if_pos h, hj]
theorem at_0 {z : xV} (h13 : z 13 = 1) {j : Nat} (h : cUnits (gHours z j).2 0 = 0) : lAt (gHours z j).2 = 0 := by
  rw [lAt_u (by rw [gHours_o (by omega)]; exact h13)]
  exact h
theorem at_p {z : xV} (hv : IV z) (h13 : z 13 = 1) {j i : Nat} (hj : ceN z = j) (hi : i < j) : ¬ lAt (gHours z i).2 ≤ 0 := by
  have e13 : (gHours z i).2 13 = 1 := by rw [gHours_o (by omega)]; exact h13
  rw [lAt_u e13]
  have h1 : ¬ cUnits (gHours z i).2 0 = 0 := by
    have := ff_min (P := fun k => decide (cUnits (gHours z k).2 0 = 0)) 200 0 i (Nat.zero_le _) (by show i < ceN z; omega)
    rw [decide_eq_true_eq] at this
    exact this
  obtain ⟨-, o2⟩ := ok_units (hv.hours i).1 e13
  exact fun q => h1 (Int32.le_antisymm q (Int32.not_lt.mp o2))
set_option maxHeartbeats 20000000 in
set_option maxRecDepth 100000 in
theorem c_L_isAhead (l : Launch) (U : xU) {Kp : Nat → Prop} {μ0 : xH} {a : Nat} {z : xV} {un : Nat} {t s0 s1 : xV} {v0 v1 : Int32} (hR : LR U Kp μ0 a z un t s0 s1 v0 v1) {n : Nat} {f : Nat → Int32} (hL : LV z f n) (hn : n ≤ 40) (k : Nat) (hk1 : 1 ≤ k) (hk : k ≤ 48) : Ct l U yL_isAhead cL_isAhead 14 (some .boolean) ({ frames := 7, cells := 0, slots := 0, locals := 153 } : Room) [.ref a, .int (nI k)] μ0 (fun r μ' => r = some (.int 1) ∧ (∃ un' t' s0' s1' v0' v1', LR U Kp μ' a z un' t' s0' s1' v0' v1') ∧ KF Kp μ0 μ') := by
  refine Ct.of [some (.ref a), some (.int (nI k)), none, none, none, none, none, none, none, none, none, none, none, none] (by decide +kernel) rfl (Nat.le_of_ble_eq_true rfl) (fun K Q X hnm hQ => ?_)
  obtain ⟨hr, hrn, h6⟩ := hL.1.2.2.1
  obtain ⟨μ, hμ, hR, hF⟩ : ∃ μ : xH, μ0 = μ ∧ LR U Kp μ a z un t s0 s1 v0 v1 ∧ KF Kp μ0 μ := ⟨μ0, rfl, hR, KF.rf⟩
  refine aw_mu hμ ?_
  refine aw_aload_n X dL_isAhead_0 rfl ?_
  refine aw_lSF (As := [.ref _]) X (c_L_tale (kl K) U hR) s_L_83 k_L_tale (by decide) ⟨rfl, rfl⟩ (by exact ⟨Nat.le_of_ble_eq_true rfl, Nat.le_of_ble_eq_true rfl⟩) rfl (by exact Nat.le_of_ble_eq_true rfl) dL_isAhead_1 ?_
  refine aw_lstore_n X dL_isAhead_4 rfl (by decide) ?_
  refine aw_aload_n X dL_isAhead_5 rfl ?_
  refine aw_iconst X (0) dL_isAhead_6 rfl ?_
  refine aw_lV (As := [.int _]) X hR.g0 (l_save0 hR) s_L_87 k_X4_save (by decide) ⟨rfl, rfl⟩ (by exact ⟨Nat.le_of_ble_eq_true rfl, Nat.le_of_ble_eq_true rfl⟩) rfl (by exact Nat.le_of_ble_eq_true rfl) rfl dL_isAhead_7 (fun μ hP => ?_)
  obtain ⟨hR, hK⟩ := hP
  have hF := hF.tr hK
  refine aw_istore X dL_isAhead_10 rfl (by decide) ?_
  refine aw_aload_n X dL_isAhead_12 rfl ?_
  refine aw_bipush X (15) dL_isAhead_13 rfl ?_
  refine aw_lF (As := [.int _]) X hR.g0 (l_count hR _ (by decide) (by decide)) s_L_22 k_X4_count (by decide) ⟨rfl, rfl⟩ (by exact ⟨Nat.le_of_ble_eq_true rfl, Nat.le_of_ble_eq_true rfl⟩) rfl (by exact Nat.le_of_ble_eq_true rfl) rfl dL_isAhead_15 ?_
  refine aw_top (z 9) rfl ?_
  refine aw_istore X dL_isAhead_18 rfl (by decide) ?_
  refine aw_aload_n X dL_isAhead_20 rfl ?_
  refine aw_lSF (As := [.ref _]) X (c_L_spoilt (kl K) U hR) s_L_79 k_L_spoilt (by decide) ⟨rfl, rfl⟩ (by exact ⟨Nat.le_of_ble_eq_true rfl, Nat.le_of_ble_eq_true rfl⟩) rfl (by exact Nat.le_of_ble_eq_true rfl) dL_isAhead_21 ?_
  refine aw_istore X dL_isAhead_24 rfl (by decide) ?_
  refine aw_aload_n X dL_isAhead_26 rfl ?_
  refine aw_bipush X (17) dL_isAhead_27 rfl ?_
  refine aw_lF (As := [.int _]) X hR.g0 (l_count hR _ (by decide) (by decide)) s_L_22 k_X4_count (by decide) ⟨rfl, rfl⟩ (by exact ⟨Nat.le_of_ble_eq_true rfl, Nat.le_of_ble_eq_true rfl⟩) rfl (by exact Nat.le_of_ble_eq_true rfl) rfl dL_isAhead_29 ?_
  refine aw_top (z 11) rfl ?_
  refine aw_istore X dL_isAhead_32 rfl (by decide) ?_
  refine aw_aload_n X dL_isAhead_34 rfl ?_
  refine aw_iload_n X dL_isAhead_35 rfl ?_
  refine aw_iconst X (0) dL_isAhead_36 rfl ?_
  refine aw_lV (As := [.int _, .int _]) X hR.g0 (l_ifPassed hR _ _) s_L_90 k_X4_ifPassed (by decide) ⟨rfl, rfl⟩ (by exact ⟨Nat.le_of_ble_eq_true rfl, Nat.le_of_ble_eq_true rfl⟩) rfl (by exact Nat.le_of_ble_eq_true rfl) rfl dL_isAhead_37 (fun μ hP => ?_)
  obtain ⟨hR, hK⟩ := hP
  have hF := hF.tr hK
  refine aw_top ((gHours z k).1) (ifp0 hk1 hk) ?_
  refine aw_istore X dL_isAhead_40 rfl (by decide) ?_
  refine aw_aload_n X dL_isAhead_42 rfl ?_
  refine aw_iload_n X dL_isAhead_43 rfl ?_
  refine aw_iconst X (1) dL_isAhead_44 rfl ?_
  refine aw_lV (As := [.int _, .int _]) X hR.g0 (l_ifPassed hR _ _) s_L_90 k_X4_ifPassed (by decide) ⟨rfl, rfl⟩ (by exact ⟨Nat.le_of_ble_eq_true rfl, Nat.le_of_ble_eq_true rfl⟩) rfl (by exact Nat.le_of_ble_eq_true rfl) rfl dL_isAhead_45 (fun μ hP => ?_)
  obtain ⟨hR, hK⟩ := hP
  have hF := hF.tr hK
  refine aw_top ((gHours z k).2 9 - z 9) (ifp1 hk1 hk) ?_
  refine aw_istore X dL_isAhead_48 rfl (by decide) ?_
  refine aw_aload_n X dL_isAhead_50 rfl ?_
  refine aw_iload_n X dL_isAhead_51 rfl ?_
  refine aw_iconst X (2) dL_isAhead_52 rfl ?_
  refine aw_lV (As := [.int _, .int _]) X hR.g0 (l_ifPassed hR _ _) s_L_90 k_X4_ifPassed (by decide) ⟨rfl, rfl⟩ (by exact ⟨Nat.le_of_ble_eq_true rfl, Nat.le_of_ble_eq_true rfl⟩) rfl (by exact Nat.le_of_ble_eq_true rfl) rfl dL_isAhead_53 (fun μ hP => ?_)
  obtain ⟨hR, hK⟩ := hP
  have hF := hF.tr hK
  refine aw_top (lSp (gHours z k).2 - lSp z) (ifp2 hk1 hk) ?_
  refine aw_istore X dL_isAhead_56 rfl (by decide) ?_
  refine aw_aload_n X dL_isAhead_58 rfl ?_
  refine aw_iload_n X dL_isAhead_59 rfl ?_
  refine aw_iconst X (3) dL_isAhead_60 rfl ?_
  refine aw_lV (As := [.int _, .int _]) X hR.g0 (l_ifPassed hR _ _) s_L_90 k_X4_ifPassed (by decide) ⟨rfl, rfl⟩ (by exact ⟨Nat.le_of_ble_eq_true rfl, Nat.le_of_ble_eq_true rfl⟩) rfl (by exact Nat.le_of_ble_eq_true rfl) rfl dL_isAhead_61 (fun μ hP => ?_)
  obtain ⟨hR, hK⟩ := hP
  have hF := hF.tr hK
  refine aw_top ((gHours z k).2 11 - z 11) (ifp3 hk1 hk) ?_
  refine aw_istore X dL_isAhead_64 rfl (by decide) ?_
  refine aw_iload X dL_isAhead_66 rfl ?_
  refine aw_aload_n X dL_isAhead_68 rfl ?_
  refine aw_bipush X (6) dL_isAhead_69 rfl ?_
  refine aw_lF (As := [.int _]) X hR.g0 (l_count hR _ (by decide) (by decide)) s_L_22 k_X4_count (by decide) ⟨rfl, rfl⟩ (by exact ⟨Nat.le_of_ble_eq_true rfl, Nat.le_of_ble_eq_true rfl⟩) rfl (by exact Nat.le_of_ble_eq_true rfl) rfl dL_isAhead_71 ?_
  refine aw_top (z 6) rfl ?_
  refine aw_icmp_ne_f (tgt := 150) X dL_isAhead_74 (by decide) rfl ?_
  refine aw_aload_n X dL_isAhead_77 rfl ?_
  refine aw_lSF (As := [.ref _]) X (c_L_tale (kl K) U hR) s_L_83 k_L_tale (by decide) ⟨rfl, rfl⟩ (by exact ⟨Nat.le_of_ble_eq_true rfl, Nat.le_of_ble_eq_true rfl⟩) rfl (by exact Nat.le_of_ble_eq_true rfl) dL_isAhead_78 ?_
  refine aw_lload_n X dL_isAhead_81 rfl ?_
  refine aw_lcmp X dL_isAhead_82 ?_
  refine aw_top (0) (lg_self _) ?_
  refine aw_if_ne_f (tgt := 150) X dL_isAhead_83 (by decide) (by decide) ?_
  refine aw_aload_n X dL_isAhead_86 rfl ?_
  refine aw_iload_n X dL_isAhead_87 rfl ?_
  refine aw_lV (As := [.int _]) X hR.g0 (l_pass hR _) s_L_76 k_X4_pass (by decide) ⟨rfl, rfl⟩ (by exact ⟨Nat.le_of_ble_eq_true rfl, Nat.le_of_ble_eq_true rfl⟩) rfl (by exact Nat.le_of_ble_eq_true rfl) rfl dL_isAhead_88 (fun μ hP => ?_)
  obtain ⟨hR, hK⟩ := hP
  have hF := hF.tr hK
  have eP : gPass z (nI k) = gHours z k := gp_eq h6 (by omega) hk1 hk
  obtain ⟨un_1, t_1, hR⟩ : ∃ u w, LR U Kp μ a (gHours z k).2 u w z s1 1 v1 := ⟨_, _, by rw [eP] at hR; exact hR⟩
  refine aw_top ((gHours z k).1) (by rw [eP]) ?_
  refine aw_iload X dL_isAhead_91 rfl ?_
  refine aw_icmp_ne_f (tgt := 150) X dL_isAhead_93 (by decide) rfl ?_
  refine aw_aload_n X dL_isAhead_96 rfl ?_
  refine aw_bipush X (15) dL_isAhead_97 rfl ?_
  refine aw_lF (As := [.int _]) X hR.g0 (l_count hR _ (by decide) (by decide)) s_L_22 k_X4_count (by decide) ⟨rfl, rfl⟩ (by exact ⟨Nat.le_of_ble_eq_true rfl, Nat.le_of_ble_eq_true rfl⟩) rfl (by exact Nat.le_of_ble_eq_true rfl) rfl dL_isAhead_99 ?_
  refine aw_top ((gHours z k).2 9) rfl ?_
  refine aw_iload X dL_isAhead_102 rfl ?_
  refine aw_isub X dL_isAhead_104 ?_
  refine aw_iload X dL_isAhead_105 rfl ?_
  refine aw_icmp_ne_f (tgt := 150) X dL_isAhead_107 (by decide) rfl ?_
  refine aw_aload_n X dL_isAhead_110 rfl ?_
  refine aw_lSF (As := [.ref _]) X (c_L_spoilt (kl K) U hR) s_L_79 k_L_spoilt (by decide) ⟨rfl, rfl⟩ (by exact ⟨Nat.le_of_ble_eq_true rfl, Nat.le_of_ble_eq_true rfl⟩) rfl (by exact Nat.le_of_ble_eq_true rfl) dL_isAhead_111 ?_
  refine aw_iload X dL_isAhead_114 rfl ?_
  refine aw_isub X dL_isAhead_116 ?_
  refine aw_iload X dL_isAhead_117 rfl ?_
  refine aw_icmp_ne_f (tgt := 150) X dL_isAhead_119 (by decide) rfl ?_
  refine aw_aload_n X dL_isAhead_122 rfl ?_
  refine aw_bipush X (17) dL_isAhead_123 rfl ?_
  refine aw_lF (As := [.int _]) X hR.g0 (l_count hR _ (by decide) (by decide)) s_L_22 k_X4_count (by decide) ⟨rfl, rfl⟩ (by exact ⟨Nat.le_of_ble_eq_true rfl, Nat.le_of_ble_eq_true rfl⟩) rfl (by exact Nat.le_of_ble_eq_true rfl) rfl dL_isAhead_125 ?_
  refine aw_top ((gHours z k).2 11) rfl ?_
  refine aw_iload X dL_isAhead_128 rfl ?_
  refine aw_isub X dL_isAhead_130 ?_
  refine aw_iload X dL_isAhead_131 rfl ?_
  refine aw_icmp_ne_f (tgt := 150) X dL_isAhead_133 (by decide) rfl ?_
  refine aw_aload_n X dL_isAhead_136 rfl ?_
  refine aw_iconst X (0) dL_isAhead_137 rfl ?_
  refine aw_lV (As := [.int _]) X hR.g0 (l_restore0 hR (by decide)) s_L_93 k_X4_restore (by decide) ⟨rfl, rfl⟩ (by exact ⟨Nat.le_of_ble_eq_true rfl, Nat.le_of_ble_eq_true rfl⟩) rfl (by exact Nat.le_of_ble_eq_true rfl) rfl dL_isAhead_138 (fun μ hP => ?_)
  obtain ⟨⟨un_2, t_2, hR⟩, hK⟩ := hP
  have hF := hF.tr hK
  refine aw_iload X dL_isAhead_141 rfl ?_
  refine aw_icmp_ne_f (tgt := 150) X dL_isAhead_143 (by decide) rfl ?_
  refine aw_iconst X (1) dL_isAhead_146 rfl ?_
  refine aw_goto (tgt := 151) X dL_isAhead_147 (by decide) ?_
  refine aw_istore X dL_isAhead_151 rfl (by decide) ?_
  refine aw_aload_n X dL_isAhead_153 rfl ?_
  refine aw_lV (As := []) X hR.g0 (l_untilEmpty hR) s_L_96 k_X4_untilEmpty (by decide) ⟨rfl, rfl⟩ (by exact ⟨Nat.le_of_ble_eq_true rfl, Nat.le_of_ble_eq_true rfl⟩) rfl (by exact Nat.le_of_ble_eq_true rfl) rfl dL_isAhead_154 (fun μ hP => ?_)
  obtain ⟨hR, hK⟩ := hP
  have hF := hF.tr hK
  by_cases h13 : z 13 = 0
  · skip
    refine aw_top (-100005) (cEmp_0 h13) ?_
    refine aw_istore X dL_isAhead_157 rfl (by decide) ?_
    refine aw_aload_n X dL_isAhead_159 rfl ?_
    refine aw_bipush X (10) dL_isAhead_160 rfl ?_
    refine aw_lF (As := [.int _]) X hR.g0 (l_count hR _ (by decide) (by decide)) s_L_22 k_X4_count (by decide) ⟨rfl, rfl⟩ (by exact ⟨Nat.le_of_ble_eq_true rfl, Nat.le_of_ble_eq_true rfl⟩) rfl (by exact Nat.le_of_ble_eq_true rfl) rfl dL_isAhead_162 ?_
    refine aw_top (bI (decide (¬ z 13 = 0))) rfl ?_
    refine aw_top (0) (by rw [decide_eq_false (not_not_intro h13)]; rfl) ?_
    refine aw_if_ne_f (tgt := 190) X dL_isAhead_165 (by decide) (by decide) ?_
    refine aw_iload X dL_isAhead_168 rfl ?_
    refine aw_if_eq_f (tgt := 184) X dL_isAhead_170 (by decide) (by decide) ?_
    refine aw_iload X dL_isAhead_173 rfl ?_
    refine aw_ldc X dL_isAhead_175 a_L_99 ?_
    refine aw_icmp_ne_f (tgt := 184) X dL_isAhead_177 (by decide) (by decide) ?_
    refine aw_iconst X (1) dL_isAhead_180 rfl ?_
    refine aw_goto (tgt := 185) X dL_isAhead_181 (by decide) ?_
    refine aw_istore X dL_isAhead_185 rfl (by decide) ?_
    refine aw_goto (tgt := 290) X dL_isAhead_187 (by decide) ?_
    refine aw_iload X dL_isAhead_290 rfl ?_
    refine aw_if_eq_f (tgt := 308) X dL_isAhead_292 (by decide) (by decide) ?_
    refine aw_aload_n X dL_isAhead_295 rfl ?_
    refine aw_lSF (As := [.ref _]) X (c_L_tale (kl K) U hR) s_L_83 k_L_tale (by decide) ⟨rfl, rfl⟩ (by exact ⟨Nat.le_of_ble_eq_true rfl, Nat.le_of_ble_eq_true rfl⟩) rfl (by exact Nat.le_of_ble_eq_true rfl) dL_isAhead_296 ?_
    refine aw_lload_n X dL_isAhead_299 rfl ?_
    refine aw_lcmp X dL_isAhead_300 ?_
    refine aw_top (0) (lg_self _) ?_
    refine aw_if_ne_f (tgt := 308) X dL_isAhead_301 (by decide) (by decide) ?_
    refine aw_iconst X (1) dL_isAhead_304 rfl ?_
    refine aw_goto (tgt := 309) X dL_isAhead_305 (by decide) ?_
    exact aw_zret X rfl hQ dL_isAhead_309 ⟨rfl, ⟨_, _, _, _, _, _, hR⟩, hF⟩
  have e13 : z 13 = 1 := hL.1.1.2.2.2.1.resolve_left h13
  by_cases hu : cUnits (gHours z (ceN z)).2 0 = 0
  rotate_left
  · skip
    refine aw_top (-100006) (cEmp_n h13 hu) ?_
    refine aw_istore X dL_isAhead_157 rfl (by decide) ?_
    refine aw_aload_n X dL_isAhead_159 rfl ?_
    refine aw_bipush X (10) dL_isAhead_160 rfl ?_
    refine aw_lF (As := [.int _]) X hR.g0 (l_count hR _ (by decide) (by decide)) s_L_22 k_X4_count (by decide) ⟨rfl, rfl⟩ (by exact ⟨Nat.le_of_ble_eq_true rfl, Nat.le_of_ble_eq_true rfl⟩) rfl (by exact Nat.le_of_ble_eq_true rfl) rfl dL_isAhead_162 ?_
    refine aw_top (bI (decide (¬ z 13 = 0))) rfl ?_
    refine aw_top (1) (by rw [decide_eq_true h13]; rfl) ?_
    refine aw_if_ne_t (tgt := 190) X dL_isAhead_165 (by decide) (by decide) ?_
    refine aw_iload X dL_isAhead_190 rfl ?_
    refine aw_if_le_t (tgt := 266) X dL_isAhead_192 (by decide) (by decide) ?_
    refine aw_iload X dL_isAhead_266 rfl ?_
    refine aw_if_eq_f (tgt := 287) X dL_isAhead_268 (by decide) (by decide) ?_
    refine aw_iload X dL_isAhead_271 rfl ?_
    refine aw_if_ne_t (tgt := 283) X dL_isAhead_273 (by decide) (by decide) ?_
    refine aw_iconst X (1) dL_isAhead_283 rfl ?_
    refine aw_goto (tgt := 288) X dL_isAhead_284 (by decide) ?_
    refine aw_istore X dL_isAhead_288 rfl (by decide) ?_
    refine aw_iload X dL_isAhead_290 rfl ?_
    refine aw_if_eq_f (tgt := 308) X dL_isAhead_292 (by decide) (by decide) ?_
    refine aw_aload_n X dL_isAhead_295 rfl ?_
    refine aw_lSF (As := [.ref _]) X (c_L_tale (kl K) U hR) s_L_83 k_L_tale (by decide) ⟨rfl, rfl⟩ (by exact ⟨Nat.le_of_ble_eq_true rfl, Nat.le_of_ble_eq_true rfl⟩) rfl (by exact Nat.le_of_ble_eq_true rfl) dL_isAhead_296 ?_
    refine aw_lload_n X dL_isAhead_299 rfl ?_
    refine aw_lcmp X dL_isAhead_300 ?_
    refine aw_top (0) (lg_self _) ?_
    refine aw_if_ne_f (tgt := 308) X dL_isAhead_301 (by decide) (by decide) ?_
    refine aw_iconst X (1) dL_isAhead_304 rfl ?_
    refine aw_goto (tgt := 309) X dL_isAhead_305 (by decide) ?_
    exact aw_zret X rfl hQ dL_isAhead_309 ⟨rfl, ⟨_, _, _, _, _, _, hR⟩, hF⟩
  obtain ⟨j, ej⟩ : ∃ j, ceN z = j := ⟨_, rfl⟩
  have hj200 : j ≤ 200 := by have := (ff_le (fun k => decide (cUnits (gHours z k).2 0 = 0)) 200 0).2; rw [← ej]; unfold ceN; omega
  have hu2 := hu
  rw [ej] at hu2
  by_cases j0 : j = 0
  · subst j0
    refine aw_top (0) (cEmp_k h13 hu ej) ?_
    refine aw_istore X dL_isAhead_157 rfl (by decide) ?_
    refine aw_aload_n X dL_isAhead_159 rfl ?_
    refine aw_bipush X (10) dL_isAhead_160 rfl ?_
    refine aw_lF (As := [.int _]) X hR.g0 (l_count hR _ (by decide) (by decide)) s_L_22 k_X4_count (by decide) ⟨rfl, rfl⟩ (by exact ⟨Nat.le_of_ble_eq_true rfl, Nat.le_of_ble_eq_true rfl⟩) rfl (by exact Nat.le_of_ble_eq_true rfl) rfl dL_isAhead_162 ?_
    refine aw_top (bI (decide (¬ z 13 = 0))) rfl ?_
    refine aw_top (1) (by rw [decide_eq_true h13]; rfl) ?_
    refine aw_if_ne_t (tgt := 190) X dL_isAhead_165 (by decide) (by decide) ?_
    refine aw_iload X dL_isAhead_190 rfl ?_
    refine aw_if_le_t (tgt := 266) X dL_isAhead_192 (by decide) (by decide) ?_
    refine aw_iload X dL_isAhead_266 rfl ?_
    refine aw_if_eq_f (tgt := 287) X dL_isAhead_268 (by decide) (by decide) ?_
    refine aw_iload X dL_isAhead_271 rfl ?_
    refine aw_if_ne_f (tgt := 283) X dL_isAhead_273 (by decide) (by decide) ?_
    refine aw_aload_n X dL_isAhead_276 rfl ?_
    refine aw_lSF (As := [.ref _]) X (c_L_atBerth (kl K) U hR) s_L_100 k_L_atBerth (by decide) ⟨rfl, rfl⟩ (by exact ⟨Nat.le_of_ble_eq_true rfl, Nat.le_of_ble_eq_true rfl⟩) rfl (by exact Nat.le_of_ble_eq_true rfl) dL_isAhead_277 ?_
    refine aw_if_ne_f (tgt := 287) X dL_isAhead_280 (by decide) (at_0 (j := 0) e13 hu2) ?_
    refine aw_iconst X (1) dL_isAhead_283 rfl ?_
    refine aw_goto (tgt := 288) X dL_isAhead_284 (by decide) ?_
    refine aw_istore X dL_isAhead_288 rfl (by decide) ?_
    refine aw_iload X dL_isAhead_290 rfl ?_
    refine aw_if_eq_f (tgt := 308) X dL_isAhead_292 (by decide) (by decide) ?_
    refine aw_aload_n X dL_isAhead_295 rfl ?_
    refine aw_lSF (As := [.ref _]) X (c_L_tale (kl K) U hR) s_L_83 k_L_tale (by decide) ⟨rfl, rfl⟩ (by exact ⟨Nat.le_of_ble_eq_true rfl, Nat.le_of_ble_eq_true rfl⟩) rfl (by exact Nat.le_of_ble_eq_true rfl) dL_isAhead_296 ?_
    refine aw_lload_n X dL_isAhead_299 rfl ?_
    refine aw_lcmp X dL_isAhead_300 ?_
    refine aw_top (0) (lg_self _) ?_
    refine aw_if_ne_f (tgt := 308) X dL_isAhead_301 (by decide) (by decide) ?_
    refine aw_iconst X (1) dL_isAhead_304 rfl ?_
    refine aw_goto (tgt := 309) X dL_isAhead_305 (by decide) ?_
    exact aw_zret X rfl hQ dL_isAhead_309 ⟨rfl, ⟨_, _, _, _, _, _, hR⟩, hF⟩
  by_cases j1 : j = 1
  · subst j1
    refine aw_top (1) (cEmp_k h13 hu ej) ?_
    refine aw_istore X dL_isAhead_157 rfl (by decide) ?_
    refine aw_aload_n X dL_isAhead_159 rfl ?_
    refine aw_bipush X (10) dL_isAhead_160 rfl ?_
    refine aw_lF (As := [.int _]) X hR.g0 (l_count hR _ (by decide) (by decide)) s_L_22 k_X4_count (by decide) ⟨rfl, rfl⟩ (by exact ⟨Nat.le_of_ble_eq_true rfl, Nat.le_of_ble_eq_true rfl⟩) rfl (by exact Nat.le_of_ble_eq_true rfl) rfl dL_isAhead_162 ?_
    refine aw_top (bI (decide (¬ z 13 = 0))) rfl ?_
    refine aw_top (1) (by rw [decide_eq_true h13]; rfl) ?_
    refine aw_if_ne_t (tgt := 190) X dL_isAhead_165 (by decide) (by decide) ?_
    refine aw_iload X dL_isAhead_190 rfl ?_
    refine aw_if_le_f (tgt := 266) X dL_isAhead_192 (by decide) (by decide) ?_
    refine aw_iload X dL_isAhead_195 rfl ?_
    refine aw_bipush X (49) dL_isAhead_197 rfl ?_
    refine aw_icmp_ge_f (tgt := 266) X dL_isAhead_199 (by decide) (by decide) ?_
    refine aw_iload X dL_isAhead_202 rfl ?_
    refine aw_if_eq_f (tgt := 260) X dL_isAhead_204 (by decide) (by decide) ?_
    refine aw_iload X dL_isAhead_207 rfl ?_
    refine aw_iconst X (1) dL_isAhead_209 rfl ?_
    refine aw_icmp_eq_t (tgt := 231) X dL_isAhead_210 (by decide) (by decide) ?_
    refine aw_aload_n X dL_isAhead_231 rfl ?_
    refine aw_iconst X (1) dL_isAhead_232 rfl ?_
    refine aw_lV (As := [.int _]) X hR.g0 (l_pass hR _) s_L_76 k_X4_pass (by decide) ⟨rfl, rfl⟩ (by exact ⟨Nat.le_of_ble_eq_true rfl, Nat.le_of_ble_eq_true rfl⟩) rfl (by exact Nat.le_of_ble_eq_true rfl) rfl dL_isAhead_233 (fun μ hP => ?_)
    obtain ⟨hR, hK⟩ := hP
    have hF := hF.tr hK
    have eP2 : gPass z 1 = gHours z 1 := gp_eq (k := 1) h6 (by omega) (by omega) (by omega)
    obtain ⟨un_3, t_3, hR⟩ : ∃ u w, LR U Kp μ a (gHours z 1).2 u w z s1 1 v1 := ⟨_, _, by rw [eP2] at hR; exact hR⟩
    refine aw_top ((gHours z 1).1) (by rw [eP2]) ?_
    refine aw_if_lt_f (tgt := 260) X dL_isAhead_236 (by decide) (gh_ok hL.1.1 1 (by omega)) ?_
    refine aw_aload_n X dL_isAhead_239 rfl ?_
    refine aw_lSF (As := [.ref _]) X (c_L_atBerth (kl K) U hR) s_L_100 k_L_atBerth (by decide) ⟨rfl, rfl⟩ (by exact ⟨Nat.le_of_ble_eq_true rfl, Nat.le_of_ble_eq_true rfl⟩) rfl (by exact Nat.le_of_ble_eq_true rfl) dL_isAhead_240 ?_
    refine aw_if_ne_f (tgt := 260) X dL_isAhead_243 (by decide) (at_0 e13 hu2) ?_
    refine aw_aload_n X dL_isAhead_246 rfl ?_
    refine aw_iconst X (0) dL_isAhead_247 rfl ?_
    refine aw_lV (As := [.int _]) X hR.g0 (l_restore0 hR (by decide)) s_L_93 k_X4_restore (by decide) ⟨rfl, rfl⟩ (by exact ⟨Nat.le_of_ble_eq_true rfl, Nat.le_of_ble_eq_true rfl⟩) rfl (by exact Nat.le_of_ble_eq_true rfl) rfl dL_isAhead_248 (fun μ hP => ?_)
    obtain ⟨⟨un_4, t_4, hR⟩, hK⟩ := hP
    have hF := hF.tr hK
    refine aw_iload X dL_isAhead_251 rfl ?_
    refine aw_icmp_ne_f (tgt := 260) X dL_isAhead_253 (by decide) rfl ?_
    refine aw_iconst X (1) dL_isAhead_256 rfl ?_
    refine aw_goto (tgt := 261) X dL_isAhead_257 (by decide) ?_
    refine aw_istore X dL_isAhead_261 rfl (by decide) ?_
    refine aw_goto (tgt := 290) X dL_isAhead_263 (by decide) ?_
    refine aw_iload X dL_isAhead_290 rfl ?_
    refine aw_if_eq_f (tgt := 308) X dL_isAhead_292 (by decide) (by decide) ?_
    refine aw_aload_n X dL_isAhead_295 rfl ?_
    refine aw_lSF (As := [.ref _]) X (c_L_tale (kl K) U hR) s_L_83 k_L_tale (by decide) ⟨rfl, rfl⟩ (by exact ⟨Nat.le_of_ble_eq_true rfl, Nat.le_of_ble_eq_true rfl⟩) rfl (by exact Nat.le_of_ble_eq_true rfl) dL_isAhead_296 ?_
    refine aw_lload_n X dL_isAhead_299 rfl ?_
    refine aw_lcmp X dL_isAhead_300 ?_
    refine aw_top (0) (lg_self _) ?_
    refine aw_if_ne_f (tgt := 308) X dL_isAhead_301 (by decide) (by decide) ?_
    refine aw_iconst X (1) dL_isAhead_304 rfl ?_
    refine aw_goto (tgt := 309) X dL_isAhead_305 (by decide) ?_
    exact aw_zret X rfl hQ dL_isAhead_309 ⟨rfl, ⟨_, _, _, _, _, _, hR⟩, hF⟩
  by_cases j49 : 49 ≤ j
  · skip
    refine aw_top (nI j) (cEmp_k h13 hu ej) ?_
    refine aw_istore X dL_isAhead_157 rfl (by decide) ?_
    refine aw_aload_n X dL_isAhead_159 rfl ?_
    refine aw_bipush X (10) dL_isAhead_160 rfl ?_
    refine aw_lF (As := [.int _]) X hR.g0 (l_count hR _ (by decide) (by decide)) s_L_22 k_X4_count (by decide) ⟨rfl, rfl⟩ (by exact ⟨Nat.le_of_ble_eq_true rfl, Nat.le_of_ble_eq_true rfl⟩) rfl (by exact Nat.le_of_ble_eq_true rfl) rfl dL_isAhead_162 ?_
    refine aw_top (bI (decide (¬ z 13 = 0))) rfl ?_
    refine aw_top (1) (by rw [decide_eq_true h13]; rfl) ?_
    refine aw_if_ne_t (tgt := 190) X dL_isAhead_165 (by decide) (by decide) ?_
    refine aw_iload X dL_isAhead_190 rfl ?_
    refine aw_if_le_f (tgt := 266) X dL_isAhead_192 (by decide) (nI_nle (by omega) (by omega)) ?_
    refine aw_iload X dL_isAhead_195 rfl ?_
    refine aw_bipush X (49) dL_isAhead_197 rfl ?_
    refine aw_icmp_ge_t (tgt := 266) X dL_isAhead_199 (by decide) (nI_le (a := 49) (by omega) (by omega)) ?_
    refine aw_iload X dL_isAhead_266 rfl ?_
    refine aw_if_eq_f (tgt := 287) X dL_isAhead_268 (by decide) (by decide) ?_
    refine aw_iload X dL_isAhead_271 rfl ?_
    refine aw_if_ne_t (tgt := 283) X dL_isAhead_273 (by decide) (nI_ne0 (by omega) (by omega)) ?_
    refine aw_iconst X (1) dL_isAhead_283 rfl ?_
    refine aw_goto (tgt := 288) X dL_isAhead_284 (by decide) ?_
    refine aw_istore X dL_isAhead_288 rfl (by decide) ?_
    refine aw_iload X dL_isAhead_290 rfl ?_
    refine aw_if_eq_f (tgt := 308) X dL_isAhead_292 (by decide) (by decide) ?_
    refine aw_aload_n X dL_isAhead_295 rfl ?_
    refine aw_lSF (As := [.ref _]) X (c_L_tale (kl K) U hR) s_L_83 k_L_tale (by decide) ⟨rfl, rfl⟩ (by exact ⟨Nat.le_of_ble_eq_true rfl, Nat.le_of_ble_eq_true rfl⟩) rfl (by exact Nat.le_of_ble_eq_true rfl) dL_isAhead_296 ?_
    refine aw_lload_n X dL_isAhead_299 rfl ?_
    refine aw_lcmp X dL_isAhead_300 ?_
    refine aw_top (0) (lg_self _) ?_
    refine aw_if_ne_f (tgt := 308) X dL_isAhead_301 (by decide) (by decide) ?_
    refine aw_iconst X (1) dL_isAhead_304 rfl ?_
    refine aw_goto (tgt := 309) X dL_isAhead_305 (by decide) ?_
    exact aw_zret X rfl hQ dL_isAhead_309 ⟨rfl, ⟨_, _, _, _, _, _, hR⟩, hF⟩
  obtain ⟨i, rfl⟩ : ∃ i, j = i + 1 := ⟨j - 1, by omega⟩
  refine aw_top (nI (i + 1)) (cEmp_k h13 hu ej) ?_
  refine aw_istore X dL_isAhead_157 rfl (by decide) ?_
  refine aw_aload_n X dL_isAhead_159 rfl ?_
  refine aw_bipush X (10) dL_isAhead_160 rfl ?_
  refine aw_lF (As := [.int _]) X hR.g0 (l_count hR _ (by decide) (by decide)) s_L_22 k_X4_count (by decide) ⟨rfl, rfl⟩ (by exact ⟨Nat.le_of_ble_eq_true rfl, Nat.le_of_ble_eq_true rfl⟩) rfl (by exact Nat.le_of_ble_eq_true rfl) rfl dL_isAhead_162 ?_
  refine aw_top (bI (decide (¬ z 13 = 0))) rfl ?_
  refine aw_top (1) (by rw [decide_eq_true h13]; rfl) ?_
  refine aw_if_ne_t (tgt := 190) X dL_isAhead_165 (by decide) (by decide) ?_
  refine aw_iload X dL_isAhead_190 rfl ?_
  refine aw_if_le_f (tgt := 266) X dL_isAhead_192 (by decide) (nI_nle (by omega) (by omega)) ?_
  refine aw_iload X dL_isAhead_195 rfl ?_
  refine aw_bipush X (49) dL_isAhead_197 rfl ?_
  refine aw_icmp_ge_f (tgt := 266) X dL_isAhead_199 (by decide) (nI_ge (b := 49) (by omega) (by omega)) ?_
  refine aw_iload X dL_isAhead_202 rfl ?_
  refine aw_if_eq_f (tgt := 260) X dL_isAhead_204 (by decide) (by decide) ?_
  refine aw_iload X dL_isAhead_207 rfl ?_
  refine aw_iconst X (1) dL_isAhead_209 rfl ?_
  refine aw_icmp_eq_f (tgt := 231) X dL_isAhead_210 (by decide) (fun q => by have := (nI_eq (b := 1) (by omega) (by omega)).mp q; omega) ?_
  refine aw_aload_n X dL_isAhead_213 rfl ?_
  refine aw_iload X dL_isAhead_214 rfl ?_
  refine aw_iconst X (1) dL_isAhead_216 rfl ?_
  refine aw_isub X dL_isAhead_217 ?_
  refine aw_top (nI i) (nI_pred i) ?_
  refine aw_lV (As := [.int _]) X hR.g0 (l_pass hR _) s_L_76 k_X4_pass (by decide) ⟨rfl, rfl⟩ (by exact ⟨Nat.le_of_ble_eq_true rfl, Nat.le_of_ble_eq_true rfl⟩) rfl (by exact Nat.le_of_ble_eq_true rfl) rfl dL_isAhead_218 (fun μ hP => ?_)
  obtain ⟨hR, hK⟩ := hP
  have hF := hF.tr hK
  have eP1 : gPass z (nI i) = gHours z i := gp_eq h6 (by omega) (by omega) (by omega)
  obtain ⟨un_3, t_3, hR⟩ : ∃ u w, LR U Kp μ a (gHours z i).2 u w z s1 1 v1 := ⟨_, _, by rw [eP1] at hR; exact hR⟩
  refine aw_top ((gHours z i).1) (by rw [eP1]) ?_
  refine aw_if_lt_f (tgt := 260) X dL_isAhead_221 (by decide) (gh_ok hL.1.1 i (by omega)) ?_
  refine aw_aload_n X dL_isAhead_224 rfl ?_
  refine aw_lSF (As := [.ref _]) X (c_L_atBerth (kl K) U hR) s_L_100 k_L_atBerth (by decide) ⟨rfl, rfl⟩ (by exact ⟨Nat.le_of_ble_eq_true rfl, Nat.le_of_ble_eq_true rfl⟩) rfl (by exact Nat.le_of_ble_eq_true rfl) dL_isAhead_225 ?_
  refine aw_if_le_f (tgt := 260) X dL_isAhead_228 (by decide) (at_p hL.1.1 e13 ej (by omega)) ?_
  refine aw_aload_n X dL_isAhead_231 rfl ?_
  refine aw_iconst X (1) dL_isAhead_232 rfl ?_
  refine aw_lV (As := [.int _]) X hR.g0 (l_pass hR _) s_L_76 k_X4_pass (by decide) ⟨rfl, rfl⟩ (by exact ⟨Nat.le_of_ble_eq_true rfl, Nat.le_of_ble_eq_true rfl⟩) rfl (by exact Nat.le_of_ble_eq_true rfl) rfl dL_isAhead_233 (fun μ hP => ?_)
  obtain ⟨hR, hK⟩ := hP
  have hF := hF.tr hK
  have eP2 : gPass (gHours z i).2 1 = gHours (gHours z i).2 1 := gp_eq (k := 1) (gHours_6 h6 i) (by omega) (by omega) (by omega)
  have eP3 : (gHours (gHours z i).2 1).2 = (gHours z (i + 1)).2 := rfl
  obtain ⟨un_4, t_4, hR⟩ : ∃ u w, LR U Kp μ a (gHours z (i + 1)).2 u w z s1 1 v1 := ⟨_, _, by rw [eP2, eP3] at hR; exact hR⟩
  refine aw_top ((gHours (gHours z i).2 1).1) (by rw [eP2]) ?_
  refine aw_if_lt_f (tgt := 260) X dL_isAhead_236 (by decide) (gh_ok (hL.1.1.hours i).1 1 (by omega)) ?_
  refine aw_aload_n X dL_isAhead_239 rfl ?_
  refine aw_lSF (As := [.ref _]) X (c_L_atBerth (kl K) U hR) s_L_100 k_L_atBerth (by decide) ⟨rfl, rfl⟩ (by exact ⟨Nat.le_of_ble_eq_true rfl, Nat.le_of_ble_eq_true rfl⟩) rfl (by exact Nat.le_of_ble_eq_true rfl) dL_isAhead_240 ?_
  refine aw_if_ne_f (tgt := 260) X dL_isAhead_243 (by decide) (at_0 e13 hu2) ?_
  refine aw_aload_n X dL_isAhead_246 rfl ?_
  refine aw_iconst X (0) dL_isAhead_247 rfl ?_
  refine aw_lV (As := [.int _]) X hR.g0 (l_restore0 hR (by decide)) s_L_93 k_X4_restore (by decide) ⟨rfl, rfl⟩ (by exact ⟨Nat.le_of_ble_eq_true rfl, Nat.le_of_ble_eq_true rfl⟩) rfl (by exact Nat.le_of_ble_eq_true rfl) rfl dL_isAhead_248 (fun μ hP => ?_)
  obtain ⟨⟨un_5, t_5, hR⟩, hK⟩ := hP
  have hF := hF.tr hK
  refine aw_iload X dL_isAhead_251 rfl ?_
  refine aw_icmp_ne_f (tgt := 260) X dL_isAhead_253 (by decide) rfl ?_
  refine aw_iconst X (1) dL_isAhead_256 rfl ?_
  refine aw_goto (tgt := 261) X dL_isAhead_257 (by decide) ?_
  refine aw_istore X dL_isAhead_261 rfl (by decide) ?_
  refine aw_goto (tgt := 290) X dL_isAhead_263 (by decide) ?_
  refine aw_iload X dL_isAhead_290 rfl ?_
  refine aw_if_eq_f (tgt := 308) X dL_isAhead_292 (by decide) (by decide) ?_
  refine aw_aload_n X dL_isAhead_295 rfl ?_
  refine aw_lSF (As := [.ref _]) X (c_L_tale (kl K) U hR) s_L_83 k_L_tale (by decide) ⟨rfl, rfl⟩ (by exact ⟨Nat.le_of_ble_eq_true rfl, Nat.le_of_ble_eq_true rfl⟩) rfl (by exact Nat.le_of_ble_eq_true rfl) dL_isAhead_296 ?_
  refine aw_lload_n X dL_isAhead_299 rfl ?_
  refine aw_lcmp X dL_isAhead_300 ?_
  refine aw_top (0) (lg_self _) ?_
  refine aw_if_ne_f (tgt := 308) X dL_isAhead_301 (by decide) (by decide) ?_
  refine aw_iconst X (1) dL_isAhead_304 rfl ?_
  refine aw_goto (tgt := 309) X dL_isAhead_305 (by decide) ?_
  exact aw_zret X rfl hQ dL_isAhead_309 ⟨rfl, ⟨_, _, _, _, _, _, hR⟩, hF⟩
