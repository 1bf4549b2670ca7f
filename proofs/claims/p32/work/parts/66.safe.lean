/-! how long a hose does not burst, and the least reach with which it does not -/
theorem cSaf_no {z : xV} {i : Nat} (hi : i < 4) (hc : ¬ isG (z (hz i 2)) = true) : cSaf z (nI i) = -100005 := by
  unfold cSaf
  rw [if_neg (by rw [isG_n hi]; decide), tn_n (by omega), if_pos (by simpa using hc)]
theorem cLea_no {z : xV} {i : Nat} (hi : i < 4) (hc : ¬ isG (z (hz i 2)) = true) : cLea z (nI i) = -100005 := by
  unfold cLea
  rw [if_neg (by rw [isG_n hi]; decide), tn_n (by omega), if_pos (by simpa using hc)]
theorem cSaf_200 {z : xV} {i : Nat} (hi : i < 4) (hc : isG (z (hz i 2)) = true) (h : sfN z i = 200) : cSaf z (nI i) = -100006 := by
  unfold cSaf
  rw [if_neg (by rw [isG_n hi]; decide), tn_n (by omega), if_neg (by rw [hc]; decide), if_pos h]
theorem cSaf_k {z : xV} {i : Nat} (hi : i < 4) (hc : isG (z (hz i 2)) = true) (h : ¬ sfN z i = 200) {s : Nat} (e : sfN z i = s) : cSaf z (nI i) = nI s := by
  unfold cSaf
  rw [if_neg (by rw [isG_n hi]; decide), tn_n (by omega), if_neg (by rw [hc]; decide), if_neg h, e]
theorem cLea_k {z : xV} {i : Nat} (hi : i < 4) (hc : isG (z (hz i 2)) = true) {r : Nat} (hr : r ≤ 120) (e : (gHours (cStr z i) 200).2 (hz i 0) = nI r) : cLea z (nI i) = nI r := by
  unfold cLea
  rw [if_neg (by rw [isG_n hi]; decide), tn_n (by omega), if_neg (by rw [hc]; decide), e, if_neg (show ¬ (120 : Int32) < nI r from nI_nlt (a := 120) hr (by omega))]
theorem cHo_2 {z : xV} {i : Nat} (hi : i < 4) : cHose z (nI i) 2 = z (hz i 2) := by
  unfold cHose
  rw [if_neg (by rw [isG_n hi]; decide), tn_n (by omega), if_neg (by decide), if_neg (by decide), if_pos rfl]
theorem cHo_0 {z : xV} {i : Nat} (hi : i < 4) : cHose z (nI i) 0 = z (hz i 0) := by
  unfold cHose
  rw [if_neg (by rw [isG_n hi]; decide), tn_n (by omega), if_pos rfl]
theorem cHo_3 {z : xV} {i : Nat} (hi : i < 4) : cHose z (nI i) 3 = bI (decide (¬ z (hz i 3) = 0)) := by
  unfold cHose
  rw [if_neg (by rw [isG_n hi]; decide), tn_n (by omega), if_neg (by decide), if_neg (by decide), if_neg (by decide), if_pos rfl]
theorem cHo_30 {z : xV} {i : Nat} (hi : i < 4) (h : z (hz i 3) = 0) : cHose z (nI i) 3 = 0 := by
  rw [cHo_3 hi, decide_eq_false (not_not_intro h)]; rfl
theorem cHo_31 {z : xV} {i : Nat} (hi : i < 4) (h : ¬ z (hz i 3) = 0) : cHose z (nI i) 3 = 1 := by
  rw [cHo_3 hi, decide_eq_true h]; rfl
theorem gRe {z : xV} {i r : Nat} (hi : i < 4) (h1 : 20 ≤ r) (h2 : r ≤ 120) : gReach z (nI i) (nI r) = (z (hz i 0), upd z (hz i 0) (nI r)) := by
  unfold gReach
  rw [if_neg (by rw [isG_n hi]; decide), if_neg, tn_n (by omega)]
  rintro (q | q)
  · exact nI_nlt (b := 20) h1 (by omega) q
  · exact nI_nlt (a := 120) h2 (by omega) q
theorem sf_in {z : xV} {i s : Nat} (e : sfN z i = s) {j : Nat} (hj : j < s) : (gHours z (j + 1)).2 (hz i 3) = 0 := by
  have := ff_min (P := fun k => decide (¬ (gHours z (k + 1)).2 (hz i 3) = 0)) 200 0 j (Nat.zero_le _) (by show j < sfN z i; omega)
  rw [decide_eq_true_eq] at this
  exact Decidable.not_not.mp this
theorem sf_at {z : xV} {i s : Nat} (e : sfN z i = s) (h : s < 200) : ¬ (gHours z (s + 1)).2 (hz i 3) = 0 := by
  have := ff_hit (P := fun k => decide (¬ (gHours z (k + 1)).2 (hz i 3) = 0)) 200 0 (by show sfN z i < _; omega)
  rw [show ff (fun k => decide (¬ (gHours z (k + 1)).2 (hz i 3) = 0)) 200 0 = s from e, decide_eq_true_eq] at this
  exact this
theorem sf_le (z : xV) (i : Nat) : sfN z i ≤ 200 := by
  have := (ff_le (fun k => decide (¬ (gHours z (k + 1)).2 (hz i 3) = 0)) 200 0).2
  unfold sfN
  omega
theorem upd_self {z : xV} {k : Nat} : upd z k (z k) = z := by
  funext j
  by_cases e : j = k
  · rw [e, upd_s]
  · rw [upd_n e]
theorem nI_prd {r : Nat} (h : 1 ≤ r) : nI r - 1 = nI (r - 1) := by
  obtain ⟨k, rfl⟩ : ∃ k, r = k + 1 := ⟨r - 1, by omega⟩
  exact nI_pred k
theorem nIN_ne (s : Nat) (hs : s < 1000) : ¬ nI s = -100006 := fun q => by
  have := congrArg Int32.toInt q
  rw [nI_toInt (by omega), show (-100006 : Int32).toInt = -100006 from rfl] at this
  omega
set_option maxHeartbeats 20000000 in
set_option maxRecDepth 100000 in
theorem c_L_isSafe (l : Launch) (U : xU) {Kp : Nat → Prop} {μ0 : xH} {a : Nat} {z : xV} {un : Nat} {t s0 s1 : xV} {v0 v1 : Int32} (hR : LR U Kp μ0 a z un t s0 s1 v0 v1) {n : Nat} {f : Nat → Int32} (hL : LV z f n) (hn : n ≤ 40) (i : Nat) (hi : i < 4) : Ct l U yL_isSafe cL_isSafe 8 (some .boolean) ({ frames := 7, cells := 0, slots := 0, locals := 153 } : Room) [.ref a, .int (nI i)] μ0 (fun r μ' => r = some (.int 1) ∧ (∃ un' t' s0' s1' v0' v1', LR U Kp μ' a z un' t' s0' s1' v0' v1') ∧ KF Kp μ0 μ') := by
  refine Ct.of [some (.ref a), some (.int (nI i)), none, none, none, none, none, none] (by decide +kernel) rfl (Nat.le_of_ble_eq_true rfl) (fun K Q X hnm hQ => ?_)
  obtain ⟨hr, hrn, h6⟩ := hL.1.2.2.1
  obtain ⟨μ, hμ, hR, hF⟩ : ∃ μ : xH, μ0 = μ ∧ LR U Kp μ a z un t s0 s1 v0 v1 ∧ KF Kp μ0 μ := ⟨μ0, rfl, hR, KF.rf⟩
  refine aw_mu hμ ?_
  refine aw_aload_n X dL_isSafe_0 rfl ?_
  refine aw_lSF (As := [.ref _]) X (c_L_tale (kl K) U hR) s_L_83 k_L_tale (by decide) ⟨rfl, rfl⟩ (by exact ⟨Nat.le_of_ble_eq_true rfl, Nat.le_of_ble_eq_true rfl⟩) rfl (by exact Nat.le_of_ble_eq_true rfl) dL_isSafe_1 ?_
  refine aw_lstore_n X dL_isSafe_4 rfl (by decide) ?_
  refine aw_aload_n X dL_isSafe_5 rfl ?_
  refine aw_iload_n X dL_isSafe_6 rfl ?_
  refine aw_lV (As := [.int _]) X hR.g0 (l_safeFor hR _) s_L_103 k_X4_safeFor (by decide) ⟨rfl, rfl⟩ (by exact ⟨Nat.le_of_ble_eq_true rfl, Nat.le_of_ble_eq_true rfl⟩) rfl (by exact Nat.le_of_ble_eq_true rfl) rfl dL_isSafe_7 (fun μ hP => ?_)
  obtain ⟨hR, hK⟩ := hP
  have hF := hF.tr hK
  by_cases hc : isG (z (hz i 2)) = true
  rotate_left
  · skip
    refine aw_top (-100005) (cSaf_no hi hc) ?_
    refine aw_istore X dL_isSafe_10 rfl (by decide) ?_
    refine aw_aload_n X dL_isSafe_12 rfl ?_
    refine aw_iload_n X dL_isSafe_13 rfl ?_
    refine aw_lV (As := [.int _]) X hR.g0 (l_leastReach hR _) s_L_106 k_X4_leastReach (by decide) ⟨rfl, rfl⟩ (by exact ⟨Nat.le_of_ble_eq_true rfl, Nat.le_of_ble_eq_true rfl⟩) rfl (by exact Nat.le_of_ble_eq_true rfl) rfl dL_isSafe_14 (fun μ hP => ?_)
    obtain ⟨hR, hK⟩ := hP
    have hF := hF.tr hK
    refine aw_top (-100005) (cLea_no hi hc) ?_
    refine aw_istore X dL_isSafe_17 rfl (by decide) ?_
    refine aw_aload_n X dL_isSafe_19 rfl ?_
    refine aw_iload_n X dL_isSafe_20 rfl ?_
    refine aw_iconst X (2) dL_isSafe_21 rfl ?_
    refine aw_lF (As := [.int _, .int _]) X hR.g0 (l_hose hR _ _) s_L_28 k_X4_hose (by decide) ⟨rfl, rfl⟩ (by exact ⟨Nat.le_of_ble_eq_true rfl, Nat.le_of_ble_eq_true rfl⟩) rfl (by exact Nat.le_of_ble_eq_true rfl) rfl dL_isSafe_22 ?_
    refine aw_top (-100006) ((cHo_2 hi).trans ((hL.1.1.2.2.2.2.2.2.1 i hi).2.2.1.resolve_right hc)) ?_
    refine aw_if_ge_f (tgt := 48) X dL_isSafe_25 (by decide) (by decide) ?_
    refine aw_iload X dL_isSafe_28 rfl ?_
    refine aw_ldc X dL_isSafe_30 a_L_99 ?_
    refine aw_icmp_ne_f (tgt := 46) X dL_isSafe_32 (by decide) (by decide) ?_
    refine aw_iload X dL_isSafe_35 rfl ?_
    refine aw_ldc X dL_isSafe_37 a_L_99 ?_
    refine aw_icmp_ne_f (tgt := 46) X dL_isSafe_39 (by decide) (by decide) ?_
    refine aw_iconst X (1) dL_isSafe_42 rfl ?_
    refine aw_goto (tgt := 47) X dL_isSafe_43 (by decide) ?_
    exact aw_zret X rfl hQ dL_isSafe_47 ⟨rfl, ⟨_, _, _, _, _, _, hR⟩, hF⟩
  obtain ⟨ρ, hr1, hr2, hr3, hr4⟩ := least_rg hi hL.1.1 (hL.1.2.1 i hi) (hL.1.2.2.2 i hi hc)
  obtain ⟨r0, h20, h120, er0⟩ := rgN (lo := 20) (hi := 120) (by decide) (by decide) (hL.1.1.2.2.2.2.2.2.1 i hi).1
  have hS0 : sfN z i = 200 ↔ ρ ≤ r0 := by
    have := hr4 r0 h20 (by omega)
    rw [← er0, upd_self] at this
    exact this
  have hge : ¬ z (hz i 0) < 20 := by rw [er0]; exact nI_nlt (b := 20) h20 (by omega)
  by_cases hS : sfN z i = 200
  · skip
    by_cases hρ : ρ = 20
    · skip
      refine aw_top (-100006) (cSaf_200 hi hc hS) ?_
      refine aw_istore X dL_isSafe_10 rfl (by decide) ?_
      refine aw_aload_n X dL_isSafe_12 rfl ?_
      refine aw_iload_n X dL_isSafe_13 rfl ?_
      refine aw_lV (As := [.int _]) X hR.g0 (l_leastReach hR _) s_L_106 k_X4_leastReach (by decide) ⟨rfl, rfl⟩ (by exact ⟨Nat.le_of_ble_eq_true rfl, Nat.le_of_ble_eq_true rfl⟩) rfl (by exact Nat.le_of_ble_eq_true rfl) rfl dL_isSafe_14 (fun μ hP => ?_)
      obtain ⟨hR, hK⟩ := hP
      have hF := hF.tr hK
      refine aw_top (nI ρ) (cLea_k hi hc hr2 hr3) ?_
      refine aw_istore X dL_isSafe_17 rfl (by decide) ?_
      refine aw_aload_n X dL_isSafe_19 rfl ?_
      refine aw_iload_n X dL_isSafe_20 rfl ?_
      refine aw_iconst X (2) dL_isSafe_21 rfl ?_
      refine aw_lF (As := [.int _, .int _]) X hR.g0 (l_hose hR _ _) s_L_28 k_X4_hose (by decide) ⟨rfl, rfl⟩ (by exact ⟨Nat.le_of_ble_eq_true rfl, Nat.le_of_ble_eq_true rfl⟩) rfl (by exact Nat.le_of_ble_eq_true rfl) rfl dL_isSafe_22 ?_
      refine aw_top (z (hz i 2)) (cHo_2 hi) ?_
      refine aw_if_ge_t (tgt := 48) X dL_isSafe_25 (by decide) (by rw [isG_hv hc]; exact Int32.not_lt.mp (nI_pos (by have : tn (z (hz i 2)) < 4 := isG_tn hc; omega))) ?_
      refine aw_aload_n X dL_isSafe_48 rfl ?_
      refine aw_iconst X (1) dL_isSafe_49 rfl ?_
      refine aw_lV (As := [.int _]) X hR.g0 (l_save1 hR) s_L_87 k_X4_save (by decide) ⟨rfl, rfl⟩ (by exact ⟨Nat.le_of_ble_eq_true rfl, Nat.le_of_ble_eq_true rfl⟩) rfl (by exact Nat.le_of_ble_eq_true rfl) rfl dL_isSafe_50 (fun μ hP => ?_)
      obtain ⟨hR, hK⟩ := hP
      have hF := hF.tr hK
      refine aw_istore X dL_isSafe_53 rfl (by decide) ?_
      refine aw_iload X dL_isSafe_55 rfl ?_
      refine aw_ldc X dL_isSafe_57 a_L_109 ?_
      refine aw_icmp_eq_t (tgt := 75) X dL_isSafe_59 (by decide) (by decide) ?_
      refine aw_iconst X (1) dL_isSafe_75 rfl ?_
      refine aw_goto (tgt := 80) X dL_isSafe_76 (by decide) ?_
      refine aw_istore X dL_isSafe_80 rfl (by decide) ?_
      refine aw_iload X dL_isSafe_82 rfl ?_
      refine aw_if_lt_t (tgt := 157) X dL_isSafe_84 (by decide) (by decide) ?_
      refine aw_iload X dL_isSafe_157 rfl ?_
      refine aw_bipush X (20) dL_isSafe_159 rfl ?_
      refine aw_icmp_le_t (tgt := 208) X dL_isSafe_161 (by decide) (nI_le (b := 20) (by omega) (by omega)) ?_
      refine aw_iload X dL_isSafe_208 rfl ?_
      refine aw_if_eq_f (tgt := 277) X dL_isSafe_210 (by decide) (by decide) ?_
      refine aw_aload_n X dL_isSafe_213 rfl ?_
      refine aw_iload_n X dL_isSafe_214 rfl ?_
      refine aw_iload X dL_isSafe_215 rfl ?_
      refine aw_if_ge_t (tgt := 225) X dL_isSafe_217 (by decide) (Int32.not_lt.mp (nI_pos (by omega))) ?_
      refine aw_iload X dL_isSafe_225 rfl ?_
      refine aw_lV (As := [.int _, .int _]) X hR.g0 (l_reach hR _ _) s_L_73 k_X4_reach (by decide) ⟨rfl, rfl⟩ (by exact ⟨Nat.le_of_ble_eq_true rfl, Nat.le_of_ble_eq_true rfl⟩) rfl (by exact Nat.le_of_ble_eq_true rfl) rfl dL_isSafe_227 (fun μ hP => ?_)
      obtain ⟨hR, hK⟩ := hP
      have hF := hF.tr hK
      have eR2 : gReach z (nI i) (nI ρ) = (z (hz i 0), upd z (hz i 0) (nI ρ)) := gRe hi hr1 hr2
      obtain ⟨un_1, t_1, hR⟩ : ∃ u w, LR U Kp μ a (upd z (hz i 0) (nI ρ)) u w s0 z v0 1 := ⟨_, _, by rw [eR2] at hR; exact hR⟩
      refine aw_top (z (hz i 0)) (by rw [eR2]) ?_
      refine aw_bipush X (20) dL_isSafe_230 rfl ?_
      refine aw_icmp_lt_f (tgt := 277) X dL_isSafe_232 (by decide) hge ?_
      refine aw_aload_n X dL_isSafe_235 rfl ?_
      refine aw_iload_n X dL_isSafe_236 rfl ?_
      refine aw_lV (As := [.int _]) X hR.g0 (l_safeFor hR _) s_L_103 k_X4_safeFor (by decide) ⟨rfl, rfl⟩ (by exact ⟨Nat.le_of_ble_eq_true rfl, Nat.le_of_ble_eq_true rfl⟩) rfl (by exact Nat.le_of_ble_eq_true rfl) rfl dL_isSafe_237 (fun μ hP => ?_)
      obtain ⟨hR, hK⟩ := hP
      have hF := hF.tr hK
      refine aw_top (-100006) (cSaf_200 hi (by rw [upd_n (by simp only [hz]; omega)]; exact hc) ((hr4 ρ hr1 (by omega)).mpr (Nat.le_refl _))) ?_
      refine aw_ldc X dL_isSafe_240 a_L_109 ?_
      refine aw_icmp_ne_f (tgt := 249) X dL_isSafe_242 (by decide) (by decide) ?_
      refine aw_iconst X (1) dL_isSafe_245 rfl ?_
      refine aw_goto (tgt := 250) X dL_isSafe_246 (by decide) ?_
      refine aw_iload X dL_isSafe_250 rfl ?_
      refine aw_if_le_f (tgt := 259) X dL_isSafe_252 (by decide) (nI_nle (by omega) (by omega)) ?_
      refine aw_iconst X (1) dL_isSafe_255 rfl ?_
      refine aw_goto (tgt := 260) X dL_isSafe_256 (by decide) ?_
      refine aw_icmp_ne_f (tgt := 277) X dL_isSafe_260 (by decide) (by decide) ?_
      refine aw_aload_n X dL_isSafe_263 rfl ?_
      refine aw_iconst X (1) dL_isSafe_264 rfl ?_
      refine aw_lV (As := [.int _]) X hR.g0 (l_restore1 hR (by decide)) s_L_93 k_X4_restore (by decide) ⟨rfl, rfl⟩ (by exact ⟨Nat.le_of_ble_eq_true rfl, Nat.le_of_ble_eq_true rfl⟩) rfl (by exact Nat.le_of_ble_eq_true rfl) rfl dL_isSafe_265 (fun μ hP => ?_)
      obtain ⟨⟨un_2, t_2, hR⟩, hK⟩ := hP
      have hF := hF.tr hK
      refine aw_iload X dL_isSafe_268 rfl ?_
      refine aw_icmp_ne_f (tgt := 277) X dL_isSafe_270 (by decide) rfl ?_
      refine aw_iconst X (1) dL_isSafe_273 rfl ?_
      refine aw_goto (tgt := 278) X dL_isSafe_274 (by decide) ?_
      refine aw_istore X dL_isSafe_278 rfl (by decide) ?_
      refine aw_iload X dL_isSafe_280 rfl ?_
      refine aw_if_eq_f (tgt := 334) X dL_isSafe_282 (by decide) (by decide) ?_
      refine aw_iload X dL_isSafe_285 rfl ?_
      refine aw_ldc X dL_isSafe_287 a_L_109 ?_
      refine aw_icmp_ne_f (tgt := 296) X dL_isSafe_289 (by decide) (by decide) ?_
      refine aw_iconst X (1) dL_isSafe_292 rfl ?_
      refine aw_goto (tgt := 297) X dL_isSafe_293 (by decide) ?_
      refine aw_iload X dL_isSafe_297 rfl ?_
      refine aw_if_le_f (tgt := 317) X dL_isSafe_299 (by decide) (nI_nle (by omega) (by omega)) ?_
      refine aw_iload X dL_isSafe_302 rfl ?_
      refine aw_aload_n X dL_isSafe_304 rfl ?_
      refine aw_iload_n X dL_isSafe_305 rfl ?_
      refine aw_iconst X (0) dL_isSafe_306 rfl ?_
      refine aw_lF (As := [.int _, .int _]) X hR.g0 (l_hose hR _ _) s_L_28 k_X4_hose (by decide) ⟨rfl, rfl⟩ (by exact ⟨Nat.le_of_ble_eq_true rfl, Nat.le_of_ble_eq_true rfl⟩) rfl (by exact Nat.le_of_ble_eq_true rfl) rfl dL_isSafe_307 ?_
      refine aw_top (nI r0) ((cHo_0 hi).trans er0) ?_
      refine aw_icmp_gt_f (tgt := 317) X dL_isSafe_310 (by decide) (nI_nlt (hS0.mp hS) (by omega)) ?_
      refine aw_iconst X (1) dL_isSafe_313 rfl ?_
      refine aw_goto (tgt := 318) X dL_isSafe_314 (by decide) ?_
      refine aw_icmp_ne_f (tgt := 334) X dL_isSafe_318 (by decide) (by decide) ?_
      refine aw_aload_n X dL_isSafe_321 rfl ?_
      refine aw_lSF (As := [.ref _]) X (c_L_tale (kl K) U hR) s_L_83 k_L_tale (by decide) ⟨rfl, rfl⟩ (by exact ⟨Nat.le_of_ble_eq_true rfl, Nat.le_of_ble_eq_true rfl⟩) rfl (by exact Nat.le_of_ble_eq_true rfl) dL_isSafe_322 ?_
      refine aw_lload_n X dL_isSafe_325 rfl ?_
      refine aw_lcmp X dL_isSafe_326 ?_
      refine aw_top (0) (lg_self _) ?_
      refine aw_if_ne_f (tgt := 334) X dL_isSafe_327 (by decide) (by decide) ?_
      refine aw_iconst X (1) dL_isSafe_330 rfl ?_
      refine aw_goto (tgt := 335) X dL_isSafe_331 (by decide) ?_
      exact aw_zret X rfl hQ dL_isSafe_335 ⟨rfl, ⟨_, _, _, _, _, _, hR⟩, hF⟩
    · skip
      refine aw_top (-100006) (cSaf_200 hi hc hS) ?_
      refine aw_istore X dL_isSafe_10 rfl (by decide) ?_
      refine aw_aload_n X dL_isSafe_12 rfl ?_
      refine aw_iload_n X dL_isSafe_13 rfl ?_
      refine aw_lV (As := [.int _]) X hR.g0 (l_leastReach hR _) s_L_106 k_X4_leastReach (by decide) ⟨rfl, rfl⟩ (by exact ⟨Nat.le_of_ble_eq_true rfl, Nat.le_of_ble_eq_true rfl⟩) rfl (by exact Nat.le_of_ble_eq_true rfl) rfl dL_isSafe_14 (fun μ hP => ?_)
      obtain ⟨hR, hK⟩ := hP
      have hF := hF.tr hK
      refine aw_top (nI ρ) (cLea_k hi hc hr2 hr3) ?_
      refine aw_istore X dL_isSafe_17 rfl (by decide) ?_
      refine aw_aload_n X dL_isSafe_19 rfl ?_
      refine aw_iload_n X dL_isSafe_20 rfl ?_
      refine aw_iconst X (2) dL_isSafe_21 rfl ?_
      refine aw_lF (As := [.int _, .int _]) X hR.g0 (l_hose hR _ _) s_L_28 k_X4_hose (by decide) ⟨rfl, rfl⟩ (by exact ⟨Nat.le_of_ble_eq_true rfl, Nat.le_of_ble_eq_true rfl⟩) rfl (by exact Nat.le_of_ble_eq_true rfl) rfl dL_isSafe_22 ?_
      refine aw_top (z (hz i 2)) (cHo_2 hi) ?_
      refine aw_if_ge_t (tgt := 48) X dL_isSafe_25 (by decide) (by rw [isG_hv hc]; exact Int32.not_lt.mp (nI_pos (by have : tn (z (hz i 2)) < 4 := isG_tn hc; omega))) ?_
      refine aw_aload_n X dL_isSafe_48 rfl ?_
      refine aw_iconst X (1) dL_isSafe_49 rfl ?_
      refine aw_lV (As := [.int _]) X hR.g0 (l_save1 hR) s_L_87 k_X4_save (by decide) ⟨rfl, rfl⟩ (by exact ⟨Nat.le_of_ble_eq_true rfl, Nat.le_of_ble_eq_true rfl⟩) rfl (by exact Nat.le_of_ble_eq_true rfl) rfl dL_isSafe_50 (fun μ hP => ?_)
      obtain ⟨hR, hK⟩ := hP
      have hF := hF.tr hK
      refine aw_istore X dL_isSafe_53 rfl (by decide) ?_
      refine aw_iload X dL_isSafe_55 rfl ?_
      refine aw_ldc X dL_isSafe_57 a_L_109 ?_
      refine aw_icmp_eq_t (tgt := 75) X dL_isSafe_59 (by decide) (by decide) ?_
      refine aw_iconst X (1) dL_isSafe_75 rfl ?_
      refine aw_goto (tgt := 80) X dL_isSafe_76 (by decide) ?_
      refine aw_istore X dL_isSafe_80 rfl (by decide) ?_
      refine aw_iload X dL_isSafe_82 rfl ?_
      refine aw_if_lt_t (tgt := 157) X dL_isSafe_84 (by decide) (by decide) ?_
      refine aw_iload X dL_isSafe_157 rfl ?_
      refine aw_bipush X (20) dL_isSafe_159 rfl ?_
      refine aw_icmp_le_f (tgt := 208) X dL_isSafe_161 (by decide) (nI_ge (a := 20) (by omega) (by omega)) ?_
      refine aw_iload X dL_isSafe_164 rfl ?_
      refine aw_if_eq_f (tgt := 205) X dL_isSafe_166 (by decide) (by decide) ?_
      refine aw_aload_n X dL_isSafe_169 rfl ?_
      refine aw_iload_n X dL_isSafe_170 rfl ?_
      refine aw_iload X dL_isSafe_171 rfl ?_
      refine aw_iconst X (1) dL_isSafe_173 rfl ?_
      refine aw_isub X dL_isSafe_174 ?_
      refine aw_top (nI (ρ - 1)) (nI_prd (by omega)) ?_
      refine aw_lV (As := [.int _, .int _]) X hR.g0 (l_reach hR _ _) s_L_73 k_X4_reach (by decide) ⟨rfl, rfl⟩ (by exact ⟨Nat.le_of_ble_eq_true rfl, Nat.le_of_ble_eq_true rfl⟩) rfl (by exact Nat.le_of_ble_eq_true rfl) rfl dL_isSafe_175 (fun μ hP => ?_)
      obtain ⟨hR, hK⟩ := hP
      have hF := hF.tr hK
      have eR : gReach z (nI i) (nI (ρ - 1)) = (z (hz i 0), upd z (hz i 0) (nI (ρ - 1))) := gRe hi (by omega) (by omega)
      obtain ⟨un_1, t_1, hR⟩ : ∃ u w, LR U Kp μ a (upd z (hz i 0) (nI (ρ - 1))) u w s0 z v0 1 := ⟨_, _, by rw [eR] at hR; exact hR⟩
      refine aw_top (z (hz i 0)) (by rw [eR]) ?_
      refine aw_bipush X (20) dL_isSafe_178 rfl ?_
      refine aw_icmp_lt_f (tgt := 205) X dL_isSafe_180 (by decide) hge ?_
      refine aw_aload_n X dL_isSafe_183 rfl ?_
      refine aw_iload_n X dL_isSafe_184 rfl ?_
      refine aw_lV (As := [.int _]) X hR.g0 (l_safeFor hR _) s_L_103 k_X4_safeFor (by decide) ⟨rfl, rfl⟩ (by exact ⟨Nat.le_of_ble_eq_true rfl, Nat.le_of_ble_eq_true rfl⟩) rfl (by exact Nat.le_of_ble_eq_true rfl) rfl dL_isSafe_185 (fun μ hP => ?_)
      obtain ⟨hR, hK⟩ := hP
      have hF := hF.tr hK
      refine aw_top (nI (sfN (upd z (hz i 0) (nI (ρ - 1))) i)) (cSaf_k hi (by rw [upd_n (by simp only [hz]; omega)]; exact hc) (fun q => by have := (hr4 (ρ - 1) (by omega) (by omega)).mp q; omega) rfl) ?_
      refine aw_if_lt_f (tgt := 205) X dL_isSafe_188 (by decide) (nI_pos (by have := sf_le (upd z (hz i 0) (nI (ρ - 1))) i; omega)) ?_
      refine aw_aload_n X dL_isSafe_191 rfl ?_
      refine aw_iconst X (1) dL_isSafe_192 rfl ?_
      refine aw_lV (As := [.int _]) X hR.g0 (l_restore1 hR (by decide)) s_L_93 k_X4_restore (by decide) ⟨rfl, rfl⟩ (by exact ⟨Nat.le_of_ble_eq_true rfl, Nat.le_of_ble_eq_true rfl⟩) rfl (by exact Nat.le_of_ble_eq_true rfl) rfl dL_isSafe_193 (fun μ hP => ?_)
      obtain ⟨⟨un_2, t_2, hR⟩, hK⟩ := hP
      have hF := hF.tr hK
      refine aw_iload X dL_isSafe_196 rfl ?_
      refine aw_icmp_ne_f (tgt := 205) X dL_isSafe_198 (by decide) rfl ?_
      refine aw_iconst X (1) dL_isSafe_201 rfl ?_
      refine aw_goto (tgt := 206) X dL_isSafe_202 (by decide) ?_
      refine aw_istore X dL_isSafe_206 rfl (by decide) ?_
      refine aw_iload X dL_isSafe_208 rfl ?_
      refine aw_if_eq_f (tgt := 277) X dL_isSafe_210 (by decide) (by decide) ?_
      refine aw_aload_n X dL_isSafe_213 rfl ?_
      refine aw_iload_n X dL_isSafe_214 rfl ?_
      refine aw_iload X dL_isSafe_215 rfl ?_
      refine aw_if_ge_t (tgt := 225) X dL_isSafe_217 (by decide) (Int32.not_lt.mp (nI_pos (by omega))) ?_
      refine aw_iload X dL_isSafe_225 rfl ?_
      refine aw_lV (As := [.int _, .int _]) X hR.g0 (l_reach hR _ _) s_L_73 k_X4_reach (by decide) ⟨rfl, rfl⟩ (by exact ⟨Nat.le_of_ble_eq_true rfl, Nat.le_of_ble_eq_true rfl⟩) rfl (by exact Nat.le_of_ble_eq_true rfl) rfl dL_isSafe_227 (fun μ hP => ?_)
      obtain ⟨hR, hK⟩ := hP
      have hF := hF.tr hK
      have eR2 : gReach z (nI i) (nI ρ) = (z (hz i 0), upd z (hz i 0) (nI ρ)) := gRe hi hr1 hr2
      obtain ⟨un_3, t_3, hR⟩ : ∃ u w, LR U Kp μ a (upd z (hz i 0) (nI ρ)) u w s0 z v0 1 := ⟨_, _, by rw [eR2] at hR; exact hR⟩
      refine aw_top (z (hz i 0)) (by rw [eR2]) ?_
      refine aw_bipush X (20) dL_isSafe_230 rfl ?_
      refine aw_icmp_lt_f (tgt := 277) X dL_isSafe_232 (by decide) hge ?_
      refine aw_aload_n X dL_isSafe_235 rfl ?_
      refine aw_iload_n X dL_isSafe_236 rfl ?_
      refine aw_lV (As := [.int _]) X hR.g0 (l_safeFor hR _) s_L_103 k_X4_safeFor (by decide) ⟨rfl, rfl⟩ (by exact ⟨Nat.le_of_ble_eq_true rfl, Nat.le_of_ble_eq_true rfl⟩) rfl (by exact Nat.le_of_ble_eq_true rfl) rfl dL_isSafe_237 (fun μ hP => ?_)
      obtain ⟨hR, hK⟩ := hP
      have hF := hF.tr hK
      refine aw_top (-100006) (cSaf_200 hi (by rw [upd_n (by simp only [hz]; omega)]; exact hc) ((hr4 ρ hr1 (by omega)).mpr (Nat.le_refl _))) ?_
      refine aw_ldc X dL_isSafe_240 a_L_109 ?_
      refine aw_icmp_ne_f (tgt := 249) X dL_isSafe_242 (by decide) (by decide) ?_
      refine aw_iconst X (1) dL_isSafe_245 rfl ?_
      refine aw_goto (tgt := 250) X dL_isSafe_246 (by decide) ?_
      refine aw_iload X dL_isSafe_250 rfl ?_
      refine aw_if_le_f (tgt := 259) X dL_isSafe_252 (by decide) (nI_nle (by omega) (by omega)) ?_
      refine aw_iconst X (1) dL_isSafe_255 rfl ?_
      refine aw_goto (tgt := 260) X dL_isSafe_256 (by decide) ?_
      refine aw_icmp_ne_f (tgt := 277) X dL_isSafe_260 (by decide) (by decide) ?_
      refine aw_aload_n X dL_isSafe_263 rfl ?_
      refine aw_iconst X (1) dL_isSafe_264 rfl ?_
      refine aw_lV (As := [.int _]) X hR.g0 (l_restore1 hR (by decide)) s_L_93 k_X4_restore (by decide) ⟨rfl, rfl⟩ (by exact ⟨Nat.le_of_ble_eq_true rfl, Nat.le_of_ble_eq_true rfl⟩) rfl (by exact Nat.le_of_ble_eq_true rfl) rfl dL_isSafe_265 (fun μ hP => ?_)
      obtain ⟨⟨un_4, t_4, hR⟩, hK⟩ := hP
      have hF := hF.tr hK
      refine aw_iload X dL_isSafe_268 rfl ?_
      refine aw_icmp_ne_f (tgt := 277) X dL_isSafe_270 (by decide) rfl ?_
      refine aw_iconst X (1) dL_isSafe_273 rfl ?_
      refine aw_goto (tgt := 278) X dL_isSafe_274 (by decide) ?_
      refine aw_istore X dL_isSafe_278 rfl (by decide) ?_
      refine aw_iload X dL_isSafe_280 rfl ?_
      refine aw_if_eq_f (tgt := 334) X dL_isSafe_282 (by decide) (by decide) ?_
      refine aw_iload X dL_isSafe_285 rfl ?_
      refine aw_ldc X dL_isSafe_287 a_L_109 ?_
      refine aw_icmp_ne_f (tgt := 296) X dL_isSafe_289 (by decide) (by decide) ?_
      refine aw_iconst X (1) dL_isSafe_292 rfl ?_
      refine aw_goto (tgt := 297) X dL_isSafe_293 (by decide) ?_
      refine aw_iload X dL_isSafe_297 rfl ?_
      refine aw_if_le_f (tgt := 317) X dL_isSafe_299 (by decide) (nI_nle (by omega) (by omega)) ?_
      refine aw_iload X dL_isSafe_302 rfl ?_
      refine aw_aload_n X dL_isSafe_304 rfl ?_
      refine aw_iload_n X dL_isSafe_305 rfl ?_
      refine aw_iconst X (0) dL_isSafe_306 rfl ?_
      refine aw_lF (As := [.int _, .int _]) X hR.g0 (l_hose hR _ _) s_L_28 k_X4_hose (by decide) ⟨rfl, rfl⟩ (by exact ⟨Nat.le_of_ble_eq_true rfl, Nat.le_of_ble_eq_true rfl⟩) rfl (by exact Nat.le_of_ble_eq_true rfl) rfl dL_isSafe_307 ?_
      refine aw_top (nI r0) ((cHo_0 hi).trans er0) ?_
      refine aw_icmp_gt_f (tgt := 317) X dL_isSafe_310 (by decide) (nI_nlt (hS0.mp hS) (by omega)) ?_
      refine aw_iconst X (1) dL_isSafe_313 rfl ?_
      refine aw_goto (tgt := 318) X dL_isSafe_314 (by decide) ?_
      refine aw_icmp_ne_f (tgt := 334) X dL_isSafe_318 (by decide) (by decide) ?_
      refine aw_aload_n X dL_isSafe_321 rfl ?_
      refine aw_lSF (As := [.ref _]) X (c_L_tale (kl K) U hR) s_L_83 k_L_tale (by decide) ⟨rfl, rfl⟩ (by exact ⟨Nat.le_of_ble_eq_true rfl, Nat.le_of_ble_eq_true rfl⟩) rfl (by exact Nat.le_of_ble_eq_true rfl) dL_isSafe_322 ?_
      refine aw_lload_n X dL_isSafe_325 rfl ?_
      refine aw_lcmp X dL_isSafe_326 ?_
      refine aw_top (0) (lg_self _) ?_
      refine aw_if_ne_f (tgt := 334) X dL_isSafe_327 (by decide) (by decide) ?_
      refine aw_iconst X (1) dL_isSafe_330 rfl ?_
      refine aw_goto (tgt := 335) X dL_isSafe_331 (by decide) ?_
      exact aw_zret X rfl hQ dL_isSafe_335 ⟨rfl, ⟨_, _, _, _, _, _, hR⟩, hF⟩
  obtain ⟨s, es⟩ : ∃ s, sfN z i = s := ⟨_, rfl⟩
  have hs200 : s < 200 := by have := sf_le z i; omega
  have hlt : r0 < ρ := by omega
  by_cases hs0 : s = 0
  · subst hs0
    by_cases hρ : ρ = 20
    · skip
      refine aw_top (0) (cSaf_k hi hc hS es) ?_
      refine aw_istore X dL_isSafe_10 rfl (by decide) ?_
      refine aw_aload_n X dL_isSafe_12 rfl ?_
      refine aw_iload_n X dL_isSafe_13 rfl ?_
      refine aw_lV (As := [.int _]) X hR.g0 (l_leastReach hR _) s_L_106 k_X4_leastReach (by decide) ⟨rfl, rfl⟩ (by exact ⟨Nat.le_of_ble_eq_true rfl, Nat.le_of_ble_eq_true rfl⟩) rfl (by exact Nat.le_of_ble_eq_true rfl) rfl dL_isSafe_14 (fun μ hP => ?_)
      obtain ⟨hR, hK⟩ := hP
      have hF := hF.tr hK
      refine aw_top (nI ρ) (cLea_k hi hc hr2 hr3) ?_
      refine aw_istore X dL_isSafe_17 rfl (by decide) ?_
      refine aw_aload_n X dL_isSafe_19 rfl ?_
      refine aw_iload_n X dL_isSafe_20 rfl ?_
      refine aw_iconst X (2) dL_isSafe_21 rfl ?_
      refine aw_lF (As := [.int _, .int _]) X hR.g0 (l_hose hR _ _) s_L_28 k_X4_hose (by decide) ⟨rfl, rfl⟩ (by exact ⟨Nat.le_of_ble_eq_true rfl, Nat.le_of_ble_eq_true rfl⟩) rfl (by exact Nat.le_of_ble_eq_true rfl) rfl dL_isSafe_22 ?_
      refine aw_top (z (hz i 2)) (cHo_2 hi) ?_
      refine aw_if_ge_t (tgt := 48) X dL_isSafe_25 (by decide) (by rw [isG_hv hc]; exact Int32.not_lt.mp (nI_pos (by have : tn (z (hz i 2)) < 4 := isG_tn hc; omega))) ?_
      refine aw_aload_n X dL_isSafe_48 rfl ?_
      refine aw_iconst X (1) dL_isSafe_49 rfl ?_
      refine aw_lV (As := [.int _]) X hR.g0 (l_save1 hR) s_L_87 k_X4_save (by decide) ⟨rfl, rfl⟩ (by exact ⟨Nat.le_of_ble_eq_true rfl, Nat.le_of_ble_eq_true rfl⟩) rfl (by exact Nat.le_of_ble_eq_true rfl) rfl dL_isSafe_50 (fun μ hP => ?_)
      obtain ⟨hR, hK⟩ := hP
      have hF := hF.tr hK
      refine aw_istore X dL_isSafe_53 rfl (by decide) ?_
      refine aw_iload X dL_isSafe_55 rfl ?_
      refine aw_ldc X dL_isSafe_57 a_L_109 ?_
      refine aw_icmp_eq_f (tgt := 75) X dL_isSafe_59 (by decide) (by decide) ?_
      refine aw_iload X dL_isSafe_62 rfl ?_
      refine aw_if_lt_f (tgt := 79) X dL_isSafe_64 (by decide) (by decide) ?_
      refine aw_iload X dL_isSafe_67 rfl ?_
      refine aw_sipush X (200) dL_isSafe_69 rfl ?_
      refine aw_icmp_ge_f (tgt := 79) X dL_isSafe_72 (by decide) (by decide) ?_
      refine aw_iconst X (1) dL_isSafe_75 rfl ?_
      refine aw_goto (tgt := 80) X dL_isSafe_76 (by decide) ?_
      refine aw_istore X dL_isSafe_80 rfl (by decide) ?_
      refine aw_iload X dL_isSafe_82 rfl ?_
      refine aw_if_lt_f (tgt := 157) X dL_isSafe_84 (by decide) (by decide) ?_
      refine aw_iload X dL_isSafe_87 rfl ?_
      refine aw_bipush X (48) dL_isSafe_89 rfl ?_
      refine aw_icmp_ge_f (tgt := 157) X dL_isSafe_91 (by decide) (by decide) ?_
      refine aw_iload X dL_isSafe_94 rfl ?_
      refine aw_if_eq_f (tgt := 154) X dL_isSafe_96 (by decide) (by decide) ?_
      refine aw_iload X dL_isSafe_99 rfl ?_
      refine aw_if_eq_t (tgt := 122) X dL_isSafe_101 (by decide) (by decide) ?_
      refine aw_aload_n X dL_isSafe_122 rfl ?_
      refine aw_iconst X (1) dL_isSafe_123 rfl ?_
      refine aw_lV (As := [.int _]) X hR.g0 (l_pass hR _) s_L_76 k_X4_pass (by decide) ⟨rfl, rfl⟩ (by exact ⟨Nat.le_of_ble_eq_true rfl, Nat.le_of_ble_eq_true rfl⟩) rfl (by exact Nat.le_of_ble_eq_true rfl) rfl dL_isSafe_124 (fun μ hP => ?_)
      obtain ⟨hR, hK⟩ := hP
      have hF := hF.tr hK
      have eP2 : gPass z 1 = gHours z 1 := gp_eq (k := 1) h6 (by omega) (by omega) (by omega)
      obtain ⟨un_1, t_1, hR⟩ : ∃ u w, LR U Kp μ a ((gHours z 1).2) u w s0 z v0 1 := ⟨_, _, by rw [eP2] at hR; exact hR⟩
      refine aw_top ((gHours z 1).1) (by rw [eP2]) ?_
      refine aw_if_lt_f (tgt := 154) X dL_isSafe_127 (by decide) (gh_ok hL.1.1 1 (by omega)) ?_
      refine aw_aload_n X dL_isSafe_130 rfl ?_
      refine aw_iload_n X dL_isSafe_131 rfl ?_
      refine aw_iconst X (3) dL_isSafe_132 rfl ?_
      refine aw_lF (As := [.int _, .int _]) X hR.g0 (l_hose hR _ _) s_L_28 k_X4_hose (by decide) ⟨rfl, rfl⟩ (by exact ⟨Nat.le_of_ble_eq_true rfl, Nat.le_of_ble_eq_true rfl⟩) rfl (by exact Nat.le_of_ble_eq_true rfl) rfl dL_isSafe_133 ?_
      refine aw_top (1) (cHo_31 hi (sf_at es (by omega))) ?_
      refine aw_iconst X (1) dL_isSafe_136 rfl ?_
      refine aw_icmp_ne_f (tgt := 154) X dL_isSafe_137 (by decide) (by decide) ?_
      refine aw_aload_n X dL_isSafe_140 rfl ?_
      refine aw_iconst X (1) dL_isSafe_141 rfl ?_
      refine aw_lV (As := [.int _]) X hR.g0 (l_restore1 hR (by decide)) s_L_93 k_X4_restore (by decide) ⟨rfl, rfl⟩ (by exact ⟨Nat.le_of_ble_eq_true rfl, Nat.le_of_ble_eq_true rfl⟩) rfl (by exact Nat.le_of_ble_eq_true rfl) rfl dL_isSafe_142 (fun μ hP => ?_)
      obtain ⟨⟨un_2, t_2, hR⟩, hK⟩ := hP
      have hF := hF.tr hK
      refine aw_iload X dL_isSafe_145 rfl ?_
      refine aw_icmp_ne_f (tgt := 154) X dL_isSafe_147 (by decide) rfl ?_
      refine aw_iconst X (1) dL_isSafe_150 rfl ?_
      refine aw_goto (tgt := 155) X dL_isSafe_151 (by decide) ?_
      refine aw_istore X dL_isSafe_155 rfl (by decide) ?_
      refine aw_iload X dL_isSafe_157 rfl ?_
      refine aw_bipush X (20) dL_isSafe_159 rfl ?_
      refine aw_icmp_le_t (tgt := 208) X dL_isSafe_161 (by decide) (nI_le (b := 20) (by omega) (by omega)) ?_
      refine aw_iload X dL_isSafe_208 rfl ?_
      refine aw_if_eq_f (tgt := 277) X dL_isSafe_210 (by decide) (by decide) ?_
      refine aw_aload_n X dL_isSafe_213 rfl ?_
      refine aw_iload_n X dL_isSafe_214 rfl ?_
      refine aw_iload X dL_isSafe_215 rfl ?_
      refine aw_if_ge_t (tgt := 225) X dL_isSafe_217 (by decide) (Int32.not_lt.mp (nI_pos (by omega))) ?_
      refine aw_iload X dL_isSafe_225 rfl ?_
      refine aw_lV (As := [.int _, .int _]) X hR.g0 (l_reach hR _ _) s_L_73 k_X4_reach (by decide) ⟨rfl, rfl⟩ (by exact ⟨Nat.le_of_ble_eq_true rfl, Nat.le_of_ble_eq_true rfl⟩) rfl (by exact Nat.le_of_ble_eq_true rfl) rfl dL_isSafe_227 (fun μ hP => ?_)
      obtain ⟨hR, hK⟩ := hP
      have hF := hF.tr hK
      have eR2 : gReach z (nI i) (nI ρ) = (z (hz i 0), upd z (hz i 0) (nI ρ)) := gRe hi hr1 hr2
      obtain ⟨un_3, t_3, hR⟩ : ∃ u w, LR U Kp μ a (upd z (hz i 0) (nI ρ)) u w s0 z v0 1 := ⟨_, _, by rw [eR2] at hR; exact hR⟩
      refine aw_top (z (hz i 0)) (by rw [eR2]) ?_
      refine aw_bipush X (20) dL_isSafe_230 rfl ?_
      refine aw_icmp_lt_f (tgt := 277) X dL_isSafe_232 (by decide) hge ?_
      refine aw_aload_n X dL_isSafe_235 rfl ?_
      refine aw_iload_n X dL_isSafe_236 rfl ?_
      refine aw_lV (As := [.int _]) X hR.g0 (l_safeFor hR _) s_L_103 k_X4_safeFor (by decide) ⟨rfl, rfl⟩ (by exact ⟨Nat.le_of_ble_eq_true rfl, Nat.le_of_ble_eq_true rfl⟩) rfl (by exact Nat.le_of_ble_eq_true rfl) rfl dL_isSafe_237 (fun μ hP => ?_)
      obtain ⟨hR, hK⟩ := hP
      have hF := hF.tr hK
      refine aw_top (-100006) (cSaf_200 hi (by rw [upd_n (by simp only [hz]; omega)]; exact hc) ((hr4 ρ hr1 (by omega)).mpr (Nat.le_refl _))) ?_
      refine aw_ldc X dL_isSafe_240 a_L_109 ?_
      refine aw_icmp_ne_f (tgt := 249) X dL_isSafe_242 (by decide) (by decide) ?_
      refine aw_iconst X (1) dL_isSafe_245 rfl ?_
      refine aw_goto (tgt := 250) X dL_isSafe_246 (by decide) ?_
      refine aw_iload X dL_isSafe_250 rfl ?_
      refine aw_if_le_f (tgt := 259) X dL_isSafe_252 (by decide) (nI_nle (by omega) (by omega)) ?_
      refine aw_iconst X (1) dL_isSafe_255 rfl ?_
      refine aw_goto (tgt := 260) X dL_isSafe_256 (by decide) ?_
      refine aw_icmp_ne_f (tgt := 277) X dL_isSafe_260 (by decide) (by decide) ?_
      refine aw_aload_n X dL_isSafe_263 rfl ?_
      refine aw_iconst X (1) dL_isSafe_264 rfl ?_
      refine aw_lV (As := [.int _]) X hR.g0 (l_restore1 hR (by decide)) s_L_93 k_X4_restore (by decide) ⟨rfl, rfl⟩ (by exact ⟨Nat.le_of_ble_eq_true rfl, Nat.le_of_ble_eq_true rfl⟩) rfl (by exact Nat.le_of_ble_eq_true rfl) rfl dL_isSafe_265 (fun μ hP => ?_)
      obtain ⟨⟨un_4, t_4, hR⟩, hK⟩ := hP
      have hF := hF.tr hK
      refine aw_iload X dL_isSafe_268 rfl ?_
      refine aw_icmp_ne_f (tgt := 277) X dL_isSafe_270 (by decide) rfl ?_
      refine aw_iconst X (1) dL_isSafe_273 rfl ?_
      refine aw_goto (tgt := 278) X dL_isSafe_274 (by decide) ?_
      refine aw_istore X dL_isSafe_278 rfl (by decide) ?_
      refine aw_iload X dL_isSafe_280 rfl ?_
      refine aw_if_eq_f (tgt := 334) X dL_isSafe_282 (by decide) (by decide) ?_
      refine aw_iload X dL_isSafe_285 rfl ?_
      refine aw_ldc X dL_isSafe_287 a_L_109 ?_
      refine aw_icmp_ne_t (tgt := 296) X dL_isSafe_289 (by decide) (by decide) ?_
      refine aw_iconst X (0) dL_isSafe_296 rfl ?_
      refine aw_iload X dL_isSafe_297 rfl ?_
      refine aw_if_le_f (tgt := 317) X dL_isSafe_299 (by decide) (nI_nle (by omega) (by omega)) ?_
      refine aw_iload X dL_isSafe_302 rfl ?_
      refine aw_aload_n X dL_isSafe_304 rfl ?_
      refine aw_iload_n X dL_isSafe_305 rfl ?_
      refine aw_iconst X (0) dL_isSafe_306 rfl ?_
      refine aw_lF (As := [.int _, .int _]) X hR.g0 (l_hose hR _ _) s_L_28 k_X4_hose (by decide) ⟨rfl, rfl⟩ (by exact ⟨Nat.le_of_ble_eq_true rfl, Nat.le_of_ble_eq_true rfl⟩) rfl (by exact Nat.le_of_ble_eq_true rfl) rfl dL_isSafe_307 ?_
      refine aw_top (nI r0) ((cHo_0 hi).trans er0) ?_
      refine aw_icmp_gt_t (tgt := 317) X dL_isSafe_310 (by decide) (nI_lt hlt (by omega)) ?_
      refine aw_iconst X (0) dL_isSafe_317 rfl ?_
      refine aw_icmp_ne_f (tgt := 334) X dL_isSafe_318 (by decide) (by decide) ?_
      refine aw_aload_n X dL_isSafe_321 rfl ?_
      refine aw_lSF (As := [.ref _]) X (c_L_tale (kl K) U hR) s_L_83 k_L_tale (by decide) ⟨rfl, rfl⟩ (by exact ⟨Nat.le_of_ble_eq_true rfl, Nat.le_of_ble_eq_true rfl⟩) rfl (by exact Nat.le_of_ble_eq_true rfl) dL_isSafe_322 ?_
      refine aw_lload_n X dL_isSafe_325 rfl ?_
      refine aw_lcmp X dL_isSafe_326 ?_
      refine aw_top (0) (lg_self _) ?_
      refine aw_if_ne_f (tgt := 334) X dL_isSafe_327 (by decide) (by decide) ?_
      refine aw_iconst X (1) dL_isSafe_330 rfl ?_
      refine aw_goto (tgt := 335) X dL_isSafe_331 (by decide) ?_
      exact aw_zret X rfl hQ dL_isSafe_335 ⟨rfl, ⟨_, _, _, _, _, _, hR⟩, hF⟩
    · skip
      refine aw_top (0) (cSaf_k hi hc hS es) ?_
      refine aw_istore X dL_isSafe_10 rfl (by decide) ?_
      refine aw_aload_n X dL_isSafe_12 rfl ?_
      refine aw_iload_n X dL_isSafe_13 rfl ?_
      refine aw_lV (As := [.int _]) X hR.g0 (l_leastReach hR _) s_L_106 k_X4_leastReach (by decide) ⟨rfl, rfl⟩ (by exact ⟨Nat.le_of_ble_eq_true rfl, Nat.le_of_ble_eq_true rfl⟩) rfl (by exact Nat.le_of_ble_eq_true rfl) rfl dL_isSafe_14 (fun μ hP => ?_)
      obtain ⟨hR, hK⟩ := hP
      have hF := hF.tr hK
      refine aw_top (nI ρ) (cLea_k hi hc hr2 hr3) ?_
      refine aw_istore X dL_isSafe_17 rfl (by decide) ?_
      refine aw_aload_n X dL_isSafe_19 rfl ?_
      refine aw_iload_n X dL_isSafe_20 rfl ?_
      refine aw_iconst X (2) dL_isSafe_21 rfl ?_
      refine aw_lF (As := [.int _, .int _]) X hR.g0 (l_hose hR _ _) s_L_28 k_X4_hose (by decide) ⟨rfl, rfl⟩ (by exact ⟨Nat.le_of_ble_eq_true rfl, Nat.le_of_ble_eq_true rfl⟩) rfl (by exact Nat.le_of_ble_eq_true rfl) rfl dL_isSafe_22 ?_
      refine aw_top (z (hz i 2)) (cHo_2 hi) ?_
      refine aw_if_ge_t (tgt := 48) X dL_isSafe_25 (by decide) (by rw [isG_hv hc]; exact Int32.not_lt.mp (nI_pos (by have : tn (z (hz i 2)) < 4 := isG_tn hc; omega))) ?_
      refine aw_aload_n X dL_isSafe_48 rfl ?_
      refine aw_iconst X (1) dL_isSafe_49 rfl ?_
      refine aw_lV (As := [.int _]) X hR.g0 (l_save1 hR) s_L_87 k_X4_save (by decide) ⟨rfl, rfl⟩ (by exact ⟨Nat.le_of_ble_eq_true rfl, Nat.le_of_ble_eq_true rfl⟩) rfl (by exact Nat.le_of_ble_eq_true rfl) rfl dL_isSafe_50 (fun μ hP => ?_)
      obtain ⟨hR, hK⟩ := hP
      have hF := hF.tr hK
      refine aw_istore X dL_isSafe_53 rfl (by decide) ?_
      refine aw_iload X dL_isSafe_55 rfl ?_
      refine aw_ldc X dL_isSafe_57 a_L_109 ?_
      refine aw_icmp_eq_f (tgt := 75) X dL_isSafe_59 (by decide) (by decide) ?_
      refine aw_iload X dL_isSafe_62 rfl ?_
      refine aw_if_lt_f (tgt := 79) X dL_isSafe_64 (by decide) (by decide) ?_
      refine aw_iload X dL_isSafe_67 rfl ?_
      refine aw_sipush X (200) dL_isSafe_69 rfl ?_
      refine aw_icmp_ge_f (tgt := 79) X dL_isSafe_72 (by decide) (by decide) ?_
      refine aw_iconst X (1) dL_isSafe_75 rfl ?_
      refine aw_goto (tgt := 80) X dL_isSafe_76 (by decide) ?_
      refine aw_istore X dL_isSafe_80 rfl (by decide) ?_
      refine aw_iload X dL_isSafe_82 rfl ?_
      refine aw_if_lt_f (tgt := 157) X dL_isSafe_84 (by decide) (by decide) ?_
      refine aw_iload X dL_isSafe_87 rfl ?_
      refine aw_bipush X (48) dL_isSafe_89 rfl ?_
      refine aw_icmp_ge_f (tgt := 157) X dL_isSafe_91 (by decide) (by decide) ?_
      refine aw_iload X dL_isSafe_94 rfl ?_
      refine aw_if_eq_f (tgt := 154) X dL_isSafe_96 (by decide) (by decide) ?_
      refine aw_iload X dL_isSafe_99 rfl ?_
      refine aw_if_eq_t (tgt := 122) X dL_isSafe_101 (by decide) (by decide) ?_
      refine aw_aload_n X dL_isSafe_122 rfl ?_
      refine aw_iconst X (1) dL_isSafe_123 rfl ?_
      refine aw_lV (As := [.int _]) X hR.g0 (l_pass hR _) s_L_76 k_X4_pass (by decide) ⟨rfl, rfl⟩ (by exact ⟨Nat.le_of_ble_eq_true rfl, Nat.le_of_ble_eq_true rfl⟩) rfl (by exact Nat.le_of_ble_eq_true rfl) rfl dL_isSafe_124 (fun μ hP => ?_)
      obtain ⟨hR, hK⟩ := hP
      have hF := hF.tr hK
      have eP2 : gPass z 1 = gHours z 1 := gp_eq (k := 1) h6 (by omega) (by omega) (by omega)
      obtain ⟨un_1, t_1, hR⟩ : ∃ u w, LR U Kp μ a ((gHours z 1).2) u w s0 z v0 1 := ⟨_, _, by rw [eP2] at hR; exact hR⟩
      refine aw_top ((gHours z 1).1) (by rw [eP2]) ?_
      refine aw_if_lt_f (tgt := 154) X dL_isSafe_127 (by decide) (gh_ok hL.1.1 1 (by omega)) ?_
      refine aw_aload_n X dL_isSafe_130 rfl ?_
      refine aw_iload_n X dL_isSafe_131 rfl ?_
      refine aw_iconst X (3) dL_isSafe_132 rfl ?_
      refine aw_lF (As := [.int _, .int _]) X hR.g0 (l_hose hR _ _) s_L_28 k_X4_hose (by decide) ⟨rfl, rfl⟩ (by exact ⟨Nat.le_of_ble_eq_true rfl, Nat.le_of_ble_eq_true rfl⟩) rfl (by exact Nat.le_of_ble_eq_true rfl) rfl dL_isSafe_133 ?_
      refine aw_top (1) (cHo_31 hi (sf_at es (by omega))) ?_
      refine aw_iconst X (1) dL_isSafe_136 rfl ?_
      refine aw_icmp_ne_f (tgt := 154) X dL_isSafe_137 (by decide) (by decide) ?_
      refine aw_aload_n X dL_isSafe_140 rfl ?_
      refine aw_iconst X (1) dL_isSafe_141 rfl ?_
      refine aw_lV (As := [.int _]) X hR.g0 (l_restore1 hR (by decide)) s_L_93 k_X4_restore (by decide) ⟨rfl, rfl⟩ (by exact ⟨Nat.le_of_ble_eq_true rfl, Nat.le_of_ble_eq_true rfl⟩) rfl (by exact Nat.le_of_ble_eq_true rfl) rfl dL_isSafe_142 (fun μ hP => ?_)
      obtain ⟨⟨un_2, t_2, hR⟩, hK⟩ := hP
      have hF := hF.tr hK
      refine aw_iload X dL_isSafe_145 rfl ?_
      refine aw_icmp_ne_f (tgt := 154) X dL_isSafe_147 (by decide) rfl ?_
      refine aw_iconst X (1) dL_isSafe_150 rfl ?_
      refine aw_goto (tgt := 155) X dL_isSafe_151 (by decide) ?_
      refine aw_istore X dL_isSafe_155 rfl (by decide) ?_
      refine aw_iload X dL_isSafe_157 rfl ?_
      refine aw_bipush X (20) dL_isSafe_159 rfl ?_
      refine aw_icmp_le_f (tgt := 208) X dL_isSafe_161 (by decide) (nI_ge (a := 20) (by omega) (by omega)) ?_
      refine aw_iload X dL_isSafe_164 rfl ?_
      refine aw_if_eq_f (tgt := 205) X dL_isSafe_166 (by decide) (by decide) ?_
      refine aw_aload_n X dL_isSafe_169 rfl ?_
      refine aw_iload_n X dL_isSafe_170 rfl ?_
      refine aw_iload X dL_isSafe_171 rfl ?_
      refine aw_iconst X (1) dL_isSafe_173 rfl ?_
      refine aw_isub X dL_isSafe_174 ?_
      refine aw_top (nI (ρ - 1)) (nI_prd (by omega)) ?_
      refine aw_lV (As := [.int _, .int _]) X hR.g0 (l_reach hR _ _) s_L_73 k_X4_reach (by decide) ⟨rfl, rfl⟩ (by exact ⟨Nat.le_of_ble_eq_true rfl, Nat.le_of_ble_eq_true rfl⟩) rfl (by exact Nat.le_of_ble_eq_true rfl) rfl dL_isSafe_175 (fun μ hP => ?_)
      obtain ⟨hR, hK⟩ := hP
      have hF := hF.tr hK
      have eR : gReach z (nI i) (nI (ρ - 1)) = (z (hz i 0), upd z (hz i 0) (nI (ρ - 1))) := gRe hi (by omega) (by omega)
      obtain ⟨un_3, t_3, hR⟩ : ∃ u w, LR U Kp μ a (upd z (hz i 0) (nI (ρ - 1))) u w s0 z v0 1 := ⟨_, _, by rw [eR] at hR; exact hR⟩
      refine aw_top (z (hz i 0)) (by rw [eR]) ?_
      refine aw_bipush X (20) dL_isSafe_178 rfl ?_
      refine aw_icmp_lt_f (tgt := 205) X dL_isSafe_180 (by decide) hge ?_
      refine aw_aload_n X dL_isSafe_183 rfl ?_
      refine aw_iload_n X dL_isSafe_184 rfl ?_
      refine aw_lV (As := [.int _]) X hR.g0 (l_safeFor hR _) s_L_103 k_X4_safeFor (by decide) ⟨rfl, rfl⟩ (by exact ⟨Nat.le_of_ble_eq_true rfl, Nat.le_of_ble_eq_true rfl⟩) rfl (by exact Nat.le_of_ble_eq_true rfl) rfl dL_isSafe_185 (fun μ hP => ?_)
      obtain ⟨hR, hK⟩ := hP
      have hF := hF.tr hK
      refine aw_top (nI (sfN (upd z (hz i 0) (nI (ρ - 1))) i)) (cSaf_k hi (by rw [upd_n (by simp only [hz]; omega)]; exact hc) (fun q => by have := (hr4 (ρ - 1) (by omega) (by omega)).mp q; omega) rfl) ?_
      refine aw_if_lt_f (tgt := 205) X dL_isSafe_188 (by decide) (nI_pos (by have := sf_le (upd z (hz i 0) (nI (ρ - 1))) i; omega)) ?_
      refine aw_aload_n X dL_isSafe_191 rfl ?_
      refine aw_iconst X (1) dL_isSafe_192 rfl ?_
      refine aw_lV (As := [.int _]) X hR.g0 (l_restore1 hR (by decide)) s_L_93 k_X4_restore (by decide) ⟨rfl, rfl⟩ (by exact ⟨Nat.le_of_ble_eq_true rfl, Nat.le_of_ble_eq_true rfl⟩) rfl (by exact Nat.le_of_ble_eq_true rfl) rfl dL_isSafe_193 (fun μ hP => ?_)
      obtain ⟨⟨un_4, t_4, hR⟩, hK⟩ := hP
      have hF := hF.tr hK
      refine aw_iload X dL_isSafe_196 rfl ?_
      refine aw_icmp_ne_f (tgt := 205) X dL_isSafe_198 (by decide) rfl ?_
      refine aw_iconst X (1) dL_isSafe_201 rfl ?_
      refine aw_goto (tgt := 206) X dL_isSafe_202 (by decide) ?_
      refine aw_istore X dL_isSafe_206 rfl (by decide) ?_
      refine aw_iload X dL_isSafe_208 rfl ?_
      refine aw_if_eq_f (tgt := 277) X dL_isSafe_210 (by decide) (by decide) ?_
      refine aw_aload_n X dL_isSafe_213 rfl ?_
      refine aw_iload_n X dL_isSafe_214 rfl ?_
      refine aw_iload X dL_isSafe_215 rfl ?_
      refine aw_if_ge_t (tgt := 225) X dL_isSafe_217 (by decide) (Int32.not_lt.mp (nI_pos (by omega))) ?_
      refine aw_iload X dL_isSafe_225 rfl ?_
      refine aw_lV (As := [.int _, .int _]) X hR.g0 (l_reach hR _ _) s_L_73 k_X4_reach (by decide) ⟨rfl, rfl⟩ (by exact ⟨Nat.le_of_ble_eq_true rfl, Nat.le_of_ble_eq_true rfl⟩) rfl (by exact Nat.le_of_ble_eq_true rfl) rfl dL_isSafe_227 (fun μ hP => ?_)
      obtain ⟨hR, hK⟩ := hP
      have hF := hF.tr hK
      have eR2 : gReach z (nI i) (nI ρ) = (z (hz i 0), upd z (hz i 0) (nI ρ)) := gRe hi hr1 hr2
      obtain ⟨un_5, t_5, hR⟩ : ∃ u w, LR U Kp μ a (upd z (hz i 0) (nI ρ)) u w s0 z v0 1 := ⟨_, _, by rw [eR2] at hR; exact hR⟩
      refine aw_top (z (hz i 0)) (by rw [eR2]) ?_
      refine aw_bipush X (20) dL_isSafe_230 rfl ?_
      refine aw_icmp_lt_f (tgt := 277) X dL_isSafe_232 (by decide) hge ?_
      refine aw_aload_n X dL_isSafe_235 rfl ?_
      refine aw_iload_n X dL_isSafe_236 rfl ?_
      refine aw_lV (As := [.int _]) X hR.g0 (l_safeFor hR _) s_L_103 k_X4_safeFor (by decide) ⟨rfl, rfl⟩ (by exact ⟨Nat.le_of_ble_eq_true rfl, Nat.le_of_ble_eq_true rfl⟩) rfl (by exact Nat.le_of_ble_eq_true rfl) rfl dL_isSafe_237 (fun μ hP => ?_)
      obtain ⟨hR, hK⟩ := hP
      have hF := hF.tr hK
      refine aw_top (-100006) (cSaf_200 hi (by rw [upd_n (by simp only [hz]; omega)]; exact hc) ((hr4 ρ hr1 (by omega)).mpr (Nat.le_refl _))) ?_
      refine aw_ldc X dL_isSafe_240 a_L_109 ?_
      refine aw_icmp_ne_f (tgt := 249) X dL_isSafe_242 (by decide) (by decide) ?_
      refine aw_iconst X (1) dL_isSafe_245 rfl ?_
      refine aw_goto (tgt := 250) X dL_isSafe_246 (by decide) ?_
      refine aw_iload X dL_isSafe_250 rfl ?_
      refine aw_if_le_f (tgt := 259) X dL_isSafe_252 (by decide) (nI_nle (by omega) (by omega)) ?_
      refine aw_iconst X (1) dL_isSafe_255 rfl ?_
      refine aw_goto (tgt := 260) X dL_isSafe_256 (by decide) ?_
      refine aw_icmp_ne_f (tgt := 277) X dL_isSafe_260 (by decide) (by decide) ?_
      refine aw_aload_n X dL_isSafe_263 rfl ?_
      refine aw_iconst X (1) dL_isSafe_264 rfl ?_
      refine aw_lV (As := [.int _]) X hR.g0 (l_restore1 hR (by decide)) s_L_93 k_X4_restore (by decide) ⟨rfl, rfl⟩ (by exact ⟨Nat.le_of_ble_eq_true rfl, Nat.le_of_ble_eq_true rfl⟩) rfl (by exact Nat.le_of_ble_eq_true rfl) rfl dL_isSafe_265 (fun μ hP => ?_)
      obtain ⟨⟨un_6, t_6, hR⟩, hK⟩ := hP
      have hF := hF.tr hK
      refine aw_iload X dL_isSafe_268 rfl ?_
      refine aw_icmp_ne_f (tgt := 277) X dL_isSafe_270 (by decide) rfl ?_
      refine aw_iconst X (1) dL_isSafe_273 rfl ?_
      refine aw_goto (tgt := 278) X dL_isSafe_274 (by decide) ?_
      refine aw_istore X dL_isSafe_278 rfl (by decide) ?_
      refine aw_iload X dL_isSafe_280 rfl ?_
      refine aw_if_eq_f (tgt := 334) X dL_isSafe_282 (by decide) (by decide) ?_
      refine aw_iload X dL_isSafe_285 rfl ?_
      refine aw_ldc X dL_isSafe_287 a_L_109 ?_
      refine aw_icmp_ne_t (tgt := 296) X dL_isSafe_289 (by decide) (by decide) ?_
      refine aw_iconst X (0) dL_isSafe_296 rfl ?_
      refine aw_iload X dL_isSafe_297 rfl ?_
      refine aw_if_le_f (tgt := 317) X dL_isSafe_299 (by decide) (nI_nle (by omega) (by omega)) ?_
      refine aw_iload X dL_isSafe_302 rfl ?_
      refine aw_aload_n X dL_isSafe_304 rfl ?_
      refine aw_iload_n X dL_isSafe_305 rfl ?_
      refine aw_iconst X (0) dL_isSafe_306 rfl ?_
      refine aw_lF (As := [.int _, .int _]) X hR.g0 (l_hose hR _ _) s_L_28 k_X4_hose (by decide) ⟨rfl, rfl⟩ (by exact ⟨Nat.le_of_ble_eq_true rfl, Nat.le_of_ble_eq_true rfl⟩) rfl (by exact Nat.le_of_ble_eq_true rfl) rfl dL_isSafe_307 ?_
      refine aw_top (nI r0) ((cHo_0 hi).trans er0) ?_
      refine aw_icmp_gt_t (tgt := 317) X dL_isSafe_310 (by decide) (nI_lt hlt (by omega)) ?_
      refine aw_iconst X (0) dL_isSafe_317 rfl ?_
      refine aw_icmp_ne_f (tgt := 334) X dL_isSafe_318 (by decide) (by decide) ?_
      refine aw_aload_n X dL_isSafe_321 rfl ?_
      refine aw_lSF (As := [.ref _]) X (c_L_tale (kl K) U hR) s_L_83 k_L_tale (by decide) ⟨rfl, rfl⟩ (by exact ⟨Nat.le_of_ble_eq_true rfl, Nat.le_of_ble_eq_true rfl⟩) rfl (by exact Nat.le_of_ble_eq_true rfl) dL_isSafe_322 ?_
      refine aw_lload_n X dL_isSafe_325 rfl ?_
      refine aw_lcmp X dL_isSafe_326 ?_
      refine aw_top (0) (lg_self _) ?_
      refine aw_if_ne_f (tgt := 334) X dL_isSafe_327 (by decide) (by decide) ?_
      refine aw_iconst X (1) dL_isSafe_330 rfl ?_
      refine aw_goto (tgt := 335) X dL_isSafe_331 (by decide) ?_
      exact aw_zret X rfl hQ dL_isSafe_335 ⟨rfl, ⟨_, _, _, _, _, _, hR⟩, hF⟩
  by_cases hs48 : 48 ≤ s
  · skip
    by_cases hρ : ρ = 20
    · skip
      refine aw_top (nI s) (cSaf_k hi hc hS es) ?_
      refine aw_istore X dL_isSafe_10 rfl (by decide) ?_
      refine aw_aload_n X dL_isSafe_12 rfl ?_
      refine aw_iload_n X dL_isSafe_13 rfl ?_
      refine aw_lV (As := [.int _]) X hR.g0 (l_leastReach hR _) s_L_106 k_X4_leastReach (by decide) ⟨rfl, rfl⟩ (by exact ⟨Nat.le_of_ble_eq_true rfl, Nat.le_of_ble_eq_true rfl⟩) rfl (by exact Nat.le_of_ble_eq_true rfl) rfl dL_isSafe_14 (fun μ hP => ?_)
      obtain ⟨hR, hK⟩ := hP
      have hF := hF.tr hK
      refine aw_top (nI ρ) (cLea_k hi hc hr2 hr3) ?_
      refine aw_istore X dL_isSafe_17 rfl (by decide) ?_
      refine aw_aload_n X dL_isSafe_19 rfl ?_
      refine aw_iload_n X dL_isSafe_20 rfl ?_
      refine aw_iconst X (2) dL_isSafe_21 rfl ?_
      refine aw_lF (As := [.int _, .int _]) X hR.g0 (l_hose hR _ _) s_L_28 k_X4_hose (by decide) ⟨rfl, rfl⟩ (by exact ⟨Nat.le_of_ble_eq_true rfl, Nat.le_of_ble_eq_true rfl⟩) rfl (by exact Nat.le_of_ble_eq_true rfl) rfl dL_isSafe_22 ?_
      refine aw_top (z (hz i 2)) (cHo_2 hi) ?_
      refine aw_if_ge_t (tgt := 48) X dL_isSafe_25 (by decide) (by rw [isG_hv hc]; exact Int32.not_lt.mp (nI_pos (by have : tn (z (hz i 2)) < 4 := isG_tn hc; omega))) ?_
      refine aw_aload_n X dL_isSafe_48 rfl ?_
      refine aw_iconst X (1) dL_isSafe_49 rfl ?_
      refine aw_lV (As := [.int _]) X hR.g0 (l_save1 hR) s_L_87 k_X4_save (by decide) ⟨rfl, rfl⟩ (by exact ⟨Nat.le_of_ble_eq_true rfl, Nat.le_of_ble_eq_true rfl⟩) rfl (by exact Nat.le_of_ble_eq_true rfl) rfl dL_isSafe_50 (fun μ hP => ?_)
      obtain ⟨hR, hK⟩ := hP
      have hF := hF.tr hK
      refine aw_istore X dL_isSafe_53 rfl (by decide) ?_
      refine aw_iload X dL_isSafe_55 rfl ?_
      refine aw_ldc X dL_isSafe_57 a_L_109 ?_
      refine aw_icmp_eq_f (tgt := 75) X dL_isSafe_59 (by decide) (nIN_ne _ (by omega)) ?_
      refine aw_iload X dL_isSafe_62 rfl ?_
      refine aw_if_lt_f (tgt := 79) X dL_isSafe_64 (by decide) (nI_pos (by omega)) ?_
      refine aw_iload X dL_isSafe_67 rfl ?_
      refine aw_sipush X (200) dL_isSafe_69 rfl ?_
      refine aw_icmp_ge_f (tgt := 79) X dL_isSafe_72 (by decide) (nI_ge (b := 200) (by omega) (by omega)) ?_
      refine aw_iconst X (1) dL_isSafe_75 rfl ?_
      refine aw_goto (tgt := 80) X dL_isSafe_76 (by decide) ?_
      refine aw_istore X dL_isSafe_80 rfl (by decide) ?_
      refine aw_iload X dL_isSafe_82 rfl ?_
      refine aw_if_lt (tgt := 157) X dL_isSafe_84 (by decide) (fun c84_1 => ?_) (fun c84_1 => ?_)
      · skip
        refine aw_iload X dL_isSafe_157 rfl ?_
        refine aw_bipush X (20) dL_isSafe_159 rfl ?_
        refine aw_icmp_le_t (tgt := 208) X dL_isSafe_161 (by decide) (nI_le (b := 20) (by omega) (by omega)) ?_
        refine aw_iload X dL_isSafe_208 rfl ?_
        refine aw_if_eq_f (tgt := 277) X dL_isSafe_210 (by decide) (by decide) ?_
        refine aw_aload_n X dL_isSafe_213 rfl ?_
        refine aw_iload_n X dL_isSafe_214 rfl ?_
        refine aw_iload X dL_isSafe_215 rfl ?_
        refine aw_if_ge_t (tgt := 225) X dL_isSafe_217 (by decide) (Int32.not_lt.mp (nI_pos (by omega))) ?_
        refine aw_iload X dL_isSafe_225 rfl ?_
        refine aw_lV (As := [.int _, .int _]) X hR.g0 (l_reach hR _ _) s_L_73 k_X4_reach (by decide) ⟨rfl, rfl⟩ (by exact ⟨Nat.le_of_ble_eq_true rfl, Nat.le_of_ble_eq_true rfl⟩) rfl (by exact Nat.le_of_ble_eq_true rfl) rfl dL_isSafe_227 (fun μ hP => ?_)
        obtain ⟨hR, hK⟩ := hP
        have hF := hF.tr hK
        have eR2 : gReach z (nI i) (nI ρ) = (z (hz i 0), upd z (hz i 0) (nI ρ)) := gRe hi hr1 hr2
        obtain ⟨un_2, t_2, hR⟩ : ∃ u w, LR U Kp μ a (upd z (hz i 0) (nI ρ)) u w s0 z v0 1 := ⟨_, _, by rw [eR2] at hR; exact hR⟩
        refine aw_top (z (hz i 0)) (by rw [eR2]) ?_
        refine aw_bipush X (20) dL_isSafe_230 rfl ?_
        refine aw_icmp_lt_f (tgt := 277) X dL_isSafe_232 (by decide) hge ?_
        refine aw_aload_n X dL_isSafe_235 rfl ?_
        refine aw_iload_n X dL_isSafe_236 rfl ?_
        refine aw_lV (As := [.int _]) X hR.g0 (l_safeFor hR _) s_L_103 k_X4_safeFor (by decide) ⟨rfl, rfl⟩ (by exact ⟨Nat.le_of_ble_eq_true rfl, Nat.le_of_ble_eq_true rfl⟩) rfl (by exact Nat.le_of_ble_eq_true rfl) rfl dL_isSafe_237 (fun μ hP => ?_)
        obtain ⟨hR, hK⟩ := hP
        have hF := hF.tr hK
        refine aw_top (-100006) (cSaf_200 hi (by rw [upd_n (by simp only [hz]; omega)]; exact hc) ((hr4 ρ hr1 (by omega)).mpr (Nat.le_refl _))) ?_
        refine aw_ldc X dL_isSafe_240 a_L_109 ?_
        refine aw_icmp_ne_f (tgt := 249) X dL_isSafe_242 (by decide) (by decide) ?_
        refine aw_iconst X (1) dL_isSafe_245 rfl ?_
        refine aw_goto (tgt := 250) X dL_isSafe_246 (by decide) ?_
        refine aw_iload X dL_isSafe_250 rfl ?_
        refine aw_if_le_f (tgt := 259) X dL_isSafe_252 (by decide) (nI_nle (by omega) (by omega)) ?_
        refine aw_iconst X (1) dL_isSafe_255 rfl ?_
        refine aw_goto (tgt := 260) X dL_isSafe_256 (by decide) ?_
        refine aw_icmp_ne_f (tgt := 277) X dL_isSafe_260 (by decide) (by decide) ?_
        refine aw_aload_n X dL_isSafe_263 rfl ?_
        refine aw_iconst X (1) dL_isSafe_264 rfl ?_
        refine aw_lV (As := [.int _]) X hR.g0 (l_restore1 hR (by decide)) s_L_93 k_X4_restore (by decide) ⟨rfl, rfl⟩ (by exact ⟨Nat.le_of_ble_eq_true rfl, Nat.le_of_ble_eq_true rfl⟩) rfl (by exact Nat.le_of_ble_eq_true rfl) rfl dL_isSafe_265 (fun μ hP => ?_)
        obtain ⟨⟨un_3, t_3, hR⟩, hK⟩ := hP
        have hF := hF.tr hK
        refine aw_iload X dL_isSafe_268 rfl ?_
        refine aw_icmp_ne_f (tgt := 277) X dL_isSafe_270 (by decide) rfl ?_
        refine aw_iconst X (1) dL_isSafe_273 rfl ?_
        refine aw_goto (tgt := 278) X dL_isSafe_274 (by decide) ?_
        refine aw_istore X dL_isSafe_278 rfl (by decide) ?_
        refine aw_iload X dL_isSafe_280 rfl ?_
        refine aw_if_eq_f (tgt := 334) X dL_isSafe_282 (by decide) (by decide) ?_
        refine aw_iload X dL_isSafe_285 rfl ?_
        refine aw_ldc X dL_isSafe_287 a_L_109 ?_
        refine aw_icmp_ne_t (tgt := 296) X dL_isSafe_289 (by decide) (nIN_ne _ (by omega)) ?_
        refine aw_iconst X (0) dL_isSafe_296 rfl ?_
        refine aw_iload X dL_isSafe_297 rfl ?_
        refine aw_if_le_f (tgt := 317) X dL_isSafe_299 (by decide) (nI_nle (by omega) (by omega)) ?_
        refine aw_iload X dL_isSafe_302 rfl ?_
        refine aw_aload_n X dL_isSafe_304 rfl ?_
        refine aw_iload_n X dL_isSafe_305 rfl ?_
        refine aw_iconst X (0) dL_isSafe_306 rfl ?_
        refine aw_lF (As := [.int _, .int _]) X hR.g0 (l_hose hR _ _) s_L_28 k_X4_hose (by decide) ⟨rfl, rfl⟩ (by exact ⟨Nat.le_of_ble_eq_true rfl, Nat.le_of_ble_eq_true rfl⟩) rfl (by exact Nat.le_of_ble_eq_true rfl) rfl dL_isSafe_307 ?_
        refine aw_top (nI r0) ((cHo_0 hi).trans er0) ?_
        refine aw_icmp_gt_t (tgt := 317) X dL_isSafe_310 (by decide) (nI_lt hlt (by omega)) ?_
        refine aw_iconst X (0) dL_isSafe_317 rfl ?_
        refine aw_icmp_ne_f (tgt := 334) X dL_isSafe_318 (by decide) (by decide) ?_
        refine aw_aload_n X dL_isSafe_321 rfl ?_
        refine aw_lSF (As := [.ref _]) X (c_L_tale (kl K) U hR) s_L_83 k_L_tale (by decide) ⟨rfl, rfl⟩ (by exact ⟨Nat.le_of_ble_eq_true rfl, Nat.le_of_ble_eq_true rfl⟩) rfl (by exact Nat.le_of_ble_eq_true rfl) dL_isSafe_322 ?_
        refine aw_lload_n X dL_isSafe_325 rfl ?_
        refine aw_lcmp X dL_isSafe_326 ?_
        refine aw_top (0) (lg_self _) ?_
        refine aw_if_ne_f (tgt := 334) X dL_isSafe_327 (by decide) (by decide) ?_
        refine aw_iconst X (1) dL_isSafe_330 rfl ?_
        refine aw_goto (tgt := 335) X dL_isSafe_331 (by decide) ?_
        exact aw_zret X rfl hQ dL_isSafe_335 ⟨rfl, ⟨_, _, _, _, _, _, hR⟩, hF⟩
      · skip
        refine aw_iload X dL_isSafe_87 rfl ?_
        refine aw_bipush X (48) dL_isSafe_89 rfl ?_
        refine aw_icmp_ge_t (tgt := 157) X dL_isSafe_91 (by decide) (nI_le (a := 48) (by omega) (by omega)) ?_
        refine aw_iload X dL_isSafe_157 rfl ?_
        refine aw_bipush X (20) dL_isSafe_159 rfl ?_
        refine aw_icmp_le_t (tgt := 208) X dL_isSafe_161 (by decide) (nI_le (b := 20) (by omega) (by omega)) ?_
        refine aw_iload X dL_isSafe_208 rfl ?_
        refine aw_if_eq_f (tgt := 277) X dL_isSafe_210 (by decide) (by decide) ?_
        refine aw_aload_n X dL_isSafe_213 rfl ?_
        refine aw_iload_n X dL_isSafe_214 rfl ?_
        refine aw_iload X dL_isSafe_215 rfl ?_
        refine aw_if_ge_t (tgt := 225) X dL_isSafe_217 (by decide) (Int32.not_lt.mp (nI_pos (by omega))) ?_
        refine aw_iload X dL_isSafe_225 rfl ?_
        refine aw_lV (As := [.int _, .int _]) X hR.g0 (l_reach hR _ _) s_L_73 k_X4_reach (by decide) ⟨rfl, rfl⟩ (by exact ⟨Nat.le_of_ble_eq_true rfl, Nat.le_of_ble_eq_true rfl⟩) rfl (by exact Nat.le_of_ble_eq_true rfl) rfl dL_isSafe_227 (fun μ hP => ?_)
        obtain ⟨hR, hK⟩ := hP
        have hF := hF.tr hK
        have eR2 : gReach z (nI i) (nI ρ) = (z (hz i 0), upd z (hz i 0) (nI ρ)) := gRe hi hr1 hr2
        obtain ⟨un_2, t_2, hR⟩ : ∃ u w, LR U Kp μ a (upd z (hz i 0) (nI ρ)) u w s0 z v0 1 := ⟨_, _, by rw [eR2] at hR; exact hR⟩
        refine aw_top (z (hz i 0)) (by rw [eR2]) ?_
        refine aw_bipush X (20) dL_isSafe_230 rfl ?_
        refine aw_icmp_lt_f (tgt := 277) X dL_isSafe_232 (by decide) hge ?_
        refine aw_aload_n X dL_isSafe_235 rfl ?_
        refine aw_iload_n X dL_isSafe_236 rfl ?_
        refine aw_lV (As := [.int _]) X hR.g0 (l_safeFor hR _) s_L_103 k_X4_safeFor (by decide) ⟨rfl, rfl⟩ (by exact ⟨Nat.le_of_ble_eq_true rfl, Nat.le_of_ble_eq_true rfl⟩) rfl (by exact Nat.le_of_ble_eq_true rfl) rfl dL_isSafe_237 (fun μ hP => ?_)
        obtain ⟨hR, hK⟩ := hP
        have hF := hF.tr hK
        refine aw_top (-100006) (cSaf_200 hi (by rw [upd_n (by simp only [hz]; omega)]; exact hc) ((hr4 ρ hr1 (by omega)).mpr (Nat.le_refl _))) ?_
        refine aw_ldc X dL_isSafe_240 a_L_109 ?_
        refine aw_icmp_ne_f (tgt := 249) X dL_isSafe_242 (by decide) (by decide) ?_
        refine aw_iconst X (1) dL_isSafe_245 rfl ?_
        refine aw_goto (tgt := 250) X dL_isSafe_246 (by decide) ?_
        refine aw_iload X dL_isSafe_250 rfl ?_
        refine aw_if_le_f (tgt := 259) X dL_isSafe_252 (by decide) (nI_nle (by omega) (by omega)) ?_
        refine aw_iconst X (1) dL_isSafe_255 rfl ?_
        refine aw_goto (tgt := 260) X dL_isSafe_256 (by decide) ?_
        refine aw_icmp_ne_f (tgt := 277) X dL_isSafe_260 (by decide) (by decide) ?_
        refine aw_aload_n X dL_isSafe_263 rfl ?_
        refine aw_iconst X (1) dL_isSafe_264 rfl ?_
        refine aw_lV (As := [.int _]) X hR.g0 (l_restore1 hR (by decide)) s_L_93 k_X4_restore (by decide) ⟨rfl, rfl⟩ (by exact ⟨Nat.le_of_ble_eq_true rfl, Nat.le_of_ble_eq_true rfl⟩) rfl (by exact Nat.le_of_ble_eq_true rfl) rfl dL_isSafe_265 (fun μ hP => ?_)
        obtain ⟨⟨un_3, t_3, hR⟩, hK⟩ := hP
        have hF := hF.tr hK
        refine aw_iload X dL_isSafe_268 rfl ?_
        refine aw_icmp_ne_f (tgt := 277) X dL_isSafe_270 (by decide) rfl ?_
        refine aw_iconst X (1) dL_isSafe_273 rfl ?_
        refine aw_goto (tgt := 278) X dL_isSafe_274 (by decide) ?_
        refine aw_istore X dL_isSafe_278 rfl (by decide) ?_
        refine aw_iload X dL_isSafe_280 rfl ?_
        refine aw_if_eq_f (tgt := 334) X dL_isSafe_282 (by decide) (by decide) ?_
        refine aw_iload X dL_isSafe_285 rfl ?_
        refine aw_ldc X dL_isSafe_287 a_L_109 ?_
        refine aw_icmp_ne_t (tgt := 296) X dL_isSafe_289 (by decide) (nIN_ne _ (by omega)) ?_
        refine aw_iconst X (0) dL_isSafe_296 rfl ?_
        refine aw_iload X dL_isSafe_297 rfl ?_
        refine aw_if_le_f (tgt := 317) X dL_isSafe_299 (by decide) (nI_nle (by omega) (by omega)) ?_
        refine aw_iload X dL_isSafe_302 rfl ?_
        refine aw_aload_n X dL_isSafe_304 rfl ?_
        refine aw_iload_n X dL_isSafe_305 rfl ?_
        refine aw_iconst X (0) dL_isSafe_306 rfl ?_
        refine aw_lF (As := [.int _, .int _]) X hR.g0 (l_hose hR _ _) s_L_28 k_X4_hose (by decide) ⟨rfl, rfl⟩ (by exact ⟨Nat.le_of_ble_eq_true rfl, Nat.le_of_ble_eq_true rfl⟩) rfl (by exact Nat.le_of_ble_eq_true rfl) rfl dL_isSafe_307 ?_
        refine aw_top (nI r0) ((cHo_0 hi).trans er0) ?_
        refine aw_icmp_gt_t (tgt := 317) X dL_isSafe_310 (by decide) (nI_lt hlt (by omega)) ?_
        refine aw_iconst X (0) dL_isSafe_317 rfl ?_
        refine aw_icmp_ne_f (tgt := 334) X dL_isSafe_318 (by decide) (by decide) ?_
        refine aw_aload_n X dL_isSafe_321 rfl ?_
        refine aw_lSF (As := [.ref _]) X (c_L_tale (kl K) U hR) s_L_83 k_L_tale (by decide) ⟨rfl, rfl⟩ (by exact ⟨Nat.le_of_ble_eq_true rfl, Nat.le_of_ble_eq_true rfl⟩) rfl (by exact Nat.le_of_ble_eq_true rfl) dL_isSafe_322 ?_
        refine aw_lload_n X dL_isSafe_325 rfl ?_
        refine aw_lcmp X dL_isSafe_326 ?_
        refine aw_top (0) (lg_self _) ?_
        refine aw_if_ne_f (tgt := 334) X dL_isSafe_327 (by decide) (by decide) ?_
        refine aw_iconst X (1) dL_isSafe_330 rfl ?_
        refine aw_goto (tgt := 335) X dL_isSafe_331 (by decide) ?_
        exact aw_zret X rfl hQ dL_isSafe_335 ⟨rfl, ⟨_, _, _, _, _, _, hR⟩, hF⟩
    · skip
      refine aw_top (nI s) (cSaf_k hi hc hS es) ?_
      refine aw_istore X dL_isSafe_10 rfl (by decide) ?_
      refine aw_aload_n X dL_isSafe_12 rfl ?_
      refine aw_iload_n X dL_isSafe_13 rfl ?_
      refine aw_lV (As := [.int _]) X hR.g0 (l_leastReach hR _) s_L_106 k_X4_leastReach (by decide) ⟨rfl, rfl⟩ (by exact ⟨Nat.le_of_ble_eq_true rfl, Nat.le_of_ble_eq_true rfl⟩) rfl (by exact Nat.le_of_ble_eq_true rfl) rfl dL_isSafe_14 (fun μ hP => ?_)
      obtain ⟨hR, hK⟩ := hP
      have hF := hF.tr hK
      refine aw_top (nI ρ) (cLea_k hi hc hr2 hr3) ?_
      refine aw_istore X dL_isSafe_17 rfl (by decide) ?_
      refine aw_aload_n X dL_isSafe_19 rfl ?_
      refine aw_iload_n X dL_isSafe_20 rfl ?_
      refine aw_iconst X (2) dL_isSafe_21 rfl ?_
      refine aw_lF (As := [.int _, .int _]) X hR.g0 (l_hose hR _ _) s_L_28 k_X4_hose (by decide) ⟨rfl, rfl⟩ (by exact ⟨Nat.le_of_ble_eq_true rfl, Nat.le_of_ble_eq_true rfl⟩) rfl (by exact Nat.le_of_ble_eq_true rfl) rfl dL_isSafe_22 ?_
      refine aw_top (z (hz i 2)) (cHo_2 hi) ?_
      refine aw_if_ge_t (tgt := 48) X dL_isSafe_25 (by decide) (by rw [isG_hv hc]; exact Int32.not_lt.mp (nI_pos (by have : tn (z (hz i 2)) < 4 := isG_tn hc; omega))) ?_
      refine aw_aload_n X dL_isSafe_48 rfl ?_
      refine aw_iconst X (1) dL_isSafe_49 rfl ?_
      refine aw_lV (As := [.int _]) X hR.g0 (l_save1 hR) s_L_87 k_X4_save (by decide) ⟨rfl, rfl⟩ (by exact ⟨Nat.le_of_ble_eq_true rfl, Nat.le_of_ble_eq_true rfl⟩) rfl (by exact Nat.le_of_ble_eq_true rfl) rfl dL_isSafe_50 (fun μ hP => ?_)
      obtain ⟨hR, hK⟩ := hP
      have hF := hF.tr hK
      refine aw_istore X dL_isSafe_53 rfl (by decide) ?_
      refine aw_iload X dL_isSafe_55 rfl ?_
      refine aw_ldc X dL_isSafe_57 a_L_109 ?_
      refine aw_icmp_eq_f (tgt := 75) X dL_isSafe_59 (by decide) (nIN_ne _ (by omega)) ?_
      refine aw_iload X dL_isSafe_62 rfl ?_
      refine aw_if_lt_f (tgt := 79) X dL_isSafe_64 (by decide) (nI_pos (by omega)) ?_
      refine aw_iload X dL_isSafe_67 rfl ?_
      refine aw_sipush X (200) dL_isSafe_69 rfl ?_
      refine aw_icmp_ge_f (tgt := 79) X dL_isSafe_72 (by decide) (nI_ge (b := 200) (by omega) (by omega)) ?_
      refine aw_iconst X (1) dL_isSafe_75 rfl ?_
      refine aw_goto (tgt := 80) X dL_isSafe_76 (by decide) ?_
      refine aw_istore X dL_isSafe_80 rfl (by decide) ?_
      refine aw_iload X dL_isSafe_82 rfl ?_
      refine aw_if_lt (tgt := 157) X dL_isSafe_84 (by decide) (fun c84_1 => ?_) (fun c84_1 => ?_)
      · skip
        refine aw_iload X dL_isSafe_157 rfl ?_
        refine aw_bipush X (20) dL_isSafe_159 rfl ?_
        refine aw_icmp_le_f (tgt := 208) X dL_isSafe_161 (by decide) (nI_ge (a := 20) (by omega) (by omega)) ?_
        refine aw_iload X dL_isSafe_164 rfl ?_
        refine aw_if_eq_f (tgt := 205) X dL_isSafe_166 (by decide) (by decide) ?_
        refine aw_aload_n X dL_isSafe_169 rfl ?_
        refine aw_iload_n X dL_isSafe_170 rfl ?_
        refine aw_iload X dL_isSafe_171 rfl ?_
        refine aw_iconst X (1) dL_isSafe_173 rfl ?_
        refine aw_isub X dL_isSafe_174 ?_
        refine aw_top (nI (ρ - 1)) (nI_prd (by omega)) ?_
        refine aw_lV (As := [.int _, .int _]) X hR.g0 (l_reach hR _ _) s_L_73 k_X4_reach (by decide) ⟨rfl, rfl⟩ (by exact ⟨Nat.le_of_ble_eq_true rfl, Nat.le_of_ble_eq_true rfl⟩) rfl (by exact Nat.le_of_ble_eq_true rfl) rfl dL_isSafe_175 (fun μ hP => ?_)
        obtain ⟨hR, hK⟩ := hP
        have hF := hF.tr hK
        have eR : gReach z (nI i) (nI (ρ - 1)) = (z (hz i 0), upd z (hz i 0) (nI (ρ - 1))) := gRe hi (by omega) (by omega)
        obtain ⟨un_2, t_2, hR⟩ : ∃ u w, LR U Kp μ a (upd z (hz i 0) (nI (ρ - 1))) u w s0 z v0 1 := ⟨_, _, by rw [eR] at hR; exact hR⟩
        refine aw_top (z (hz i 0)) (by rw [eR]) ?_
        refine aw_bipush X (20) dL_isSafe_178 rfl ?_
        refine aw_icmp_lt_f (tgt := 205) X dL_isSafe_180 (by decide) hge ?_
        refine aw_aload_n X dL_isSafe_183 rfl ?_
        refine aw_iload_n X dL_isSafe_184 rfl ?_
        refine aw_lV (As := [.int _]) X hR.g0 (l_safeFor hR _) s_L_103 k_X4_safeFor (by decide) ⟨rfl, rfl⟩ (by exact ⟨Nat.le_of_ble_eq_true rfl, Nat.le_of_ble_eq_true rfl⟩) rfl (by exact Nat.le_of_ble_eq_true rfl) rfl dL_isSafe_185 (fun μ hP => ?_)
        obtain ⟨hR, hK⟩ := hP
        have hF := hF.tr hK
        refine aw_top (nI (sfN (upd z (hz i 0) (nI (ρ - 1))) i)) (cSaf_k hi (by rw [upd_n (by simp only [hz]; omega)]; exact hc) (fun q => by have := (hr4 (ρ - 1) (by omega) (by omega)).mp q; omega) rfl) ?_
        refine aw_if_lt_f (tgt := 205) X dL_isSafe_188 (by decide) (nI_pos (by have := sf_le (upd z (hz i 0) (nI (ρ - 1))) i; omega)) ?_
        refine aw_aload_n X dL_isSafe_191 rfl ?_
        refine aw_iconst X (1) dL_isSafe_192 rfl ?_
        refine aw_lV (As := [.int _]) X hR.g0 (l_restore1 hR (by decide)) s_L_93 k_X4_restore (by decide) ⟨rfl, rfl⟩ (by exact ⟨Nat.le_of_ble_eq_true rfl, Nat.le_of_ble_eq_true rfl⟩) rfl (by exact Nat.le_of_ble_eq_true rfl) rfl dL_isSafe_193 (fun μ hP => ?_)
        obtain ⟨⟨un_3, t_3, hR⟩, hK⟩ := hP
        have hF := hF.tr hK
        refine aw_iload X dL_isSafe_196 rfl ?_
        refine aw_icmp_ne_f (tgt := 205) X dL_isSafe_198 (by decide) rfl ?_
        refine aw_iconst X (1) dL_isSafe_201 rfl ?_
        refine aw_goto (tgt := 206) X dL_isSafe_202 (by decide) ?_
        refine aw_istore X dL_isSafe_206 rfl (by decide) ?_
        refine aw_iload X dL_isSafe_208 rfl ?_
        refine aw_if_eq_f (tgt := 277) X dL_isSafe_210 (by decide) (by decide) ?_
        refine aw_aload_n X dL_isSafe_213 rfl ?_
        refine aw_iload_n X dL_isSafe_214 rfl ?_
        refine aw_iload X dL_isSafe_215 rfl ?_
        refine aw_if_ge_t (tgt := 225) X dL_isSafe_217 (by decide) (Int32.not_lt.mp (nI_pos (by omega))) ?_
        refine aw_iload X dL_isSafe_225 rfl ?_
        refine aw_lV (As := [.int _, .int _]) X hR.g0 (l_reach hR _ _) s_L_73 k_X4_reach (by decide) ⟨rfl, rfl⟩ (by exact ⟨Nat.le_of_ble_eq_true rfl, Nat.le_of_ble_eq_true rfl⟩) rfl (by exact Nat.le_of_ble_eq_true rfl) rfl dL_isSafe_227 (fun μ hP => ?_)
        obtain ⟨hR, hK⟩ := hP
        have hF := hF.tr hK
        have eR2 : gReach z (nI i) (nI ρ) = (z (hz i 0), upd z (hz i 0) (nI ρ)) := gRe hi hr1 hr2
        obtain ⟨un_4, t_4, hR⟩ : ∃ u w, LR U Kp μ a (upd z (hz i 0) (nI ρ)) u w s0 z v0 1 := ⟨_, _, by rw [eR2] at hR; exact hR⟩
        refine aw_top (z (hz i 0)) (by rw [eR2]) ?_
        refine aw_bipush X (20) dL_isSafe_230 rfl ?_
        refine aw_icmp_lt_f (tgt := 277) X dL_isSafe_232 (by decide) hge ?_
        refine aw_aload_n X dL_isSafe_235 rfl ?_
        refine aw_iload_n X dL_isSafe_236 rfl ?_
        refine aw_lV (As := [.int _]) X hR.g0 (l_safeFor hR _) s_L_103 k_X4_safeFor (by decide) ⟨rfl, rfl⟩ (by exact ⟨Nat.le_of_ble_eq_true rfl, Nat.le_of_ble_eq_true rfl⟩) rfl (by exact Nat.le_of_ble_eq_true rfl) rfl dL_isSafe_237 (fun μ hP => ?_)
        obtain ⟨hR, hK⟩ := hP
        have hF := hF.tr hK
        refine aw_top (-100006) (cSaf_200 hi (by rw [upd_n (by simp only [hz]; omega)]; exact hc) ((hr4 ρ hr1 (by omega)).mpr (Nat.le_refl _))) ?_
        refine aw_ldc X dL_isSafe_240 a_L_109 ?_
        refine aw_icmp_ne_f (tgt := 249) X dL_isSafe_242 (by decide) (by decide) ?_
        refine aw_iconst X (1) dL_isSafe_245 rfl ?_
        refine aw_goto (tgt := 250) X dL_isSafe_246 (by decide) ?_
        refine aw_iload X dL_isSafe_250 rfl ?_
        refine aw_if_le_f (tgt := 259) X dL_isSafe_252 (by decide) (nI_nle (by omega) (by omega)) ?_
        refine aw_iconst X (1) dL_isSafe_255 rfl ?_
        refine aw_goto (tgt := 260) X dL_isSafe_256 (by decide) ?_
        refine aw_icmp_ne_f (tgt := 277) X dL_isSafe_260 (by decide) (by decide) ?_
        refine aw_aload_n X dL_isSafe_263 rfl ?_
        refine aw_iconst X (1) dL_isSafe_264 rfl ?_
        refine aw_lV (As := [.int _]) X hR.g0 (l_restore1 hR (by decide)) s_L_93 k_X4_restore (by decide) ⟨rfl, rfl⟩ (by exact ⟨Nat.le_of_ble_eq_true rfl, Nat.le_of_ble_eq_true rfl⟩) rfl (by exact Nat.le_of_ble_eq_true rfl) rfl dL_isSafe_265 (fun μ hP => ?_)
        obtain ⟨⟨un_5, t_5, hR⟩, hK⟩ := hP
        have hF := hF.tr hK
        refine aw_iload X dL_isSafe_268 rfl ?_
        refine aw_icmp_ne_f (tgt := 277) X dL_isSafe_270 (by decide) rfl ?_
        refine aw_iconst X (1) dL_isSafe_273 rfl ?_
        refine aw_goto (tgt := 278) X dL_isSafe_274 (by decide) ?_
        refine aw_istore X dL_isSafe_278 rfl (by decide) ?_
        refine aw_iload X dL_isSafe_280 rfl ?_
        refine aw_if_eq_f (tgt := 334) X dL_isSafe_282 (by decide) (by decide) ?_
        refine aw_iload X dL_isSafe_285 rfl ?_
        refine aw_ldc X dL_isSafe_287 a_L_109 ?_
        refine aw_icmp_ne_t (tgt := 296) X dL_isSafe_289 (by decide) (nIN_ne _ (by omega)) ?_
        refine aw_iconst X (0) dL_isSafe_296 rfl ?_
        refine aw_iload X dL_isSafe_297 rfl ?_
        refine aw_if_le_f (tgt := 317) X dL_isSafe_299 (by decide) (nI_nle (by omega) (by omega)) ?_
        refine aw_iload X dL_isSafe_302 rfl ?_
        refine aw_aload_n X dL_isSafe_304 rfl ?_
        refine aw_iload_n X dL_isSafe_305 rfl ?_
        refine aw_iconst X (0) dL_isSafe_306 rfl ?_
        refine aw_lF (As := [.int _, .int _]) X hR.g0 (l_hose hR _ _) s_L_28 k_X4_hose (by decide) ⟨rfl, rfl⟩ (by exact ⟨Nat.le_of_ble_eq_true rfl, Nat.le_of_ble_eq_true rfl⟩) rfl (by exact Nat.le_of_ble_eq_true rfl) rfl dL_isSafe_307 ?_
        refine aw_top (nI r0) ((cHo_0 hi).trans er0) ?_
        refine aw_icmp_gt_t (tgt := 317) X dL_isSafe_310 (by decide) (nI_lt hlt (by omega)) ?_
        refine aw_iconst X (0) dL_isSafe_317 rfl ?_
        refine aw_icmp_ne_f (tgt := 334) X dL_isSafe_318 (by decide) (by decide) ?_
        refine aw_aload_n X dL_isSafe_321 rfl ?_
        refine aw_lSF (As := [.ref _]) X (c_L_tale (kl K) U hR) s_L_83 k_L_tale (by decide) ⟨rfl, rfl⟩ (by exact ⟨Nat.le_of_ble_eq_true rfl, Nat.le_of_ble_eq_true rfl⟩) rfl (by exact Nat.le_of_ble_eq_true rfl) dL_isSafe_322 ?_
        refine aw_lload_n X dL_isSafe_325 rfl ?_
        refine aw_lcmp X dL_isSafe_326 ?_
        refine aw_top (0) (lg_self _) ?_
        refine aw_if_ne_f (tgt := 334) X dL_isSafe_327 (by decide) (by decide) ?_
        refine aw_iconst X (1) dL_isSafe_330 rfl ?_
        refine aw_goto (tgt := 335) X dL_isSafe_331 (by decide) ?_
        exact aw_zret X rfl hQ dL_isSafe_335 ⟨rfl, ⟨_, _, _, _, _, _, hR⟩, hF⟩
      · skip
        refine aw_iload X dL_isSafe_87 rfl ?_
        refine aw_bipush X (48) dL_isSafe_89 rfl ?_
        refine aw_icmp_ge_t (tgt := 157) X dL_isSafe_91 (by decide) (nI_le (a := 48) (by omega) (by omega)) ?_
        refine aw_iload X dL_isSafe_157 rfl ?_
        refine aw_bipush X (20) dL_isSafe_159 rfl ?_
        refine aw_icmp_le_f (tgt := 208) X dL_isSafe_161 (by decide) (nI_ge (a := 20) (by omega) (by omega)) ?_
        refine aw_iload X dL_isSafe_164 rfl ?_
        refine aw_if_eq_f (tgt := 205) X dL_isSafe_166 (by decide) (by decide) ?_
        refine aw_aload_n X dL_isSafe_169 rfl ?_
        refine aw_iload_n X dL_isSafe_170 rfl ?_
        refine aw_iload X dL_isSafe_171 rfl ?_
        refine aw_iconst X (1) dL_isSafe_173 rfl ?_
        refine aw_isub X dL_isSafe_174 ?_
        refine aw_top (nI (ρ - 1)) (nI_prd (by omega)) ?_
        refine aw_lV (As := [.int _, .int _]) X hR.g0 (l_reach hR _ _) s_L_73 k_X4_reach (by decide) ⟨rfl, rfl⟩ (by exact ⟨Nat.le_of_ble_eq_true rfl, Nat.le_of_ble_eq_true rfl⟩) rfl (by exact Nat.le_of_ble_eq_true rfl) rfl dL_isSafe_175 (fun μ hP => ?_)
        obtain ⟨hR, hK⟩ := hP
        have hF := hF.tr hK
        have eR : gReach z (nI i) (nI (ρ - 1)) = (z (hz i 0), upd z (hz i 0) (nI (ρ - 1))) := gRe hi (by omega) (by omega)
        obtain ⟨un_2, t_2, hR⟩ : ∃ u w, LR U Kp μ a (upd z (hz i 0) (nI (ρ - 1))) u w s0 z v0 1 := ⟨_, _, by rw [eR] at hR; exact hR⟩
        refine aw_top (z (hz i 0)) (by rw [eR]) ?_
        refine aw_bipush X (20) dL_isSafe_178 rfl ?_
        refine aw_icmp_lt_f (tgt := 205) X dL_isSafe_180 (by decide) hge ?_
        refine aw_aload_n X dL_isSafe_183 rfl ?_
        refine aw_iload_n X dL_isSafe_184 rfl ?_
        refine aw_lV (As := [.int _]) X hR.g0 (l_safeFor hR _) s_L_103 k_X4_safeFor (by decide) ⟨rfl, rfl⟩ (by exact ⟨Nat.le_of_ble_eq_true rfl, Nat.le_of_ble_eq_true rfl⟩) rfl (by exact Nat.le_of_ble_eq_true rfl) rfl dL_isSafe_185 (fun μ hP => ?_)
        obtain ⟨hR, hK⟩ := hP
        have hF := hF.tr hK
        refine aw_top (nI (sfN (upd z (hz i 0) (nI (ρ - 1))) i)) (cSaf_k hi (by rw [upd_n (by simp only [hz]; omega)]; exact hc) (fun q => by have := (hr4 (ρ - 1) (by omega) (by omega)).mp q; omega) rfl) ?_
        refine aw_if_lt_f (tgt := 205) X dL_isSafe_188 (by decide) (nI_pos (by have := sf_le (upd z (hz i 0) (nI (ρ - 1))) i; omega)) ?_
        refine aw_aload_n X dL_isSafe_191 rfl ?_
        refine aw_iconst X (1) dL_isSafe_192 rfl ?_
        refine aw_lV (As := [.int _]) X hR.g0 (l_restore1 hR (by decide)) s_L_93 k_X4_restore (by decide) ⟨rfl, rfl⟩ (by exact ⟨Nat.le_of_ble_eq_true rfl, Nat.le_of_ble_eq_true rfl⟩) rfl (by exact Nat.le_of_ble_eq_true rfl) rfl dL_isSafe_193 (fun μ hP => ?_)
        obtain ⟨⟨un_3, t_3, hR⟩, hK⟩ := hP
        have hF := hF.tr hK
        refine aw_iload X dL_isSafe_196 rfl ?_
        refine aw_icmp_ne_f (tgt := 205) X dL_isSafe_198 (by decide) rfl ?_
        refine aw_iconst X (1) dL_isSafe_201 rfl ?_
        refine aw_goto (tgt := 206) X dL_isSafe_202 (by decide) ?_
        refine aw_istore X dL_isSafe_206 rfl (by decide) ?_
        refine aw_iload X dL_isSafe_208 rfl ?_
        refine aw_if_eq_f (tgt := 277) X dL_isSafe_210 (by decide) (by decide) ?_
        refine aw_aload_n X dL_isSafe_213 rfl ?_
        refine aw_iload_n X dL_isSafe_214 rfl ?_
        refine aw_iload X dL_isSafe_215 rfl ?_
        refine aw_if_ge_t (tgt := 225) X dL_isSafe_217 (by decide) (Int32.not_lt.mp (nI_pos (by omega))) ?_
        refine aw_iload X dL_isSafe_225 rfl ?_
        refine aw_lV (As := [.int _, .int _]) X hR.g0 (l_reach hR _ _) s_L_73 k_X4_reach (by decide) ⟨rfl, rfl⟩ (by exact ⟨Nat.le_of_ble_eq_true rfl, Nat.le_of_ble_eq_true rfl⟩) rfl (by exact Nat.le_of_ble_eq_true rfl) rfl dL_isSafe_227 (fun μ hP => ?_)
        obtain ⟨hR, hK⟩ := hP
        have hF := hF.tr hK
        have eR2 : gReach z (nI i) (nI ρ) = (z (hz i 0), upd z (hz i 0) (nI ρ)) := gRe hi hr1 hr2
        obtain ⟨un_4, t_4, hR⟩ : ∃ u w, LR U Kp μ a (upd z (hz i 0) (nI ρ)) u w s0 z v0 1 := ⟨_, _, by rw [eR2] at hR; exact hR⟩
        refine aw_top (z (hz i 0)) (by rw [eR2]) ?_
        refine aw_bipush X (20) dL_isSafe_230 rfl ?_
        refine aw_icmp_lt_f (tgt := 277) X dL_isSafe_232 (by decide) hge ?_
        refine aw_aload_n X dL_isSafe_235 rfl ?_
        refine aw_iload_n X dL_isSafe_236 rfl ?_
        refine aw_lV (As := [.int _]) X hR.g0 (l_safeFor hR _) s_L_103 k_X4_safeFor (by decide) ⟨rfl, rfl⟩ (by exact ⟨Nat.le_of_ble_eq_true rfl, Nat.le_of_ble_eq_true rfl⟩) rfl (by exact Nat.le_of_ble_eq_true rfl) rfl dL_isSafe_237 (fun μ hP => ?_)
        obtain ⟨hR, hK⟩ := hP
        have hF := hF.tr hK
        refine aw_top (-100006) (cSaf_200 hi (by rw [upd_n (by simp only [hz]; omega)]; exact hc) ((hr4 ρ hr1 (by omega)).mpr (Nat.le_refl _))) ?_
        refine aw_ldc X dL_isSafe_240 a_L_109 ?_
        refine aw_icmp_ne_f (tgt := 249) X dL_isSafe_242 (by decide) (by decide) ?_
        refine aw_iconst X (1) dL_isSafe_245 rfl ?_
        refine aw_goto (tgt := 250) X dL_isSafe_246 (by decide) ?_
        refine aw_iload X dL_isSafe_250 rfl ?_
        refine aw_if_le_f (tgt := 259) X dL_isSafe_252 (by decide) (nI_nle (by omega) (by omega)) ?_
        refine aw_iconst X (1) dL_isSafe_255 rfl ?_
        refine aw_goto (tgt := 260) X dL_isSafe_256 (by decide) ?_
        refine aw_icmp_ne_f (tgt := 277) X dL_isSafe_260 (by decide) (by decide) ?_
        refine aw_aload_n X dL_isSafe_263 rfl ?_
        refine aw_iconst X (1) dL_isSafe_264 rfl ?_
        refine aw_lV (As := [.int _]) X hR.g0 (l_restore1 hR (by decide)) s_L_93 k_X4_restore (by decide) ⟨rfl, rfl⟩ (by exact ⟨Nat.le_of_ble_eq_true rfl, Nat.le_of_ble_eq_true rfl⟩) rfl (by exact Nat.le_of_ble_eq_true rfl) rfl dL_isSafe_265 (fun μ hP => ?_)
        obtain ⟨⟨un_5, t_5, hR⟩, hK⟩ := hP
        have hF := hF.tr hK
        refine aw_iload X dL_isSafe_268 rfl ?_
        refine aw_icmp_ne_f (tgt := 277) X dL_isSafe_270 (by decide) rfl ?_
        refine aw_iconst X (1) dL_isSafe_273 rfl ?_
        refine aw_goto (tgt := 278) X dL_isSafe_274 (by decide) ?_
        refine aw_istore X dL_isSafe_278 rfl (by decide) ?_
        refine aw_iload X dL_isSafe_280 rfl ?_
        refine aw_if_eq_f (tgt := 334) X dL_isSafe_282 (by decide) (by decide) ?_
        refine aw_iload X dL_isSafe_285 rfl ?_
        refine aw_ldc X dL_isSafe_287 a_L_109 ?_
        refine aw_icmp_ne_t (tgt := 296) X dL_isSafe_289 (by decide) (nIN_ne _ (by omega)) ?_
        refine aw_iconst X (0) dL_isSafe_296 rfl ?_
        refine aw_iload X dL_isSafe_297 rfl ?_
        refine aw_if_le_f (tgt := 317) X dL_isSafe_299 (by decide) (nI_nle (by omega) (by omega)) ?_
        refine aw_iload X dL_isSafe_302 rfl ?_
        refine aw_aload_n X dL_isSafe_304 rfl ?_
        refine aw_iload_n X dL_isSafe_305 rfl ?_
        refine aw_iconst X (0) dL_isSafe_306 rfl ?_
        refine aw_lF (As := [.int _, .int _]) X hR.g0 (l_hose hR _ _) s_L_28 k_X4_hose (by decide) ⟨rfl, rfl⟩ (by exact ⟨Nat.le_of_ble_eq_true rfl, Nat.le_of_ble_eq_true rfl⟩) rfl (by exact Nat.le_of_ble_eq_true rfl) rfl dL_isSafe_307 ?_
        refine aw_top (nI r0) ((cHo_0 hi).trans er0) ?_
        refine aw_icmp_gt_t (tgt := 317) X dL_isSafe_310 (by decide) (nI_lt hlt (by omega)) ?_
        refine aw_iconst X (0) dL_isSafe_317 rfl ?_
        refine aw_icmp_ne_f (tgt := 334) X dL_isSafe_318 (by decide) (by decide) ?_
        refine aw_aload_n X dL_isSafe_321 rfl ?_
        refine aw_lSF (As := [.ref _]) X (c_L_tale (kl K) U hR) s_L_83 k_L_tale (by decide) ⟨rfl, rfl⟩ (by exact ⟨Nat.le_of_ble_eq_true rfl, Nat.le_of_ble_eq_true rfl⟩) rfl (by exact Nat.le_of_ble_eq_true rfl) dL_isSafe_322 ?_
        refine aw_lload_n X dL_isSafe_325 rfl ?_
        refine aw_lcmp X dL_isSafe_326 ?_
        refine aw_top (0) (lg_self _) ?_
        refine aw_if_ne_f (tgt := 334) X dL_isSafe_327 (by decide) (by decide) ?_
        refine aw_iconst X (1) dL_isSafe_330 rfl ?_
        refine aw_goto (tgt := 335) X dL_isSafe_331 (by decide) ?_
        exact aw_zret X rfl hQ dL_isSafe_335 ⟨rfl, ⟨_, _, _, _, _, _, hR⟩, hF⟩
  by_cases hρ : ρ = 20
  · skip
    refine aw_top (nI s) (cSaf_k hi hc hS es) ?_
    refine aw_istore X dL_isSafe_10 rfl (by decide) ?_
    refine aw_aload_n X dL_isSafe_12 rfl ?_
    refine aw_iload_n X dL_isSafe_13 rfl ?_
    refine aw_lV (As := [.int _]) X hR.g0 (l_leastReach hR _) s_L_106 k_X4_leastReach (by decide) ⟨rfl, rfl⟩ (by exact ⟨Nat.le_of_ble_eq_true rfl, Nat.le_of_ble_eq_true rfl⟩) rfl (by exact Nat.le_of_ble_eq_true rfl) rfl dL_isSafe_14 (fun μ hP => ?_)
    obtain ⟨hR, hK⟩ := hP
    have hF := hF.tr hK
    refine aw_top (nI ρ) (cLea_k hi hc hr2 hr3) ?_
    refine aw_istore X dL_isSafe_17 rfl (by decide) ?_
    refine aw_aload_n X dL_isSafe_19 rfl ?_
    refine aw_iload_n X dL_isSafe_20 rfl ?_
    refine aw_iconst X (2) dL_isSafe_21 rfl ?_
    refine aw_lF (As := [.int _, .int _]) X hR.g0 (l_hose hR _ _) s_L_28 k_X4_hose (by decide) ⟨rfl, rfl⟩ (by exact ⟨Nat.le_of_ble_eq_true rfl, Nat.le_of_ble_eq_true rfl⟩) rfl (by exact Nat.le_of_ble_eq_true rfl) rfl dL_isSafe_22 ?_
    refine aw_top (z (hz i 2)) (cHo_2 hi) ?_
    refine aw_if_ge_t (tgt := 48) X dL_isSafe_25 (by decide) (by rw [isG_hv hc]; exact Int32.not_lt.mp (nI_pos (by have : tn (z (hz i 2)) < 4 := isG_tn hc; omega))) ?_
    refine aw_aload_n X dL_isSafe_48 rfl ?_
    refine aw_iconst X (1) dL_isSafe_49 rfl ?_
    refine aw_lV (As := [.int _]) X hR.g0 (l_save1 hR) s_L_87 k_X4_save (by decide) ⟨rfl, rfl⟩ (by exact ⟨Nat.le_of_ble_eq_true rfl, Nat.le_of_ble_eq_true rfl⟩) rfl (by exact Nat.le_of_ble_eq_true rfl) rfl dL_isSafe_50 (fun μ hP => ?_)
    obtain ⟨hR, hK⟩ := hP
    have hF := hF.tr hK
    refine aw_istore X dL_isSafe_53 rfl (by decide) ?_
    refine aw_iload X dL_isSafe_55 rfl ?_
    refine aw_ldc X dL_isSafe_57 a_L_109 ?_
    refine aw_icmp_eq_f (tgt := 75) X dL_isSafe_59 (by decide) (nIN_ne _ (by omega)) ?_
    refine aw_iload X dL_isSafe_62 rfl ?_
    refine aw_if_lt_f (tgt := 79) X dL_isSafe_64 (by decide) (nI_pos (by omega)) ?_
    refine aw_iload X dL_isSafe_67 rfl ?_
    refine aw_sipush X (200) dL_isSafe_69 rfl ?_
    refine aw_icmp_ge_f (tgt := 79) X dL_isSafe_72 (by decide) (nI_ge (b := 200) (by omega) (by omega)) ?_
    refine aw_iconst X (1) dL_isSafe_75 rfl ?_
    refine aw_goto (tgt := 80) X dL_isSafe_76 (by decide) ?_
    refine aw_istore X dL_isSafe_80 rfl (by decide) ?_
    refine aw_iload X dL_isSafe_82 rfl ?_
    refine aw_if_lt (tgt := 157) X dL_isSafe_84 (by decide) (fun c84_1 => ?_) (fun c84_1 => ?_)
    · skip
      refine aw_iload X dL_isSafe_157 rfl ?_
      refine aw_bipush X (20) dL_isSafe_159 rfl ?_
      refine aw_icmp_le_t (tgt := 208) X dL_isSafe_161 (by decide) (nI_le (b := 20) (by omega) (by omega)) ?_
      refine aw_iload X dL_isSafe_208 rfl ?_
      refine aw_if_eq_f (tgt := 277) X dL_isSafe_210 (by decide) (by decide) ?_
      refine aw_aload_n X dL_isSafe_213 rfl ?_
      refine aw_iload_n X dL_isSafe_214 rfl ?_
      refine aw_iload X dL_isSafe_215 rfl ?_
      refine aw_if_ge_t (tgt := 225) X dL_isSafe_217 (by decide) (Int32.not_lt.mp (nI_pos (by omega))) ?_
      refine aw_iload X dL_isSafe_225 rfl ?_
      refine aw_lV (As := [.int _, .int _]) X hR.g0 (l_reach hR _ _) s_L_73 k_X4_reach (by decide) ⟨rfl, rfl⟩ (by exact ⟨Nat.le_of_ble_eq_true rfl, Nat.le_of_ble_eq_true rfl⟩) rfl (by exact Nat.le_of_ble_eq_true rfl) rfl dL_isSafe_227 (fun μ hP => ?_)
      obtain ⟨hR, hK⟩ := hP
      have hF := hF.tr hK
      have eR2 : gReach z (nI i) (nI ρ) = (z (hz i 0), upd z (hz i 0) (nI ρ)) := gRe hi hr1 hr2
      obtain ⟨un_2, t_2, hR⟩ : ∃ u w, LR U Kp μ a (upd z (hz i 0) (nI ρ)) u w s0 z v0 1 := ⟨_, _, by rw [eR2] at hR; exact hR⟩
      refine aw_top (z (hz i 0)) (by rw [eR2]) ?_
      refine aw_bipush X (20) dL_isSafe_230 rfl ?_
      refine aw_icmp_lt_f (tgt := 277) X dL_isSafe_232 (by decide) hge ?_
      refine aw_aload_n X dL_isSafe_235 rfl ?_
      refine aw_iload_n X dL_isSafe_236 rfl ?_
      refine aw_lV (As := [.int _]) X hR.g0 (l_safeFor hR _) s_L_103 k_X4_safeFor (by decide) ⟨rfl, rfl⟩ (by exact ⟨Nat.le_of_ble_eq_true rfl, Nat.le_of_ble_eq_true rfl⟩) rfl (by exact Nat.le_of_ble_eq_true rfl) rfl dL_isSafe_237 (fun μ hP => ?_)
      obtain ⟨hR, hK⟩ := hP
      have hF := hF.tr hK
      refine aw_top (-100006) (cSaf_200 hi (by rw [upd_n (by simp only [hz]; omega)]; exact hc) ((hr4 ρ hr1 (by omega)).mpr (Nat.le_refl _))) ?_
      refine aw_ldc X dL_isSafe_240 a_L_109 ?_
      refine aw_icmp_ne_f (tgt := 249) X dL_isSafe_242 (by decide) (by decide) ?_
      refine aw_iconst X (1) dL_isSafe_245 rfl ?_
      refine aw_goto (tgt := 250) X dL_isSafe_246 (by decide) ?_
      refine aw_iload X dL_isSafe_250 rfl ?_
      refine aw_if_le_f (tgt := 259) X dL_isSafe_252 (by decide) (nI_nle (by omega) (by omega)) ?_
      refine aw_iconst X (1) dL_isSafe_255 rfl ?_
      refine aw_goto (tgt := 260) X dL_isSafe_256 (by decide) ?_
      refine aw_icmp_ne_f (tgt := 277) X dL_isSafe_260 (by decide) (by decide) ?_
      refine aw_aload_n X dL_isSafe_263 rfl ?_
      refine aw_iconst X (1) dL_isSafe_264 rfl ?_
      refine aw_lV (As := [.int _]) X hR.g0 (l_restore1 hR (by decide)) s_L_93 k_X4_restore (by decide) ⟨rfl, rfl⟩ (by exact ⟨Nat.le_of_ble_eq_true rfl, Nat.le_of_ble_eq_true rfl⟩) rfl (by exact Nat.le_of_ble_eq_true rfl) rfl dL_isSafe_265 (fun μ hP => ?_)
      obtain ⟨⟨un_3, t_3, hR⟩, hK⟩ := hP
      have hF := hF.tr hK
      refine aw_iload X dL_isSafe_268 rfl ?_
      refine aw_icmp_ne_f (tgt := 277) X dL_isSafe_270 (by decide) rfl ?_
      refine aw_iconst X (1) dL_isSafe_273 rfl ?_
      refine aw_goto (tgt := 278) X dL_isSafe_274 (by decide) ?_
      refine aw_istore X dL_isSafe_278 rfl (by decide) ?_
      refine aw_iload X dL_isSafe_280 rfl ?_
      refine aw_if_eq_f (tgt := 334) X dL_isSafe_282 (by decide) (by decide) ?_
      refine aw_iload X dL_isSafe_285 rfl ?_
      refine aw_ldc X dL_isSafe_287 a_L_109 ?_
      refine aw_icmp_ne_t (tgt := 296) X dL_isSafe_289 (by decide) (nIN_ne _ (by omega)) ?_
      refine aw_iconst X (0) dL_isSafe_296 rfl ?_
      refine aw_iload X dL_isSafe_297 rfl ?_
      refine aw_if_le_f (tgt := 317) X dL_isSafe_299 (by decide) (nI_nle (by omega) (by omega)) ?_
      refine aw_iload X dL_isSafe_302 rfl ?_
      refine aw_aload_n X dL_isSafe_304 rfl ?_
      refine aw_iload_n X dL_isSafe_305 rfl ?_
      refine aw_iconst X (0) dL_isSafe_306 rfl ?_
      refine aw_lF (As := [.int _, .int _]) X hR.g0 (l_hose hR _ _) s_L_28 k_X4_hose (by decide) ⟨rfl, rfl⟩ (by exact ⟨Nat.le_of_ble_eq_true rfl, Nat.le_of_ble_eq_true rfl⟩) rfl (by exact Nat.le_of_ble_eq_true rfl) rfl dL_isSafe_307 ?_
      refine aw_top (nI r0) ((cHo_0 hi).trans er0) ?_
      refine aw_icmp_gt_t (tgt := 317) X dL_isSafe_310 (by decide) (nI_lt hlt (by omega)) ?_
      refine aw_iconst X (0) dL_isSafe_317 rfl ?_
      refine aw_icmp_ne_f (tgt := 334) X dL_isSafe_318 (by decide) (by decide) ?_
      refine aw_aload_n X dL_isSafe_321 rfl ?_
      refine aw_lSF (As := [.ref _]) X (c_L_tale (kl K) U hR) s_L_83 k_L_tale (by decide) ⟨rfl, rfl⟩ (by exact ⟨Nat.le_of_ble_eq_true rfl, Nat.le_of_ble_eq_true rfl⟩) rfl (by exact Nat.le_of_ble_eq_true rfl) dL_isSafe_322 ?_
      refine aw_lload_n X dL_isSafe_325 rfl ?_
      refine aw_lcmp X dL_isSafe_326 ?_
      refine aw_top (0) (lg_self _) ?_
      refine aw_if_ne_f (tgt := 334) X dL_isSafe_327 (by decide) (by decide) ?_
      refine aw_iconst X (1) dL_isSafe_330 rfl ?_
      refine aw_goto (tgt := 335) X dL_isSafe_331 (by decide) ?_
      exact aw_zret X rfl hQ dL_isSafe_335 ⟨rfl, ⟨_, _, _, _, _, _, hR⟩, hF⟩
    · skip
      refine aw_iload X dL_isSafe_87 rfl ?_
      refine aw_bipush X (48) dL_isSafe_89 rfl ?_
      refine aw_icmp_ge_f (tgt := 157) X dL_isSafe_91 (by decide) (nI_ge (b := 48) (by omega) (by omega)) ?_
      refine aw_iload X dL_isSafe_94 rfl ?_
      refine aw_if_eq_f (tgt := 154) X dL_isSafe_96 (by decide) (by decide) ?_
      refine aw_iload X dL_isSafe_99 rfl ?_
      refine aw_if_eq_f (tgt := 122) X dL_isSafe_101 (by decide) (nI_ne0 (by omega) (by omega)) ?_
      refine aw_aload_n X dL_isSafe_104 rfl ?_
      refine aw_iload X dL_isSafe_105 rfl ?_
      refine aw_lV (As := [.int _]) X hR.g0 (l_pass hR _) s_L_76 k_X4_pass (by decide) ⟨rfl, rfl⟩ (by exact ⟨Nat.le_of_ble_eq_true rfl, Nat.le_of_ble_eq_true rfl⟩) rfl (by exact Nat.le_of_ble_eq_true rfl) rfl dL_isSafe_107 (fun μ hP => ?_)
      obtain ⟨hR, hK⟩ := hP
      have hF := hF.tr hK
      have eP : gPass z (nI s) = gHours z s := gp_eq h6 (by omega) (by omega) (by omega)
      obtain ⟨un_2, t_2, hR⟩ : ∃ u w, LR U Kp μ a ((gHours z s).2) u w s0 z v0 1 := ⟨_, _, by rw [eP] at hR; exact hR⟩
      refine aw_top ((gHours z s).1) (by rw [eP]) ?_
      refine aw_if_lt_f (tgt := 154) X dL_isSafe_110 (by decide) (gh_ok hL.1.1 s (by omega)) ?_
      refine aw_aload_n X dL_isSafe_113 rfl ?_
      refine aw_iload_n X dL_isSafe_114 rfl ?_
      refine aw_iconst X (3) dL_isSafe_115 rfl ?_
      refine aw_lF (As := [.int _, .int _]) X hR.g0 (l_hose hR _ _) s_L_28 k_X4_hose (by decide) ⟨rfl, rfl⟩ (by exact ⟨Nat.le_of_ble_eq_true rfl, Nat.le_of_ble_eq_true rfl⟩) rfl (by exact Nat.le_of_ble_eq_true rfl) rfl dL_isSafe_116 ?_
      refine aw_top (0) (cHo_30 hi (by have := sf_in es (j := s - 1) (by omega); rw [show s - 1 + 1 = s by omega] at this; exact this)) ?_
      refine aw_if_ne_f (tgt := 154) X dL_isSafe_119 (by decide) (by decide) ?_
      refine aw_aload_n X dL_isSafe_122 rfl ?_
      refine aw_iconst X (1) dL_isSafe_123 rfl ?_
      refine aw_lV (As := [.int _]) X hR.g0 (l_pass hR _) s_L_76 k_X4_pass (by decide) ⟨rfl, rfl⟩ (by exact ⟨Nat.le_of_ble_eq_true rfl, Nat.le_of_ble_eq_true rfl⟩) rfl (by exact Nat.le_of_ble_eq_true rfl) rfl dL_isSafe_124 (fun μ hP => ?_)
      obtain ⟨hR, hK⟩ := hP
      have hF := hF.tr hK
      have eP2 : gPass (gHours z s).2 1 = gHours (gHours z s).2 1 := gp_eq (k := 1) (gHours_6 h6 s) (by omega) (by omega) (by omega)
      have eP3 : (gHours (gHours z s).2 1).2 = (gHours z (s + 1)).2 := rfl
      obtain ⟨un_3, t_3, hR⟩ : ∃ u w, LR U Kp μ a ((gHours z (s + 1)).2) u w s0 z v0 1 := ⟨_, _, by rw [eP2, eP3] at hR; exact hR⟩
      refine aw_top ((gHours (gHours z s).2 1).1) (by rw [eP2]) ?_
      refine aw_if_lt_f (tgt := 154) X dL_isSafe_127 (by decide) (gh_ok (hL.1.1.hours s).1 1 (by omega)) ?_
      refine aw_aload_n X dL_isSafe_130 rfl ?_
      refine aw_iload_n X dL_isSafe_131 rfl ?_
      refine aw_iconst X (3) dL_isSafe_132 rfl ?_
      refine aw_lF (As := [.int _, .int _]) X hR.g0 (l_hose hR _ _) s_L_28 k_X4_hose (by decide) ⟨rfl, rfl⟩ (by exact ⟨Nat.le_of_ble_eq_true rfl, Nat.le_of_ble_eq_true rfl⟩) rfl (by exact Nat.le_of_ble_eq_true rfl) rfl dL_isSafe_133 ?_
      refine aw_top (1) (cHo_31 hi (sf_at es (by omega))) ?_
      refine aw_iconst X (1) dL_isSafe_136 rfl ?_
      refine aw_icmp_ne_f (tgt := 154) X dL_isSafe_137 (by decide) (by decide) ?_
      refine aw_aload_n X dL_isSafe_140 rfl ?_
      refine aw_iconst X (1) dL_isSafe_141 rfl ?_
      refine aw_lV (As := [.int _]) X hR.g0 (l_restore1 hR (by decide)) s_L_93 k_X4_restore (by decide) ⟨rfl, rfl⟩ (by exact ⟨Nat.le_of_ble_eq_true rfl, Nat.le_of_ble_eq_true rfl⟩) rfl (by exact Nat.le_of_ble_eq_true rfl) rfl dL_isSafe_142 (fun μ hP => ?_)
      obtain ⟨⟨un_4, t_4, hR⟩, hK⟩ := hP
      have hF := hF.tr hK
      refine aw_iload X dL_isSafe_145 rfl ?_
      refine aw_icmp_ne_f (tgt := 154) X dL_isSafe_147 (by decide) rfl ?_
      refine aw_iconst X (1) dL_isSafe_150 rfl ?_
      refine aw_goto (tgt := 155) X dL_isSafe_151 (by decide) ?_
      refine aw_istore X dL_isSafe_155 rfl (by decide) ?_
      refine aw_iload X dL_isSafe_157 rfl ?_
      refine aw_bipush X (20) dL_isSafe_159 rfl ?_
      refine aw_icmp_le_t (tgt := 208) X dL_isSafe_161 (by decide) (nI_le (b := 20) (by omega) (by omega)) ?_
      refine aw_iload X dL_isSafe_208 rfl ?_
      refine aw_if_eq_f (tgt := 277) X dL_isSafe_210 (by decide) (by decide) ?_
      refine aw_aload_n X dL_isSafe_213 rfl ?_
      refine aw_iload_n X dL_isSafe_214 rfl ?_
      refine aw_iload X dL_isSafe_215 rfl ?_
      refine aw_if_ge_t (tgt := 225) X dL_isSafe_217 (by decide) (Int32.not_lt.mp (nI_pos (by omega))) ?_
      refine aw_iload X dL_isSafe_225 rfl ?_
      refine aw_lV (As := [.int _, .int _]) X hR.g0 (l_reach hR _ _) s_L_73 k_X4_reach (by decide) ⟨rfl, rfl⟩ (by exact ⟨Nat.le_of_ble_eq_true rfl, Nat.le_of_ble_eq_true rfl⟩) rfl (by exact Nat.le_of_ble_eq_true rfl) rfl dL_isSafe_227 (fun μ hP => ?_)
      obtain ⟨hR, hK⟩ := hP
      have hF := hF.tr hK
      have eR2 : gReach z (nI i) (nI ρ) = (z (hz i 0), upd z (hz i 0) (nI ρ)) := gRe hi hr1 hr2
      obtain ⟨un_5, t_5, hR⟩ : ∃ u w, LR U Kp μ a (upd z (hz i 0) (nI ρ)) u w s0 z v0 1 := ⟨_, _, by rw [eR2] at hR; exact hR⟩
      refine aw_top (z (hz i 0)) (by rw [eR2]) ?_
      refine aw_bipush X (20) dL_isSafe_230 rfl ?_
      refine aw_icmp_lt_f (tgt := 277) X dL_isSafe_232 (by decide) hge ?_
      refine aw_aload_n X dL_isSafe_235 rfl ?_
      refine aw_iload_n X dL_isSafe_236 rfl ?_
      refine aw_lV (As := [.int _]) X hR.g0 (l_safeFor hR _) s_L_103 k_X4_safeFor (by decide) ⟨rfl, rfl⟩ (by exact ⟨Nat.le_of_ble_eq_true rfl, Nat.le_of_ble_eq_true rfl⟩) rfl (by exact Nat.le_of_ble_eq_true rfl) rfl dL_isSafe_237 (fun μ hP => ?_)
      obtain ⟨hR, hK⟩ := hP
      have hF := hF.tr hK
      refine aw_top (-100006) (cSaf_200 hi (by rw [upd_n (by simp only [hz]; omega)]; exact hc) ((hr4 ρ hr1 (by omega)).mpr (Nat.le_refl _))) ?_
      refine aw_ldc X dL_isSafe_240 a_L_109 ?_
      refine aw_icmp_ne_f (tgt := 249) X dL_isSafe_242 (by decide) (by decide) ?_
      refine aw_iconst X (1) dL_isSafe_245 rfl ?_
      refine aw_goto (tgt := 250) X dL_isSafe_246 (by decide) ?_
      refine aw_iload X dL_isSafe_250 rfl ?_
      refine aw_if_le_f (tgt := 259) X dL_isSafe_252 (by decide) (nI_nle (by omega) (by omega)) ?_
      refine aw_iconst X (1) dL_isSafe_255 rfl ?_
      refine aw_goto (tgt := 260) X dL_isSafe_256 (by decide) ?_
      refine aw_icmp_ne_f (tgt := 277) X dL_isSafe_260 (by decide) (by decide) ?_
      refine aw_aload_n X dL_isSafe_263 rfl ?_
      refine aw_iconst X (1) dL_isSafe_264 rfl ?_
      refine aw_lV (As := [.int _]) X hR.g0 (l_restore1 hR (by decide)) s_L_93 k_X4_restore (by decide) ⟨rfl, rfl⟩ (by exact ⟨Nat.le_of_ble_eq_true rfl, Nat.le_of_ble_eq_true rfl⟩) rfl (by exact Nat.le_of_ble_eq_true rfl) rfl dL_isSafe_265 (fun μ hP => ?_)
      obtain ⟨⟨un_6, t_6, hR⟩, hK⟩ := hP
      have hF := hF.tr hK
      refine aw_iload X dL_isSafe_268 rfl ?_
      refine aw_icmp_ne_f (tgt := 277) X dL_isSafe_270 (by decide) rfl ?_
      refine aw_iconst X (1) dL_isSafe_273 rfl ?_
      refine aw_goto (tgt := 278) X dL_isSafe_274 (by decide) ?_
      refine aw_istore X dL_isSafe_278 rfl (by decide) ?_
      refine aw_iload X dL_isSafe_280 rfl ?_
      refine aw_if_eq_f (tgt := 334) X dL_isSafe_282 (by decide) (by decide) ?_
      refine aw_iload X dL_isSafe_285 rfl ?_
      refine aw_ldc X dL_isSafe_287 a_L_109 ?_
      refine aw_icmp_ne_t (tgt := 296) X dL_isSafe_289 (by decide) (nIN_ne _ (by omega)) ?_
      refine aw_iconst X (0) dL_isSafe_296 rfl ?_
      refine aw_iload X dL_isSafe_297 rfl ?_
      refine aw_if_le_f (tgt := 317) X dL_isSafe_299 (by decide) (nI_nle (by omega) (by omega)) ?_
      refine aw_iload X dL_isSafe_302 rfl ?_
      refine aw_aload_n X dL_isSafe_304 rfl ?_
      refine aw_iload_n X dL_isSafe_305 rfl ?_
      refine aw_iconst X (0) dL_isSafe_306 rfl ?_
      refine aw_lF (As := [.int _, .int _]) X hR.g0 (l_hose hR _ _) s_L_28 k_X4_hose (by decide) ⟨rfl, rfl⟩ (by exact ⟨Nat.le_of_ble_eq_true rfl, Nat.le_of_ble_eq_true rfl⟩) rfl (by exact Nat.le_of_ble_eq_true rfl) rfl dL_isSafe_307 ?_
      refine aw_top (nI r0) ((cHo_0 hi).trans er0) ?_
      refine aw_icmp_gt_t (tgt := 317) X dL_isSafe_310 (by decide) (nI_lt hlt (by omega)) ?_
      refine aw_iconst X (0) dL_isSafe_317 rfl ?_
      refine aw_icmp_ne_f (tgt := 334) X dL_isSafe_318 (by decide) (by decide) ?_
      refine aw_aload_n X dL_isSafe_321 rfl ?_
      refine aw_lSF (As := [.ref _]) X (c_L_tale (kl K) U hR) s_L_83 k_L_tale (by decide) ⟨rfl, rfl⟩ (by exact ⟨Nat.le_of_ble_eq_true rfl, Nat.le_of_ble_eq_true rfl⟩) rfl (by exact Nat.le_of_ble_eq_true rfl) dL_isSafe_322 ?_
      refine aw_lload_n X dL_isSafe_325 rfl ?_
      refine aw_lcmp X dL_isSafe_326 ?_
      refine aw_top (0) (lg_self _) ?_
      refine aw_if_ne_f (tgt := 334) X dL_isSafe_327 (by decide) (by decide) ?_
      refine aw_iconst X (1) dL_isSafe_330 rfl ?_
      refine aw_goto (tgt := 335) X dL_isSafe_331 (by decide) ?_
      exact aw_zret X rfl hQ dL_isSafe_335 ⟨rfl, ⟨_, _, _, _, _, _, hR⟩, hF⟩
  · skip
    refine aw_top (nI s) (cSaf_k hi hc hS es) ?_
    refine aw_istore X dL_isSafe_10 rfl (by decide) ?_
    refine aw_aload_n X dL_isSafe_12 rfl ?_
    refine aw_iload_n X dL_isSafe_13 rfl ?_
    refine aw_lV (As := [.int _]) X hR.g0 (l_leastReach hR _) s_L_106 k_X4_leastReach (by decide) ⟨rfl, rfl⟩ (by exact ⟨Nat.le_of_ble_eq_true rfl, Nat.le_of_ble_eq_true rfl⟩) rfl (by exact Nat.le_of_ble_eq_true rfl) rfl dL_isSafe_14 (fun μ hP => ?_)
    obtain ⟨hR, hK⟩ := hP
    have hF := hF.tr hK
    refine aw_top (nI ρ) (cLea_k hi hc hr2 hr3) ?_
    refine aw_istore X dL_isSafe_17 rfl (by decide) ?_
    refine aw_aload_n X dL_isSafe_19 rfl ?_
    refine aw_iload_n X dL_isSafe_20 rfl ?_
    refine aw_iconst X (2) dL_isSafe_21 rfl ?_
    refine aw_lF (As := [.int _, .int _]) X hR.g0 (l_hose hR _ _) s_L_28 k_X4_hose (by decide) ⟨rfl, rfl⟩ (by exact ⟨Nat.le_of_ble_eq_true rfl, Nat.le_of_ble_eq_true rfl⟩) rfl (by exact Nat.le_of_ble_eq_true rfl) rfl dL_isSafe_22 ?_
    refine aw_top (z (hz i 2)) (cHo_2 hi) ?_
    refine aw_if_ge_t (tgt := 48) X dL_isSafe_25 (by decide) (by rw [isG_hv hc]; exact Int32.not_lt.mp (nI_pos (by have : tn (z (hz i 2)) < 4 := isG_tn hc; omega))) ?_
    refine aw_aload_n X dL_isSafe_48 rfl ?_
    refine aw_iconst X (1) dL_isSafe_49 rfl ?_
    refine aw_lV (As := [.int _]) X hR.g0 (l_save1 hR) s_L_87 k_X4_save (by decide) ⟨rfl, rfl⟩ (by exact ⟨Nat.le_of_ble_eq_true rfl, Nat.le_of_ble_eq_true rfl⟩) rfl (by exact Nat.le_of_ble_eq_true rfl) rfl dL_isSafe_50 (fun μ hP => ?_)
    obtain ⟨hR, hK⟩ := hP
    have hF := hF.tr hK
    refine aw_istore X dL_isSafe_53 rfl (by decide) ?_
    refine aw_iload X dL_isSafe_55 rfl ?_
    refine aw_ldc X dL_isSafe_57 a_L_109 ?_
    refine aw_icmp_eq_f (tgt := 75) X dL_isSafe_59 (by decide) (nIN_ne _ (by omega)) ?_
    refine aw_iload X dL_isSafe_62 rfl ?_
    refine aw_if_lt_f (tgt := 79) X dL_isSafe_64 (by decide) (nI_pos (by omega)) ?_
    refine aw_iload X dL_isSafe_67 rfl ?_
    refine aw_sipush X (200) dL_isSafe_69 rfl ?_
    refine aw_icmp_ge_f (tgt := 79) X dL_isSafe_72 (by decide) (nI_ge (b := 200) (by omega) (by omega)) ?_
    refine aw_iconst X (1) dL_isSafe_75 rfl ?_
    refine aw_goto (tgt := 80) X dL_isSafe_76 (by decide) ?_
    refine aw_istore X dL_isSafe_80 rfl (by decide) ?_
    refine aw_iload X dL_isSafe_82 rfl ?_
    refine aw_if_lt (tgt := 157) X dL_isSafe_84 (by decide) (fun c84_1 => ?_) (fun c84_1 => ?_)
    · skip
      refine aw_iload X dL_isSafe_157 rfl ?_
      refine aw_bipush X (20) dL_isSafe_159 rfl ?_
      refine aw_icmp_le_f (tgt := 208) X dL_isSafe_161 (by decide) (nI_ge (a := 20) (by omega) (by omega)) ?_
      refine aw_iload X dL_isSafe_164 rfl ?_
      refine aw_if_eq_f (tgt := 205) X dL_isSafe_166 (by decide) (by decide) ?_
      refine aw_aload_n X dL_isSafe_169 rfl ?_
      refine aw_iload_n X dL_isSafe_170 rfl ?_
      refine aw_iload X dL_isSafe_171 rfl ?_
      refine aw_iconst X (1) dL_isSafe_173 rfl ?_
      refine aw_isub X dL_isSafe_174 ?_
      refine aw_top (nI (ρ - 1)) (nI_prd (by omega)) ?_
      refine aw_lV (As := [.int _, .int _]) X hR.g0 (l_reach hR _ _) s_L_73 k_X4_reach (by decide) ⟨rfl, rfl⟩ (by exact ⟨Nat.le_of_ble_eq_true rfl, Nat.le_of_ble_eq_true rfl⟩) rfl (by exact Nat.le_of_ble_eq_true rfl) rfl dL_isSafe_175 (fun μ hP => ?_)
      obtain ⟨hR, hK⟩ := hP
      have hF := hF.tr hK
      have eR : gReach z (nI i) (nI (ρ - 1)) = (z (hz i 0), upd z (hz i 0) (nI (ρ - 1))) := gRe hi (by omega) (by omega)
      obtain ⟨un_2, t_2, hR⟩ : ∃ u w, LR U Kp μ a (upd z (hz i 0) (nI (ρ - 1))) u w s0 z v0 1 := ⟨_, _, by rw [eR] at hR; exact hR⟩
      refine aw_top (z (hz i 0)) (by rw [eR]) ?_
      refine aw_bipush X (20) dL_isSafe_178 rfl ?_
      refine aw_icmp_lt_f (tgt := 205) X dL_isSafe_180 (by decide) hge ?_
      refine aw_aload_n X dL_isSafe_183 rfl ?_
      refine aw_iload_n X dL_isSafe_184 rfl ?_
      refine aw_lV (As := [.int _]) X hR.g0 (l_safeFor hR _) s_L_103 k_X4_safeFor (by decide) ⟨rfl, rfl⟩ (by exact ⟨Nat.le_of_ble_eq_true rfl, Nat.le_of_ble_eq_true rfl⟩) rfl (by exact Nat.le_of_ble_eq_true rfl) rfl dL_isSafe_185 (fun μ hP => ?_)
      obtain ⟨hR, hK⟩ := hP
      have hF := hF.tr hK
      refine aw_top (nI (sfN (upd z (hz i 0) (nI (ρ - 1))) i)) (cSaf_k hi (by rw [upd_n (by simp only [hz]; omega)]; exact hc) (fun q => by have := (hr4 (ρ - 1) (by omega) (by omega)).mp q; omega) rfl) ?_
      refine aw_if_lt_f (tgt := 205) X dL_isSafe_188 (by decide) (nI_pos (by have := sf_le (upd z (hz i 0) (nI (ρ - 1))) i; omega)) ?_
      refine aw_aload_n X dL_isSafe_191 rfl ?_
      refine aw_iconst X (1) dL_isSafe_192 rfl ?_
      refine aw_lV (As := [.int _]) X hR.g0 (l_restore1 hR (by decide)) s_L_93 k_X4_restore (by decide) ⟨rfl, rfl⟩ (by exact ⟨Nat.le_of_ble_eq_true rfl, Nat.le_of_ble_eq_true rfl⟩) rfl (by exact Nat.le_of_ble_eq_true rfl) rfl dL_isSafe_193 (fun μ hP => ?_)
      obtain ⟨⟨un_3, t_3, hR⟩, hK⟩ := hP
      have hF := hF.tr hK
      refine aw_iload X dL_isSafe_196 rfl ?_
      refine aw_icmp_ne_f (tgt := 205) X dL_isSafe_198 (by decide) rfl ?_
      refine aw_iconst X (1) dL_isSafe_201 rfl ?_
      refine aw_goto (tgt := 206) X dL_isSafe_202 (by decide) ?_
      refine aw_istore X dL_isSafe_206 rfl (by decide) ?_
      refine aw_iload X dL_isSafe_208 rfl ?_
      refine aw_if_eq_f (tgt := 277) X dL_isSafe_210 (by decide) (by decide) ?_
      refine aw_aload_n X dL_isSafe_213 rfl ?_
      refine aw_iload_n X dL_isSafe_214 rfl ?_
      refine aw_iload X dL_isSafe_215 rfl ?_
      refine aw_if_ge_t (tgt := 225) X dL_isSafe_217 (by decide) (Int32.not_lt.mp (nI_pos (by omega))) ?_
      refine aw_iload X dL_isSafe_225 rfl ?_
      refine aw_lV (As := [.int _, .int _]) X hR.g0 (l_reach hR _ _) s_L_73 k_X4_reach (by decide) ⟨rfl, rfl⟩ (by exact ⟨Nat.le_of_ble_eq_true rfl, Nat.le_of_ble_eq_true rfl⟩) rfl (by exact Nat.le_of_ble_eq_true rfl) rfl dL_isSafe_227 (fun μ hP => ?_)
      obtain ⟨hR, hK⟩ := hP
      have hF := hF.tr hK
      have eR2 : gReach z (nI i) (nI ρ) = (z (hz i 0), upd z (hz i 0) (nI ρ)) := gRe hi hr1 hr2
      obtain ⟨un_4, t_4, hR⟩ : ∃ u w, LR U Kp μ a (upd z (hz i 0) (nI ρ)) u w s0 z v0 1 := ⟨_, _, by rw [eR2] at hR; exact hR⟩
      refine aw_top (z (hz i 0)) (by rw [eR2]) ?_
      refine aw_bipush X (20) dL_isSafe_230 rfl ?_
      refine aw_icmp_lt_f (tgt := 277) X dL_isSafe_232 (by decide) hge ?_
      refine aw_aload_n X dL_isSafe_235 rfl ?_
      refine aw_iload_n X dL_isSafe_236 rfl ?_
      refine aw_lV (As := [.int _]) X hR.g0 (l_safeFor hR _) s_L_103 k_X4_safeFor (by decide) ⟨rfl, rfl⟩ (by exact ⟨Nat.le_of_ble_eq_true rfl, Nat.le_of_ble_eq_true rfl⟩) rfl (by exact Nat.le_of_ble_eq_true rfl) rfl dL_isSafe_237 (fun μ hP => ?_)
      obtain ⟨hR, hK⟩ := hP
      have hF := hF.tr hK
      refine aw_top (-100006) (cSaf_200 hi (by rw [upd_n (by simp only [hz]; omega)]; exact hc) ((hr4 ρ hr1 (by omega)).mpr (Nat.le_refl _))) ?_
      refine aw_ldc X dL_isSafe_240 a_L_109 ?_
      refine aw_icmp_ne_f (tgt := 249) X dL_isSafe_242 (by decide) (by decide) ?_
      refine aw_iconst X (1) dL_isSafe_245 rfl ?_
      refine aw_goto (tgt := 250) X dL_isSafe_246 (by decide) ?_
      refine aw_iload X dL_isSafe_250 rfl ?_
      refine aw_if_le_f (tgt := 259) X dL_isSafe_252 (by decide) (nI_nle (by omega) (by omega)) ?_
      refine aw_iconst X (1) dL_isSafe_255 rfl ?_
      refine aw_goto (tgt := 260) X dL_isSafe_256 (by decide) ?_
      refine aw_icmp_ne_f (tgt := 277) X dL_isSafe_260 (by decide) (by decide) ?_
      refine aw_aload_n X dL_isSafe_263 rfl ?_
      refine aw_iconst X (1) dL_isSafe_264 rfl ?_
      refine aw_lV (As := [.int _]) X hR.g0 (l_restore1 hR (by decide)) s_L_93 k_X4_restore (by decide) ⟨rfl, rfl⟩ (by exact ⟨Nat.le_of_ble_eq_true rfl, Nat.le_of_ble_eq_true rfl⟩) rfl (by exact Nat.le_of_ble_eq_true rfl) rfl dL_isSafe_265 (fun μ hP => ?_)
      obtain ⟨⟨un_5, t_5, hR⟩, hK⟩ := hP
      have hF := hF.tr hK
      refine aw_iload X dL_isSafe_268 rfl ?_
      refine aw_icmp_ne_f (tgt := 277) X dL_isSafe_270 (by decide) rfl ?_
      refine aw_iconst X (1) dL_isSafe_273 rfl ?_
      refine aw_goto (tgt := 278) X dL_isSafe_274 (by decide) ?_
      refine aw_istore X dL_isSafe_278 rfl (by decide) ?_
      refine aw_iload X dL_isSafe_280 rfl ?_
      refine aw_if_eq_f (tgt := 334) X dL_isSafe_282 (by decide) (by decide) ?_
      refine aw_iload X dL_isSafe_285 rfl ?_
      refine aw_ldc X dL_isSafe_287 a_L_109 ?_
      refine aw_icmp_ne_t (tgt := 296) X dL_isSafe_289 (by decide) (nIN_ne _ (by omega)) ?_
      refine aw_iconst X (0) dL_isSafe_296 rfl ?_
      refine aw_iload X dL_isSafe_297 rfl ?_
      refine aw_if_le_f (tgt := 317) X dL_isSafe_299 (by decide) (nI_nle (by omega) (by omega)) ?_
      refine aw_iload X dL_isSafe_302 rfl ?_
      refine aw_aload_n X dL_isSafe_304 rfl ?_
      refine aw_iload_n X dL_isSafe_305 rfl ?_
      refine aw_iconst X (0) dL_isSafe_306 rfl ?_
      refine aw_lF (As := [.int _, .int _]) X hR.g0 (l_hose hR _ _) s_L_28 k_X4_hose (by decide) ⟨rfl, rfl⟩ (by exact ⟨Nat.le_of_ble_eq_true rfl, Nat.le_of_ble_eq_true rfl⟩) rfl (by exact Nat.le_of_ble_eq_true rfl) rfl dL_isSafe_307 ?_
      refine aw_top (nI r0) ((cHo_0 hi).trans er0) ?_
      refine aw_icmp_gt_t (tgt := 317) X dL_isSafe_310 (by decide) (nI_lt hlt (by omega)) ?_
      refine aw_iconst X (0) dL_isSafe_317 rfl ?_
      refine aw_icmp_ne_f (tgt := 334) X dL_isSafe_318 (by decide) (by decide) ?_
      refine aw_aload_n X dL_isSafe_321 rfl ?_
      refine aw_lSF (As := [.ref _]) X (c_L_tale (kl K) U hR) s_L_83 k_L_tale (by decide) ⟨rfl, rfl⟩ (by exact ⟨Nat.le_of_ble_eq_true rfl, Nat.le_of_ble_eq_true rfl⟩) rfl (by exact Nat.le_of_ble_eq_true rfl) dL_isSafe_322 ?_
      refine aw_lload_n X dL_isSafe_325 rfl ?_
      refine aw_lcmp X dL_isSafe_326 ?_
      refine aw_top (0) (lg_self _) ?_
      refine aw_if_ne_f (tgt := 334) X dL_isSafe_327 (by decide) (by decide) ?_
      refine aw_iconst X (1) dL_isSafe_330 rfl ?_
      refine aw_goto (tgt := 335) X dL_isSafe_331 (by decide) ?_
      exact aw_zret X rfl hQ dL_isSafe_335 ⟨rfl, ⟨_, _, _, _, _, _, hR⟩, hF⟩
    · skip
      refine aw_iload X dL_isSafe_87 rfl ?_
      refine aw_bipush X (48) dL_isSafe_89 rfl ?_
      refine aw_icmp_ge_f (tgt := 157) X dL_isSafe_91 (by decide) (nI_ge (b := 48) (by omega) (by omega)) ?_
      refine aw_iload X dL_isSafe_94 rfl ?_
      refine aw_if_eq_f (tgt := 154) X dL_isSafe_96 (by decide) (by decide) ?_
      refine aw_iload X dL_isSafe_99 rfl ?_
      refine aw_if_eq_f (tgt := 122) X dL_isSafe_101 (by decide) (nI_ne0 (by omega) (by omega)) ?_
      refine aw_aload_n X dL_isSafe_104 rfl ?_
      refine aw_iload X dL_isSafe_105 rfl ?_
      refine aw_lV (As := [.int _]) X hR.g0 (l_pass hR _) s_L_76 k_X4_pass (by decide) ⟨rfl, rfl⟩ (by exact ⟨Nat.le_of_ble_eq_true rfl, Nat.le_of_ble_eq_true rfl⟩) rfl (by exact Nat.le_of_ble_eq_true rfl) rfl dL_isSafe_107 (fun μ hP => ?_)
      obtain ⟨hR, hK⟩ := hP
      have hF := hF.tr hK
      have eP : gPass z (nI s) = gHours z s := gp_eq h6 (by omega) (by omega) (by omega)
      obtain ⟨un_2, t_2, hR⟩ : ∃ u w, LR U Kp μ a ((gHours z s).2) u w s0 z v0 1 := ⟨_, _, by rw [eP] at hR; exact hR⟩
      refine aw_top ((gHours z s).1) (by rw [eP]) ?_
      refine aw_if_lt_f (tgt := 154) X dL_isSafe_110 (by decide) (gh_ok hL.1.1 s (by omega)) ?_
      refine aw_aload_n X dL_isSafe_113 rfl ?_
      refine aw_iload_n X dL_isSafe_114 rfl ?_
      refine aw_iconst X (3) dL_isSafe_115 rfl ?_
      refine aw_lF (As := [.int _, .int _]) X hR.g0 (l_hose hR _ _) s_L_28 k_X4_hose (by decide) ⟨rfl, rfl⟩ (by exact ⟨Nat.le_of_ble_eq_true rfl, Nat.le_of_ble_eq_true rfl⟩) rfl (by exact Nat.le_of_ble_eq_true rfl) rfl dL_isSafe_116 ?_
      refine aw_top (0) (cHo_30 hi (by have := sf_in es (j := s - 1) (by omega); rw [show s - 1 + 1 = s by omega] at this; exact this)) ?_
      refine aw_if_ne_f (tgt := 154) X dL_isSafe_119 (by decide) (by decide) ?_
      refine aw_aload_n X dL_isSafe_122 rfl ?_
      refine aw_iconst X (1) dL_isSafe_123 rfl ?_
      refine aw_lV (As := [.int _]) X hR.g0 (l_pass hR _) s_L_76 k_X4_pass (by decide) ⟨rfl, rfl⟩ (by exact ⟨Nat.le_of_ble_eq_true rfl, Nat.le_of_ble_eq_true rfl⟩) rfl (by exact Nat.le_of_ble_eq_true rfl) rfl dL_isSafe_124 (fun μ hP => ?_)
      obtain ⟨hR, hK⟩ := hP
      have hF := hF.tr hK
      have eP2 : gPass (gHours z s).2 1 = gHours (gHours z s).2 1 := gp_eq (k := 1) (gHours_6 h6 s) (by omega) (by omega) (by omega)
      have eP3 : (gHours (gHours z s).2 1).2 = (gHours z (s + 1)).2 := rfl
      obtain ⟨un_3, t_3, hR⟩ : ∃ u w, LR U Kp μ a ((gHours z (s + 1)).2) u w s0 z v0 1 := ⟨_, _, by rw [eP2, eP3] at hR; exact hR⟩
      refine aw_top ((gHours (gHours z s).2 1).1) (by rw [eP2]) ?_
      refine aw_if_lt_f (tgt := 154) X dL_isSafe_127 (by decide) (gh_ok (hL.1.1.hours s).1 1 (by omega)) ?_
      refine aw_aload_n X dL_isSafe_130 rfl ?_
      refine aw_iload_n X dL_isSafe_131 rfl ?_
      refine aw_iconst X (3) dL_isSafe_132 rfl ?_
      refine aw_lF (As := [.int _, .int _]) X hR.g0 (l_hose hR _ _) s_L_28 k_X4_hose (by decide) ⟨rfl, rfl⟩ (by exact ⟨Nat.le_of_ble_eq_true rfl, Nat.le_of_ble_eq_true rfl⟩) rfl (by exact Nat.le_of_ble_eq_true rfl) rfl dL_isSafe_133 ?_
      refine aw_top (1) (cHo_31 hi (sf_at es (by omega))) ?_
      refine aw_iconst X (1) dL_isSafe_136 rfl ?_
      refine aw_icmp_ne_f (tgt := 154) X dL_isSafe_137 (by decide) (by decide) ?_
      refine aw_aload_n X dL_isSafe_140 rfl ?_
      refine aw_iconst X (1) dL_isSafe_141 rfl ?_
      refine aw_lV (As := [.int _]) X hR.g0 (l_restore1 hR (by decide)) s_L_93 k_X4_restore (by decide) ⟨rfl, rfl⟩ (by exact ⟨Nat.le_of_ble_eq_true rfl, Nat.le_of_ble_eq_true rfl⟩) rfl (by exact Nat.le_of_ble_eq_true rfl) rfl dL_isSafe_142 (fun μ hP => ?_)
      obtain ⟨⟨un_4, t_4, hR⟩, hK⟩ := hP
      have hF := hF.tr hK
      refine aw_iload X dL_isSafe_145 rfl ?_
      refine aw_icmp_ne_f (tgt := 154) X dL_isSafe_147 (by decide) rfl ?_
      refine aw_iconst X (1) dL_isSafe_150 rfl ?_
      refine aw_goto (tgt := 155) X dL_isSafe_151 (by decide) ?_
      refine aw_istore X dL_isSafe_155 rfl (by decide) ?_
      refine aw_iload X dL_isSafe_157 rfl ?_
      refine aw_bipush X (20) dL_isSafe_159 rfl ?_
      refine aw_icmp_le_f (tgt := 208) X dL_isSafe_161 (by decide) (nI_ge (a := 20) (by omega) (by omega)) ?_
      refine aw_iload X dL_isSafe_164 rfl ?_
      refine aw_if_eq_f (tgt := 205) X dL_isSafe_166 (by decide) (by decide) ?_
      refine aw_aload_n X dL_isSafe_169 rfl ?_
      refine aw_iload_n X dL_isSafe_170 rfl ?_
      refine aw_iload X dL_isSafe_171 rfl ?_
      refine aw_iconst X (1) dL_isSafe_173 rfl ?_
      refine aw_isub X dL_isSafe_174 ?_
      refine aw_top (nI (ρ - 1)) (nI_prd (by omega)) ?_
      refine aw_lV (As := [.int _, .int _]) X hR.g0 (l_reach hR _ _) s_L_73 k_X4_reach (by decide) ⟨rfl, rfl⟩ (by exact ⟨Nat.le_of_ble_eq_true rfl, Nat.le_of_ble_eq_true rfl⟩) rfl (by exact Nat.le_of_ble_eq_true rfl) rfl dL_isSafe_175 (fun μ hP => ?_)
      obtain ⟨hR, hK⟩ := hP
      have hF := hF.tr hK
      have eR : gReach z (nI i) (nI (ρ - 1)) = (z (hz i 0), upd z (hz i 0) (nI (ρ - 1))) := gRe hi (by omega) (by omega)
      obtain ⟨un_5, t_5, hR⟩ : ∃ u w, LR U Kp μ a (upd z (hz i 0) (nI (ρ - 1))) u w s0 z v0 1 := ⟨_, _, by rw [eR] at hR; exact hR⟩
      refine aw_top (z (hz i 0)) (by rw [eR]) ?_
      refine aw_bipush X (20) dL_isSafe_178 rfl ?_
      refine aw_icmp_lt_f (tgt := 205) X dL_isSafe_180 (by decide) hge ?_
      refine aw_aload_n X dL_isSafe_183 rfl ?_
      refine aw_iload_n X dL_isSafe_184 rfl ?_
      refine aw_lV (As := [.int _]) X hR.g0 (l_safeFor hR _) s_L_103 k_X4_safeFor (by decide) ⟨rfl, rfl⟩ (by exact ⟨Nat.le_of_ble_eq_true rfl, Nat.le_of_ble_eq_true rfl⟩) rfl (by exact Nat.le_of_ble_eq_true rfl) rfl dL_isSafe_185 (fun μ hP => ?_)
      obtain ⟨hR, hK⟩ := hP
      have hF := hF.tr hK
      refine aw_top (nI (sfN (upd z (hz i 0) (nI (ρ - 1))) i)) (cSaf_k hi (by rw [upd_n (by simp only [hz]; omega)]; exact hc) (fun q => by have := (hr4 (ρ - 1) (by omega) (by omega)).mp q; omega) rfl) ?_
      refine aw_if_lt_f (tgt := 205) X dL_isSafe_188 (by decide) (nI_pos (by have := sf_le (upd z (hz i 0) (nI (ρ - 1))) i; omega)) ?_
      refine aw_aload_n X dL_isSafe_191 rfl ?_
      refine aw_iconst X (1) dL_isSafe_192 rfl ?_
      refine aw_lV (As := [.int _]) X hR.g0 (l_restore1 hR (by decide)) s_L_93 k_X4_restore (by decide) ⟨rfl, rfl⟩ (by exact ⟨Nat.le_of_ble_eq_true rfl, Nat.le_of_ble_eq_true rfl⟩) rfl (by exact Nat.le_of_ble_eq_true rfl) rfl dL_isSafe_193 (fun μ hP => ?_)
      obtain ⟨⟨un_6, t_6, hR⟩, hK⟩ := hP
      have hF := hF.tr hK
      refine aw_iload X dL_isSafe_196 rfl ?_
      refine aw_icmp_ne_f (tgt := 205) X dL_isSafe_198 (by decide) rfl ?_
      refine aw_iconst X (1) dL_isSafe_201 rfl ?_
      refine aw_goto (tgt := 206) X dL_isSafe_202 (by decide) ?_
      refine aw_istore X dL_isSafe_206 rfl (by decide) ?_
      refine aw_iload X dL_isSafe_208 rfl ?_
      refine aw_if_eq_f (tgt := 277) X dL_isSafe_210 (by decide) (by decide) ?_
      refine aw_aload_n X dL_isSafe_213 rfl ?_
      refine aw_iload_n X dL_isSafe_214 rfl ?_
      refine aw_iload X dL_isSafe_215 rfl ?_
      refine aw_if_ge_t (tgt := 225) X dL_isSafe_217 (by decide) (Int32.not_lt.mp (nI_pos (by omega))) ?_
      refine aw_iload X dL_isSafe_225 rfl ?_
      refine aw_lV (As := [.int _, .int _]) X hR.g0 (l_reach hR _ _) s_L_73 k_X4_reach (by decide) ⟨rfl, rfl⟩ (by exact ⟨Nat.le_of_ble_eq_true rfl, Nat.le_of_ble_eq_true rfl⟩) rfl (by exact Nat.le_of_ble_eq_true rfl) rfl dL_isSafe_227 (fun μ hP => ?_)
      obtain ⟨hR, hK⟩ := hP
      have hF := hF.tr hK
      have eR2 : gReach z (nI i) (nI ρ) = (z (hz i 0), upd z (hz i 0) (nI ρ)) := gRe hi hr1 hr2
      obtain ⟨un_7, t_7, hR⟩ : ∃ u w, LR U Kp μ a (upd z (hz i 0) (nI ρ)) u w s0 z v0 1 := ⟨_, _, by rw [eR2] at hR; exact hR⟩
      refine aw_top (z (hz i 0)) (by rw [eR2]) ?_
      refine aw_bipush X (20) dL_isSafe_230 rfl ?_
      refine aw_icmp_lt_f (tgt := 277) X dL_isSafe_232 (by decide) hge ?_
      refine aw_aload_n X dL_isSafe_235 rfl ?_
      refine aw_iload_n X dL_isSafe_236 rfl ?_
      refine aw_lV (As := [.int _]) X hR.g0 (l_safeFor hR _) s_L_103 k_X4_safeFor (by decide) ⟨rfl, rfl⟩ (by exact ⟨Nat.le_of_ble_eq_true rfl, Nat.le_of_ble_eq_true rfl⟩) rfl (by exact Nat.le_of_ble_eq_true rfl) rfl dL_isSafe_237 (fun μ hP => ?_)
      obtain ⟨hR, hK⟩ := hP
      have hF := hF.tr hK
      refine aw_top (-100006) (cSaf_200 hi (by rw [upd_n (by simp only [hz]; omega)]; exact hc) ((hr4 ρ hr1 (by omega)).mpr (Nat.le_refl _))) ?_
      refine aw_ldc X dL_isSafe_240 a_L_109 ?_
      refine aw_icmp_ne_f (tgt := 249) X dL_isSafe_242 (by decide) (by decide) ?_
      refine aw_iconst X (1) dL_isSafe_245 rfl ?_
      refine aw_goto (tgt := 250) X dL_isSafe_246 (by decide) ?_
      refine aw_iload X dL_isSafe_250 rfl ?_
      refine aw_if_le_f (tgt := 259) X dL_isSafe_252 (by decide) (nI_nle (by omega) (by omega)) ?_
      refine aw_iconst X (1) dL_isSafe_255 rfl ?_
      refine aw_goto (tgt := 260) X dL_isSafe_256 (by decide) ?_
      refine aw_icmp_ne_f (tgt := 277) X dL_isSafe_260 (by decide) (by decide) ?_
      refine aw_aload_n X dL_isSafe_263 rfl ?_
      refine aw_iconst X (1) dL_isSafe_264 rfl ?_
      refine aw_lV (As := [.int _]) X hR.g0 (l_restore1 hR (by decide)) s_L_93 k_X4_restore (by decide) ⟨rfl, rfl⟩ (by exact ⟨Nat.le_of_ble_eq_true rfl, Nat.le_of_ble_eq_true rfl⟩) rfl (by exact Nat.le_of_ble_eq_true rfl) rfl dL_isSafe_265 (fun μ hP => ?_)
      obtain ⟨⟨un_8, t_8, hR⟩, hK⟩ := hP
      have hF := hF.tr hK
      refine aw_iload X dL_isSafe_268 rfl ?_
      refine aw_icmp_ne_f (tgt := 277) X dL_isSafe_270 (by decide) rfl ?_
      refine aw_iconst X (1) dL_isSafe_273 rfl ?_
      refine aw_goto (tgt := 278) X dL_isSafe_274 (by decide) ?_
      refine aw_istore X dL_isSafe_278 rfl (by decide) ?_
      refine aw_iload X dL_isSafe_280 rfl ?_
      refine aw_if_eq_f (tgt := 334) X dL_isSafe_282 (by decide) (by decide) ?_
      refine aw_iload X dL_isSafe_285 rfl ?_
      refine aw_ldc X dL_isSafe_287 a_L_109 ?_
      refine aw_icmp_ne_t (tgt := 296) X dL_isSafe_289 (by decide) (nIN_ne _ (by omega)) ?_
      refine aw_iconst X (0) dL_isSafe_296 rfl ?_
      refine aw_iload X dL_isSafe_297 rfl ?_
      refine aw_if_le_f (tgt := 317) X dL_isSafe_299 (by decide) (nI_nle (by omega) (by omega)) ?_
      refine aw_iload X dL_isSafe_302 rfl ?_
      refine aw_aload_n X dL_isSafe_304 rfl ?_
      refine aw_iload_n X dL_isSafe_305 rfl ?_
      refine aw_iconst X (0) dL_isSafe_306 rfl ?_
      refine aw_lF (As := [.int _, .int _]) X hR.g0 (l_hose hR _ _) s_L_28 k_X4_hose (by decide) ⟨rfl, rfl⟩ (by exact ⟨Nat.le_of_ble_eq_true rfl, Nat.le_of_ble_eq_true rfl⟩) rfl (by exact Nat.le_of_ble_eq_true rfl) rfl dL_isSafe_307 ?_
      refine aw_top (nI r0) ((cHo_0 hi).trans er0) ?_
      refine aw_icmp_gt_t (tgt := 317) X dL_isSafe_310 (by decide) (nI_lt hlt (by omega)) ?_
      refine aw_iconst X (0) dL_isSafe_317 rfl ?_
      refine aw_icmp_ne_f (tgt := 334) X dL_isSafe_318 (by decide) (by decide) ?_
      refine aw_aload_n X dL_isSafe_321 rfl ?_
      refine aw_lSF (As := [.ref _]) X (c_L_tale (kl K) U hR) s_L_83 k_L_tale (by decide) ⟨rfl, rfl⟩ (by exact ⟨Nat.le_of_ble_eq_true rfl, Nat.le_of_ble_eq_true rfl⟩) rfl (by exact Nat.le_of_ble_eq_true rfl) dL_isSafe_322 ?_
      refine aw_lload_n X dL_isSafe_325 rfl ?_
      refine aw_lcmp X dL_isSafe_326 ?_
      refine aw_top (0) (lg_self _) ?_
      refine aw_if_ne_f (tgt := 334) X dL_isSafe_327 (by decide) (by decide) ?_
      refine aw_iconst X (1) dL_isSafe_330 rfl ?_
      refine aw_goto (tgt := 335) X dL_isSafe_331 (by decide) ?_
      exact aw_zret X rfl hQ dL_isSafe_335 ⟨rfl, ⟨_, _, _, _, _, _, hR⟩, hF⟩
