/-! what the model foresees -/
theorem sfN_le (y : xV) (i : Nat) : sfN y i ≤ 200 := by
  unfold sfN
  have := (ff_le (fun k => decide (¬ (gHours y (k + 1)).2 (hz i 3) = 0)) 200 0).2
  omega
set_option maxHeartbeats 1000000 in
set_option maxRecDepth 100000 in
theorem c_X5_untilEmpty (l : Launch) (U : xU) (μ0 : xH) (ma : Nat → Nat) (m : xV) (hM0 : FRep U μ0 ma 5 FM m) (hiv : IV m) (h80 : ∀ i, i < 4 → m (80 + i) = 0) (hn : Nat) (h6 : m 6 = nI hn) (hb : hn ≤ 9999) : CtFR l U yX5_untilEmpty cX5_untilEmpty 3 (some .int) ({ frames := 5, cells := 0, slots := 0, locals := 113 } : Room) [.ref (ma 0)] μ0 ma 5 FM (if m 13 = 0 then -100005 else kEmp (xcp m 100 0 80)) (if m 13 = 0 then m else xcp m 100 0 80) := by
  refine Ct.of [some (.ref (ma 0)), none, none] (by decide +kernel) rfl (Nat.le_of_ble_eq_true rfl) (fun K Q X hnm hQ => ?_)
  obtain ⟨μ, hμ, hM⟩ : ∃ μ : xH, μ0 = μ ∧ FR U μ0 μ ma 5 FM m := ⟨μ0, rfl, FR.rf hM0⟩
  refine aw_mu hμ ?_
  refine aw_aload_n X dX5_untilEmpty_0 rfl ?_
  refine aw_fgetA X hM 0 (t := 0) (b := 0) (n := 80) rfl f_X5_7 dX5_untilEmpty_1 ?_
  refine aw_bipush X (13) dX5_untilEmpty_4 rfl ?_
  refine aw_fiald X hM 0 (b := 0) (n := 80) rfl 13 (xin_d rfl) (by decide) dX5_untilEmpty_6 ?_
  refine aw_if_ne (tgt := 13) X dX5_untilEmpty_7 (by decide) (fun c7_1 => ?_) (fun c7_1 => ?_)
  · skip
    have h13 : m 13 = 1 := hiv.2.2.2.1.resolve_left c7_1
    refine aw_aload_n X dX5_untilEmpty_13 rfl ?_
    refine aw_cVFK (As := []) X hM (c_X5_keepRow (kl K) U _ ma _ hM.1) s_X5_146 k_X5_keepRow (by decide) ⟨rfl, rfl⟩ ⟨Nat.zero_le _, Nat.zero_le _⟩ rfl (by exact Nat.le_of_ble_eq_true rfl) rfl dX5_untilEmpty_14 (fun μ z_2 ez_2 hM => ?_)
    have ho1 : ∀ j, j < 100 → z_2 j = m j := fun j hj => by rw [ez_2, xcp_o (by omega)]
    have hivk : IV z_2 := hiv.cg (fun k hk => ho1 k (by omega))
    have h6k : z_2 6 = nI hn := by rw [ho1 6 (by omega)]; exact h6
    have h80k : ∀ i, i < 4 → z_2 (80 + i) = 0 := fun i hi => by rw [ho1 _ (by omega)]; exact h80 i hi
    refine aw_iconst X (0) dX5_untilEmpty_17 rfl ?_
    refine aw_istore_n X dX5_untilEmpty_18 rfl (by decide) ?_
    have h13k : z_2 13 = 1 := by rw [ho1 13 (by omega)]; exact h13
    have loop : ∀ (d : Nat) (k : Nat) (μ : xH) (zc : xV), k + d = 200 → ff (fun k => decide (¬ 0 < cUnits (gHours z_2 k).2 0)) d k = ueN z_2 → zc = (gHours z_2 k).2 → FR U μ0 μ ma 5 FM zc →AW U K 3 0 0 Q μ 19 [some (.ref (ma 0)), some (.int (nI k)), none] [] := by
      intro d
      induction d with
      | zero =>
        intro k μ zc hkd hR ezc hM
        obtain rfl : k = 200 := by omega
        have hv13 : zc 13 = 1 := by rw [ezc, gHours_o (by omega)]; exact h13k
        refine aw_aload_n X dX5_untilEmpty_19 rfl ?_
        refine aw_iconst X (0) dX5_untilEmpty_20 rfl ?_
        refine aw_cVFF (As := [.int _]) X hM (c_X5_unitsOf (kl K) U _ ma _ hM.1 _ 0 rfl (by decide)) s_X5_49 k_X5_unitsOf (by decide) ⟨rfl, rfl⟩ ⟨Nat.zero_le _, Nat.zero_le _⟩ rfl (by exact Nat.le_of_ble_eq_true rfl) rfl dX5_untilEmpty_21 ?_
        refine aw_if_le (tgt := 45) X dX5_untilEmpty_24 (by decide) (fun c24_3 => ?_) (fun c24_3 => ?_)
        · skip
          refine aw_aload_n X dX5_untilEmpty_45 rfl ?_
          refine aw_iconst X (0) dX5_untilEmpty_46 rfl ?_
          refine aw_cVFF (As := [.int _]) X hM (c_X5_unitsOf (kl K) U _ ma _ hM.1 _ 0 rfl (by decide)) s_X5_49 k_X5_unitsOf (by decide) ⟨rfl, rfl⟩ ⟨Nat.zero_le _, Nat.zero_le _⟩ rfl (by exact Nat.le_of_ble_eq_true rfl) rfl dX5_untilEmpty_47 ?_
          refine aw_if_ne (tgt := 57) X dX5_untilEmpty_50 (by decide) (fun c50_4 => ?_) (fun c50_4 => ?_)
          · skip
            refine aw_iconst X (0) dX5_untilEmpty_57 rfl ?_
            refine aw_istore_n X dX5_untilEmpty_58 rfl (by decide) ?_
            refine aw_aload_n X dX5_untilEmpty_59 rfl ?_
            refine aw_cVFK (As := []) X hM (c_X5_putBack (kl K) U _ ma _ hM.1) s_X5_149 k_X5_putBack (by decide) ⟨rfl, rfl⟩ ⟨Nat.zero_le _, Nat.zero_le _⟩ rfl (by exact Nat.le_of_ble_eq_true rfl) rfl dX5_untilEmpty_60 (fun μ z_5 ez_5 hM => ?_)
            refine aw_iload_n X dX5_untilEmpty_63 rfl ?_
            refine aw_if_eq_t (tgt := 71) X dX5_untilEmpty_64 (by decide) (by decide) ?_
            refine aw_ldc X dX5_untilEmpty_71 a_X5_36 ?_
            have eR : ueN z_2 = 200 := hR.symm
            refine aw_iret X hQ dX5_untilEmpty_73 ⟨congrArg (fun q => some (Value.int q)) (by rw [if_neg c7_1, ← ez_2, kEmp, eR, ← ezc, if_neg c50_4]), hM.to ?_⟩
            rw [ez_5, if_neg c7_1]
            exact putBack_eq (fun j hj => by rw [ezc, gHours_o (by omega), ez_2])
          · skip
            refine aw_iconst X (1) dX5_untilEmpty_53 rfl ?_
            refine aw_goto (tgt := 58) X dX5_untilEmpty_54 (by decide) ?_
            refine aw_istore_n X dX5_untilEmpty_58 rfl (by decide) ?_
            refine aw_aload_n X dX5_untilEmpty_59 rfl ?_
            refine aw_cVFK (As := []) X hM (c_X5_putBack (kl K) U _ ma _ hM.1) s_X5_149 k_X5_putBack (by decide) ⟨rfl, rfl⟩ ⟨Nat.zero_le _, Nat.zero_le _⟩ rfl (by exact Nat.le_of_ble_eq_true rfl) rfl dX5_untilEmpty_60 (fun μ z_5 ez_5 hM => ?_)
            refine aw_iload_n X dX5_untilEmpty_63 rfl ?_
            refine aw_if_eq_f (tgt := 71) X dX5_untilEmpty_64 (by decide) (by decide) ?_
            refine aw_iload_n X dX5_untilEmpty_67 rfl ?_
            refine aw_goto (tgt := 73) X dX5_untilEmpty_68 (by decide) ?_
            have eR : ueN z_2 = 200 := hR.symm
            refine aw_iret X hQ dX5_untilEmpty_73 ⟨congrArg (fun q => some (Value.int q)) (by rw [if_neg c7_1, ← ez_2, kEmp, eR, ← ezc, if_pos c50_4]), hM.to ?_⟩
            rw [ez_5, if_neg c7_1]
            exact putBack_eq (fun j hj => by rw [ezc, gHours_o (by omega), ez_2])
        · skip
          refine aw_iload_n X dX5_untilEmpty_27 rfl ?_
          refine aw_sipush X (200) dX5_untilEmpty_28 rfl ?_
          refine aw_icmp_ge_t (tgt := 45) X dX5_untilEmpty_31 (by decide) (by decide) ?_
          refine aw_aload_n X dX5_untilEmpty_45 rfl ?_
          refine aw_iconst X (0) dX5_untilEmpty_46 rfl ?_
          refine aw_cVFF (As := [.int _]) X hM (c_X5_unitsOf (kl K) U _ ma _ hM.1 _ 0 rfl (by decide)) s_X5_49 k_X5_unitsOf (by decide) ⟨rfl, rfl⟩ ⟨Nat.zero_le _, Nat.zero_le _⟩ rfl (by exact Nat.le_of_ble_eq_true rfl) rfl dX5_untilEmpty_47 ?_
          refine aw_if_ne (tgt := 57) X dX5_untilEmpty_50 (by decide) (fun c50_4 => ?_) (fun c50_4 => ?_)
          · skip
            refine aw_iconst X (0) dX5_untilEmpty_57 rfl ?_
            refine aw_istore_n X dX5_untilEmpty_58 rfl (by decide) ?_
            refine aw_aload_n X dX5_untilEmpty_59 rfl ?_
            refine aw_cVFK (As := []) X hM (c_X5_putBack (kl K) U _ ma _ hM.1) s_X5_149 k_X5_putBack (by decide) ⟨rfl, rfl⟩ ⟨Nat.zero_le _, Nat.zero_le _⟩ rfl (by exact Nat.le_of_ble_eq_true rfl) rfl dX5_untilEmpty_60 (fun μ z_5 ez_5 hM => ?_)
            refine aw_iload_n X dX5_untilEmpty_63 rfl ?_
            refine aw_if_eq_t (tgt := 71) X dX5_untilEmpty_64 (by decide) (by decide) ?_
            refine aw_ldc X dX5_untilEmpty_71 a_X5_36 ?_
            have eR : ueN z_2 = 200 := hR.symm
            refine aw_iret X hQ dX5_untilEmpty_73 ⟨congrArg (fun q => some (Value.int q)) (by rw [if_neg c7_1, ← ez_2, kEmp, eR, ← ezc, if_neg c50_4]), hM.to ?_⟩
            rw [ez_5, if_neg c7_1]
            exact putBack_eq (fun j hj => by rw [ezc, gHours_o (by omega), ez_2])
          · skip
            refine aw_iconst X (1) dX5_untilEmpty_53 rfl ?_
            refine aw_goto (tgt := 58) X dX5_untilEmpty_54 (by decide) ?_
            refine aw_istore_n X dX5_untilEmpty_58 rfl (by decide) ?_
            refine aw_aload_n X dX5_untilEmpty_59 rfl ?_
            refine aw_cVFK (As := []) X hM (c_X5_putBack (kl K) U _ ma _ hM.1) s_X5_149 k_X5_putBack (by decide) ⟨rfl, rfl⟩ ⟨Nat.zero_le _, Nat.zero_le _⟩ rfl (by exact Nat.le_of_ble_eq_true rfl) rfl dX5_untilEmpty_60 (fun μ z_5 ez_5 hM => ?_)
            refine aw_iload_n X dX5_untilEmpty_63 rfl ?_
            refine aw_if_eq_f (tgt := 71) X dX5_untilEmpty_64 (by decide) (by decide) ?_
            refine aw_iload_n X dX5_untilEmpty_67 rfl ?_
            refine aw_goto (tgt := 73) X dX5_untilEmpty_68 (by decide) ?_
            have eR : ueN z_2 = 200 := hR.symm
            refine aw_iret X hQ dX5_untilEmpty_73 ⟨congrArg (fun q => some (Value.int q)) (by rw [if_neg c7_1, ← ez_2, kEmp, eR, ← ezc, if_pos c50_4]), hM.to ?_⟩
            rw [ez_5, if_neg c7_1]
            exact putBack_eq (fun j hj => by rw [ezc, gHours_o (by omega), ez_2])
      | succ d ih =>
        intro k μ zc hkd hR ezc hM
        have hk2 : k < 200 := by omega
        have hv13 : zc 13 = 1 := by rw [ezc, gHours_o (by omega)]; exact h13k
        refine aw_aload_n X dX5_untilEmpty_19 rfl ?_
        refine aw_iconst X (0) dX5_untilEmpty_20 rfl ?_
        refine aw_cVFF (As := [.int _]) X hM (c_X5_unitsOf (kl K) U _ ma _ hM.1 _ 0 rfl (by decide)) s_X5_49 k_X5_unitsOf (by decide) ⟨rfl, rfl⟩ ⟨Nat.zero_le _, Nat.zero_le _⟩ rfl (by exact Nat.le_of_ble_eq_true rfl) rfl dX5_untilEmpty_21 ?_
        refine aw_if_le (tgt := 45) X dX5_untilEmpty_24 (by decide) (fun c24_3 => ?_) (fun c24_3 => ?_)
        · skip
          refine aw_aload_n X dX5_untilEmpty_45 rfl ?_
          refine aw_iconst X (0) dX5_untilEmpty_46 rfl ?_
          refine aw_cVFF (As := [.int _]) X hM (c_X5_unitsOf (kl K) U _ ma _ hM.1 _ 0 rfl (by decide)) s_X5_49 k_X5_unitsOf (by decide) ⟨rfl, rfl⟩ ⟨Nat.zero_le _, Nat.zero_le _⟩ rfl (by exact Nat.le_of_ble_eq_true rfl) rfl dX5_untilEmpty_47 ?_
          refine aw_if_ne (tgt := 57) X dX5_untilEmpty_50 (by decide) (fun c50_4 => ?_) (fun c50_4 => ?_)
          · skip
            refine aw_iconst X (0) dX5_untilEmpty_57 rfl ?_
            refine aw_istore_n X dX5_untilEmpty_58 rfl (by decide) ?_
            refine aw_aload_n X dX5_untilEmpty_59 rfl ?_
            refine aw_cVFK (As := []) X hM (c_X5_putBack (kl K) U _ ma _ hM.1) s_X5_149 k_X5_putBack (by decide) ⟨rfl, rfl⟩ ⟨Nat.zero_le _, Nat.zero_le _⟩ rfl (by exact Nat.le_of_ble_eq_true rfl) rfl dX5_untilEmpty_60 (fun μ z_5 ez_5 hM => ?_)
            refine aw_iload_n X dX5_untilEmpty_63 rfl ?_
            refine aw_if_eq_t (tgt := 71) X dX5_untilEmpty_64 (by decide) (by decide) ?_
            refine aw_ldc X dX5_untilEmpty_71 a_X5_36 ?_
            have eR : ueN z_2 = k := by
              rw [ff, if_pos (by rw [decide_eq_true_iff, ← ezc]; exact Int32.not_lt.mpr c24_3)] at hR
              exact hR.symm
            refine aw_iret X hQ dX5_untilEmpty_73 ⟨congrArg (fun q => some (Value.int q)) (by rw [if_neg c7_1, ← ez_2, kEmp, eR, ← ezc, if_neg c50_4]), hM.to ?_⟩
            rw [ez_5, if_neg c7_1]
            exact putBack_eq (fun j hj => by rw [ezc, gHours_o (by omega), ez_2])
          · skip
            refine aw_iconst X (1) dX5_untilEmpty_53 rfl ?_
            refine aw_goto (tgt := 58) X dX5_untilEmpty_54 (by decide) ?_
            refine aw_istore_n X dX5_untilEmpty_58 rfl (by decide) ?_
            refine aw_aload_n X dX5_untilEmpty_59 rfl ?_
            refine aw_cVFK (As := []) X hM (c_X5_putBack (kl K) U _ ma _ hM.1) s_X5_149 k_X5_putBack (by decide) ⟨rfl, rfl⟩ ⟨Nat.zero_le _, Nat.zero_le _⟩ rfl (by exact Nat.le_of_ble_eq_true rfl) rfl dX5_untilEmpty_60 (fun μ z_5 ez_5 hM => ?_)
            refine aw_iload_n X dX5_untilEmpty_63 rfl ?_
            refine aw_if_eq_f (tgt := 71) X dX5_untilEmpty_64 (by decide) (by decide) ?_
            refine aw_iload_n X dX5_untilEmpty_67 rfl ?_
            refine aw_goto (tgt := 73) X dX5_untilEmpty_68 (by decide) ?_
            have eR : ueN z_2 = k := by
              rw [ff, if_pos (by rw [decide_eq_true_iff, ← ezc]; exact Int32.not_lt.mpr c24_3)] at hR
              exact hR.symm
            refine aw_iret X hQ dX5_untilEmpty_73 ⟨congrArg (fun q => some (Value.int q)) (by rw [if_neg c7_1, ← ez_2, kEmp, eR, ← ezc, if_pos c50_4]), hM.to ?_⟩
            rw [ez_5, if_neg c7_1]
            exact putBack_eq (fun j hj => by rw [ezc, gHours_o (by omega), ez_2])
        · skip
          refine aw_iload_n X dX5_untilEmpty_27 rfl ?_
          refine aw_sipush X (200) dX5_untilEmpty_28 rfl ?_
          refine aw_icmp_ge_f (tgt := 45) X dX5_untilEmpty_31 (by decide) (xn_le (N := 200) (by omega) (by decide) rfl) ?_
          have hv : IV zc := by rw [ezc]; exact (hivk.hours k).1
          have h6c : zc 6 = nI (hn + k) := by rw [ezc]; exact gHours_6 h6k k
          have h80c : ∀ i, i < 4 → zc (80 + i) = 0 := fun i hi => by rw [ezc, gHours_o (by omega)]; exact h80k i hi
          refine aw_aload_n X dX5_untilEmpty_34 rfl ?_
          refine aw_cVFR (As := []) X hM (c_X5_hour (kl K) U _ ma _ hM.1 hv h80c _ h6c (by omega)) s_X5_137 k_X5_hour (by decide) ⟨rfl, rfl⟩ ⟨Nat.zero_le _, Nat.zero_le _⟩ rfl (by exact Nat.le_of_ble_eq_true rfl) rfl dX5_untilEmpty_35 (fun μ z_4 ez_4 hM => ?_)
          refine aw_pop X dX5_untilEmpty_38 rfl ?_
          refine aw_iinc X (1) dX5_untilEmpty_39 rfl rfl rfl (by decide) ?_
          refine aw_goto (tgt := 19) X dX5_untilEmpty_42 (by decide) ?_
          rw [ff, if_neg (by rw [decide_eq_true_iff]; intro q; exact q (by rw [← ezc]; exact Int32.not_le.mp c24_3))] at hR
          refine aw_sub [some (.ref (ma 0)), some (.int (nI (k + 1))), none] ⟨rfl, congrArg (fun q => some (Value.int q)) (nI_1 k), trivial⟩ ?_
          exact ih (k + 1) μ _ (by omega) hR (by rw [ez_4, ezc]; rfl) hM
    refine aw_sub [some (.ref (ma 0)), some (.int (nI 0)), none] ⟨rfl, rfl, trivial⟩ ?_
    exact loop 200 0 μ _ (by omega) rfl rfl hM
  · skip
    refine aw_ldc X dX5_untilEmpty_10 a_X5_108 ?_
    exact aw_iret X hQ dX5_untilEmpty_12 ⟨congrArg (fun q => some (Value.int q)) (by simp [c7_1]), hM.to (by simp [c7_1])⟩

theorem inB_mono2 {v : Int32} (h : inB v 1 200 = true) : inB v 0 200 = true := by
  unfold inB at h ⊢
  simp only [Bool.and_eq_true, decide_eq_true_eq] at h ⊢
  exact ⟨Int32.le_trans (by decide) h.1, h.2⟩
set_option maxHeartbeats 1000000 in
set_option maxRecDepth 100000 in
theorem c_X5_ifPassed (l : Launch) (U : xU) (μ0 : xH) (ma : Nat → Nat) (m : xV) (hM0 : FRep U μ0 ma 5 FM m) (hiv : IV m) (h80 : ∀ i, i < 4 → m (80 + i) = 0) (hn : Nat) (h6 : m 6 = nI hn) (hb : hn ≤ 9999) (n w : Int32) : CtFR l U yX5_ifPassed cX5_ifPassed 8 (some .int) ({ frames := 6, cells := 0, slots := 0, locals := 136 } : Room) [.ref (ma 0), .int n, .int w] μ0 ma 5 FM (if (inB n 1 200 && inB w 0 3) = false then -100002 else kIfP (xcp m 100 0 80) (tn n) w) (if (inB n 1 200 && inB w 0 3) = false then m else xcp m 100 0 80) := by
  refine Ct.of [some (.ref (ma 0)), some (.int n), some (.int w), none, none, none, none, none] (by decide +kernel) rfl (Nat.le_of_ble_eq_true rfl) (fun K Q X hnm hQ => ?_)
  obtain ⟨μ, hμ, hM⟩ : ∃ μ : xH, μ0 = μ ∧ FR U μ0 μ ma 5 FM m := ⟨μ0, rfl, FR.rf hM0⟩
  refine aw_mu hμ ?_
  refine aw_iload_n X dX5_ifPassed_0 rfl ?_
  refine aw_iconst X (1) dX5_ifPassed_1 rfl ?_
  refine aw_sipush X (200) dX5_ifPassed_2 rfl ?_
  refine aw_cSF (As := [.int _, .int _, .int _]) X (c_X5_in (kl K) U _ _ _ _) s_X5_59 k_X5_in (by decide) ⟨rfl, rfl⟩ ⟨Nat.zero_le _, Nat.zero_le _⟩ rfl (by exact Nat.le_of_ble_eq_true rfl) dX5_ifPassed_5 ?_
  refine aw_top (bI (inB n (1 : Int32) (200 : Int32))) rfl ?_
  refine aw_b_eq (tgt := 20) X dX5_ifPassed_8 (by decide) (fun c8_1 => ?_) (fun c8_1 => ?_)
  · skip
    refine aw_ldc X dX5_ifPassed_20 a_X5_99 ?_
    exact aw_iret X hQ dX5_ifPassed_22 ⟨congrArg (fun q => some (Value.int q)) (by simp [c8_1]), hM.to (by simp [c8_1])⟩
  · skip
    obtain ⟨pn, hpn, ep, etp⟩ := inB_tn (n := 200) rfl (by decide) (inB_mono2 c8_1)
    refine aw_iload_n X dX5_ifPassed_11 rfl ?_
    refine aw_iconst X (0) dX5_ifPassed_12 rfl ?_
    refine aw_iconst X (3) dX5_ifPassed_13 rfl ?_
    refine aw_cSF (As := [.int _, .int _, .int _]) X (c_X5_in (kl K) U _ _ _ _) s_X5_59 k_X5_in (by decide) ⟨rfl, rfl⟩ ⟨Nat.zero_le _, Nat.zero_le _⟩ rfl (by exact Nat.le_of_ble_eq_true rfl) dX5_ifPassed_14 ?_
    refine aw_top (bI (inB w (0 : Int32) (3 : Int32))) rfl ?_
    refine aw_b_ne (tgt := 23) X dX5_ifPassed_17 (by decide) (fun c17_2 => ?_) (fun c17_2 => ?_)
    · skip
      refine aw_aload_n X dX5_ifPassed_23 rfl ?_
      refine aw_cVFK (As := []) X hM (c_X5_keepRow (kl K) U _ ma _ hM.1) s_X5_146 k_X5_keepRow (by decide) ⟨rfl, rfl⟩ ⟨Nat.zero_le _, Nat.zero_le _⟩ rfl (by exact Nat.le_of_ble_eq_true rfl) rfl dX5_ifPassed_24 (fun μ z_3 ez_3 hM => ?_)
      have ho1 : ∀ j, j < 100 → z_3 j = m j := fun j hj => by rw [ez_3, xcp_o (by omega)]
      have hivk : IV z_3 := hiv.cg (fun k hk => ho1 k (by omega))
      have h6k : z_3 6 = nI hn := by rw [ho1 6 (by omega)]; exact h6
      have h80k : ∀ i, i < 4 → z_3 (80 + i) = 0 := fun i hi => by rw [ho1 _ (by omega)]; exact h80 i hi
      refine aw_aload_n X dX5_ifPassed_27 rfl ?_
      refine aw_fgetA X hM 0 (t := 0) (b := 0) (n := 80) rfl f_X5_7 dX5_ifPassed_28 ?_
      refine aw_bipush X (9) dX5_ifPassed_31 rfl ?_
      refine aw_fiald X hM 0 (b := 0) (n := 80) rfl 9 (xin_d rfl) (by decide) dX5_ifPassed_33 ?_
      refine aw_istore_n X dX5_ifPassed_34 rfl (by decide) ?_
      refine aw_aload_n X dX5_ifPassed_35 rfl ?_
      refine aw_cVFF (As := []) X hM (c_X5_spoiltInAll (kl K) U _ ma _ hM.1) s_X5_155 k_X5_spoiltInAll (by decide) ⟨rfl, rfl⟩ ⟨Nat.zero_le _, Nat.zero_le _⟩ rfl (by exact Nat.le_of_ble_eq_true rfl) rfl dX5_ifPassed_36 ?_
      refine aw_istore X dX5_ifPassed_39 rfl (by decide) ?_
      refine aw_aload_n X dX5_ifPassed_41 rfl ?_
      refine aw_fgetA X hM 0 (t := 0) (b := 0) (n := 80) rfl f_X5_7 dX5_ifPassed_42 ?_
      refine aw_bipush X (11) dX5_ifPassed_45 rfl ?_
      refine aw_fiald X hM 0 (b := 0) (n := 80) rfl 11 (xin_d rfl) (by decide) dX5_ifPassed_47 ?_
      refine aw_istore X dX5_ifPassed_48 rfl (by decide) ?_
      refine aw_aload_n X dX5_ifPassed_50 rfl ?_
      refine aw_iload_n X dX5_ifPassed_51 rfl ?_
      refine aw_cVFR (As := [.int _]) X hM (c_X5_doPass (kl K) U _ ma _ hM.1 hivk h80k hn h6k hb _ pn ep (by omega)) s_X5_140 k_X5_doPass (by decide) ⟨rfl, rfl⟩ ⟨Nat.zero_le _, Nat.zero_le _⟩ rfl (by exact Nat.le_of_ble_eq_true rfl) rfl dX5_ifPassed_52 (fun μ z_4 ez_4 hM => ?_)
      refine aw_istore X dX5_ifPassed_55 rfl (by decide) ?_
      refine aw_iload_n X dX5_ifPassed_57 rfl ?_
      refine aw_if_ne (tgt := 66) X dX5_ifPassed_58 (by decide) (fun c58_5 => ?_) (fun c58_5 => ?_)
      · skip
        refine aw_iload_n X dX5_ifPassed_66 rfl ?_
        refine aw_iconst X (1) dX5_ifPassed_67 rfl ?_
        refine aw_icmp_ne (tgt := 83) X dX5_ifPassed_68 (by decide) (fun c68_6 => ?_) (fun c68_6 => ?_)
        · skip
          refine aw_iload_n X dX5_ifPassed_83 rfl ?_
          refine aw_iconst X (2) dX5_ifPassed_84 rfl ?_
          refine aw_icmp_ne (tgt := 98) X dX5_ifPassed_85 (by decide) (fun c85_7 => ?_) (fun c85_7 => ?_)
          · skip
            refine aw_aload_n X dX5_ifPassed_98 rfl ?_
            refine aw_fgetA X hM 0 (t := 0) (b := 0) (n := 80) rfl f_X5_7 dX5_ifPassed_99 ?_
            refine aw_bipush X (11) dX5_ifPassed_102 rfl ?_
            refine aw_fiald X hM 0 (b := 0) (n := 80) rfl 11 (xin_d rfl) (by decide) dX5_ifPassed_104 ?_
            refine aw_iload X dX5_ifPassed_105 rfl ?_
            refine aw_isub X dX5_ifPassed_107 ?_
            refine aw_istore X dX5_ifPassed_108 rfl (by decide) ?_
            refine aw_aload_n X dX5_ifPassed_110 rfl ?_
            refine aw_cVFK (As := []) X hM (c_X5_putBack (kl K) U _ ma _ hM.1) s_X5_149 k_X5_putBack (by decide) ⟨rfl, rfl⟩ ⟨Nat.zero_le _, Nat.zero_le _⟩ rfl (by exact Nat.le_of_ble_eq_true rfl) rfl dX5_ifPassed_111 (fun μ z_8 ez_8 hM => ?_)
            refine aw_iload X dX5_ifPassed_114 rfl ?_
            refine aw_iret X hQ dX5_ifPassed_116 ⟨?_, hM.to ?_⟩
            · rw [if_neg (by rw [c8_1, c17_2]; decide), etp, ← ez_3]
              refine congrArg (fun q => some (Value.int q)) (?_)
              subst ez_4
              simp [kIfP, c58_5, c68_6, c85_7]
            · rw [ez_8, if_neg (by rw [c8_1, c17_2]; decide)]
              exact putBack_eq (fun j hj => by rw [ez_4, gHours_o (by omega), ez_3])
          · skip
            refine aw_aload_n X dX5_ifPassed_88 rfl ?_
            refine aw_cVFF (As := []) X hM (c_X5_spoiltInAll (kl K) U _ ma _ hM.1) s_X5_155 k_X5_spoiltInAll (by decide) ⟨rfl, rfl⟩ ⟨Nat.zero_le _, Nat.zero_le _⟩ rfl (by exact Nat.le_of_ble_eq_true rfl) rfl dX5_ifPassed_89 ?_
            refine aw_iload X dX5_ifPassed_92 rfl ?_
            refine aw_isub X dX5_ifPassed_94 ?_
            refine aw_goto (tgt := 108) X dX5_ifPassed_95 (by decide) ?_
            refine aw_istore X dX5_ifPassed_108 rfl (by decide) ?_
            refine aw_aload_n X dX5_ifPassed_110 rfl ?_
            refine aw_cVFK (As := []) X hM (c_X5_putBack (kl K) U _ ma _ hM.1) s_X5_149 k_X5_putBack (by decide) ⟨rfl, rfl⟩ ⟨Nat.zero_le _, Nat.zero_le _⟩ rfl (by exact Nat.le_of_ble_eq_true rfl) rfl dX5_ifPassed_111 (fun μ z_8 ez_8 hM => ?_)
            refine aw_iload X dX5_ifPassed_114 rfl ?_
            refine aw_iret X hQ dX5_ifPassed_116 ⟨?_, hM.to ?_⟩
            · rw [if_neg (by rw [c8_1, c17_2]; decide), etp, ← ez_3]
              refine congrArg (fun q => some (Value.int q)) (?_)
              subst ez_4
              simp [kIfP, c58_5, c68_6, c85_7]
            · rw [ez_8, if_neg (by rw [c8_1, c17_2]; decide)]
              exact putBack_eq (fun j hj => by rw [ez_4, gHours_o (by omega), ez_3])
        · skip
          refine aw_aload_n X dX5_ifPassed_71 rfl ?_
          refine aw_fgetA X hM 0 (t := 0) (b := 0) (n := 80) rfl f_X5_7 dX5_ifPassed_72 ?_
          refine aw_bipush X (9) dX5_ifPassed_75 rfl ?_
          refine aw_fiald X hM 0 (b := 0) (n := 80) rfl 9 (xin_d rfl) (by decide) dX5_ifPassed_77 ?_
          refine aw_iload_n X dX5_ifPassed_78 rfl ?_
          refine aw_isub X dX5_ifPassed_79 ?_
          refine aw_goto (tgt := 108) X dX5_ifPassed_80 (by decide) ?_
          refine aw_istore X dX5_ifPassed_108 rfl (by decide) ?_
          refine aw_aload_n X dX5_ifPassed_110 rfl ?_
          refine aw_cVFK (As := []) X hM (c_X5_putBack (kl K) U _ ma _ hM.1) s_X5_149 k_X5_putBack (by decide) ⟨rfl, rfl⟩ ⟨Nat.zero_le _, Nat.zero_le _⟩ rfl (by exact Nat.le_of_ble_eq_true rfl) rfl dX5_ifPassed_111 (fun μ z_7 ez_7 hM => ?_)
          refine aw_iload X dX5_ifPassed_114 rfl ?_
          refine aw_iret X hQ dX5_ifPassed_116 ⟨?_, hM.to ?_⟩
          · rw [if_neg (by rw [c8_1, c17_2]; decide), etp, ← ez_3]
            refine congrArg (fun q => some (Value.int q)) (?_)
            subst ez_4
            simp [kIfP, c58_5, c68_6]
          · rw [ez_7, if_neg (by rw [c8_1, c17_2]; decide)]
            exact putBack_eq (fun j hj => by rw [ez_4, gHours_o (by omega), ez_3])
      · skip
        refine aw_iload X dX5_ifPassed_61 rfl ?_
        refine aw_goto (tgt := 108) X dX5_ifPassed_63 (by decide) ?_
        refine aw_istore X dX5_ifPassed_108 rfl (by decide) ?_
        refine aw_aload_n X dX5_ifPassed_110 rfl ?_
        refine aw_cVFK (As := []) X hM (c_X5_putBack (kl K) U _ ma _ hM.1) s_X5_149 k_X5_putBack (by decide) ⟨rfl, rfl⟩ ⟨Nat.zero_le _, Nat.zero_le _⟩ rfl (by exact Nat.le_of_ble_eq_true rfl) rfl dX5_ifPassed_111 (fun μ z_6 ez_6 hM => ?_)
        refine aw_iload X dX5_ifPassed_114 rfl ?_
        refine aw_iret X hQ dX5_ifPassed_116 ⟨?_, hM.to ?_⟩
        · rw [if_neg (by rw [c8_1, c17_2]; decide), etp, ← ez_3]
          refine congrArg (fun q => some (Value.int q)) (?_)
          subst ez_4
          simp [kIfP, c58_5]
        · rw [ez_6, if_neg (by rw [c8_1, c17_2]; decide)]
          exact putBack_eq (fun j hj => by rw [ez_4, gHours_o (by omega), ez_3])
    · skip
      refine aw_ldc X dX5_ifPassed_20 a_X5_99 ?_
      exact aw_iret X hQ dX5_ifPassed_22 ⟨congrArg (fun q => some (Value.int q)) (by simp [c8_1, c17_2]), hM.to (by simp [c8_1, c17_2])⟩

def kSaf (m : xV) (h : Int32) : Int32 := if isG h = false then -100001 else if isG (m (hz (tn h) 2)) = false then -100005 else if nI (sfN (upd (xcp m 100 0 80) (hz (tn h) 0) (m (hz (tn h) 0))) (tn h)) = 200 then -100006 else nI (sfN (upd (xcp m 100 0 80) (hz (tn h) 0) (m (hz (tn h) 0))) (tn h))
set_option maxHeartbeats 1000000 in
set_option maxRecDepth 100000 in
theorem c_X5_safeFor (l : Launch) (U : xU) (μ0 : xH) (ma : Nat → Nat) (m : xV) (hM0 : FRep U μ0 ma 5 FM m) (hiv : IV m) (h80 : ∀ i, i < 4 → m (80 + i) = 0) (hn : Nat) (h6 : m 6 = nI hn) (hb : hn ≤ 9999) (h : Int32) : CtFR l U yX5_safeFor cX5_safeFor 3 (some .int) ({ frames := 6, cells := 0, slots := 0, locals := 137 } : Room) [.ref (ma 0), .int h] μ0 ma 5 FM (kSaf m h) (if isG h = false ∨ isG (m (hz (tn h) 2)) = false then m else xcp m 100 0 80) := by
  refine Ct.of [some (.ref (ma 0)), some (.int h), none] (by decide +kernel) rfl (Nat.le_of_ble_eq_true rfl) (fun K Q X hnm hQ => ?_)
  obtain ⟨μ, hμ, hM⟩ : ∃ μ : xH, μ0 = μ ∧ FR U μ0 μ ma 5 FM m := ⟨μ0, rfl, FR.rf hM0⟩
  refine aw_mu hμ ?_
  refine aw_iload_n X dX5_safeFor_0 rfl ?_
  refine aw_cSF (As := [.int _]) X (c_X5_isHose (kl K) U _ _) s_X5_112 k_X5_isHose (by decide) ⟨rfl, rfl⟩ ⟨Nat.zero_le _, Nat.zero_le _⟩ rfl (by exact Nat.le_of_ble_eq_true rfl) dX5_safeFor_1 ?_
  refine aw_b_ne (tgt := 10) X dX5_safeFor_4 (by decide) (fun c4_1 => ?_) (fun c4_1 => ?_)
  · skip
    refine aw_aload_n X dX5_safeFor_10 rfl ?_
    refine aw_iload_n X dX5_safeFor_11 rfl ?_
    refine aw_cVFF (As := [.int _]) X hM (c_X5_isConnected (kl K) U _ ma _ hM.1 _ (tn h) (isG_hv c4_1) (isG_tn c4_1) ((hiv.2.2.2.2.2.2.1 (tn h) (isG_tn c4_1)).2.2.1)) s_X5_66 k_X5_isConnected (by decide) ⟨rfl, rfl⟩ ⟨Nat.zero_le _, Nat.zero_le _⟩ rfl (by exact Nat.le_of_ble_eq_true rfl) rfl dX5_safeFor_12 ?_
    refine aw_b_ne (tgt := 21) X dX5_safeFor_15 (by decide) (fun c15_2 => ?_) (fun c15_2 => ?_)
    · skip
      refine aw_aload_n X dX5_safeFor_21 rfl ?_
      refine aw_iload_n X dX5_safeFor_22 rfl ?_
      refine aw_aload_n X dX5_safeFor_23 rfl ?_
      refine aw_iload_n X dX5_safeFor_24 rfl ?_
      refine aw_iconst X (0) dX5_safeFor_25 rfl ?_
      refine aw_cVFF (As := [.int _, .int _]) X hM (c_X5_hoseOf (kl K) U _ ma _ hM.1 _ _ (tn h) 0 (isG_hv c4_1) rfl (isG_tn c4_1) (by decide)) s_X5_63 k_X5_hoseOf (by decide) ⟨rfl, rfl⟩ ⟨Nat.zero_le _, Nat.zero_le _⟩ rfl (by exact Nat.le_of_ble_eq_true rfl) rfl dX5_safeFor_26 ?_
      refine aw_cVFR (As := [.int _, .int _]) X hM (c_X5_safeHours (kl K) U _ ma _ hM.1 hiv h80 hn h6 hb _ _ _ (isG_hv c4_1) (isG_tn c4_1) (hiv.2.2.2.2.2.2.1 _ (isG_tn c4_1)).1) s_X5_152 k_X5_safeHours (by decide) ⟨rfl, rfl⟩ ⟨Nat.zero_le _, Nat.zero_le _⟩ rfl (by exact Nat.le_of_ble_eq_true rfl) rfl dX5_safeFor_29 (fun μ z_3 ez_3 hM => ?_)
      refine aw_istore_n X dX5_safeFor_32 rfl (by decide) ?_
      refine aw_iload_n X dX5_safeFor_33 rfl ?_
      refine aw_sipush X (200) dX5_safeFor_34 rfl ?_
      refine aw_icmp_ne (tgt := 45) X dX5_safeFor_37 (by decide) (fun c37_4 => ?_) (fun c37_4 => ?_)
      · skip
        refine aw_iload_n X dX5_safeFor_45 rfl ?_
        exact aw_iret X hQ dX5_safeFor_46 ⟨congrArg (fun q => some (Value.int q)) (by simp [kSaf, c4_1, c15_2, c37_4]), hM.to (by rw [ez_3]; simp [c4_1, c15_2, c37_4])⟩
      · skip
        refine aw_ldc X dX5_safeFor_40 a_X5_36 ?_
        refine aw_goto (tgt := 46) X dX5_safeFor_42 (by decide) ?_
        exact aw_iret X hQ dX5_safeFor_46 ⟨congrArg (fun q => some (Value.int q)) (by simp [kSaf, c4_1, c15_2, c37_4]), hM.to (by rw [ez_3]; simp [c4_1, c15_2, c37_4])⟩
    · skip
      refine aw_ldc X dX5_safeFor_18 a_X5_108 ?_
      exact aw_iret X hQ dX5_safeFor_20 ⟨congrArg (fun q => some (Value.int q)) (by simp [kSaf, c4_1, c15_2]), hM.to (by simp [c4_1, c15_2])⟩
  · skip
    refine aw_ldc X dX5_safeFor_7 a_X5_115 ?_
    exact aw_iret X hQ dX5_safeFor_9 ⟨congrArg (fun q => some (Value.int q)) (by simp [kSaf, c4_1]), hM.to (by simp [c4_1])⟩

theorem xcp_k {m : xV} (k : Nat) : xcp (if k = 0 then m else xcp m 100 0 80) 100 0 80 = xcp m 100 0 80 := by
  by_cases h : k = 0
  · rw [if_pos h]
  · rw [if_neg h]
    funext j
    by_cases c : 100 ≤ j ∧ j < 180
    · obtain ⟨q, rfl⟩ : ∃ q, j = 100 + q := ⟨j - 100, by omega⟩
      rw [xcp_i (by omega), xcp_i (by omega), xcp_o (by omega)]
    · rw [xcp_o (by omega)]
def lrG (m : xV) (i : Nat) : Nat := ff (fun r => decide (sfN (upd (xcp m 100 0 80) (hz i 0) (nI r)) i = 200)) 101 20
def kLst (m : xV) (h : Int32) : Int32 := if isG h = false then -100001 else if isG (m (hz (tn h) 2)) = false then -100005 else if lrG m (tn h) = 121 then -100006 else nI (lrG m (tn h))
theorem xcp_kj {m : xV} (k j : Nat) (hj : j < 100) : (if k = 0 then m else xcp m 100 0 80) j = m j := by
  split
  · rfl
  · exact xcp_o (by omega)
set_option maxHeartbeats 1000000 in
set_option maxRecDepth 100000 in
theorem c_X5_leastReach (l : Launch) (U : xU) (μ0 : xH) (ma : Nat → Nat) (m : xV) (hM0 : FRep U μ0 ma 5 FM m) (hiv : IV m) (h80 : ∀ i, i < 4 → m (80 + i) = 0) (hn : Nat) (h6 : m 6 = nI hn) (hb : hn ≤ 9999) (h : Int32) : CtFR l U yX5_leastReach cX5_leastReach 4 (some .int) ({ frames := 6, cells := 0, slots := 0, locals := 137 } : Room) [.ref (ma 0), .int h] μ0 ma 5 FM (kLst m h) (if isG h = false ∨ isG (m (hz (tn h) 2)) = false then m else xcp m 100 0 80) := by
  refine Ct.of [some (.ref (ma 0)), some (.int h), none, none] (by decide +kernel) rfl (Nat.le_of_ble_eq_true rfl) (fun K Q X hnm hQ => ?_)
  obtain ⟨μ, hμ, hM⟩ : ∃ μ : xH, μ0 = μ ∧ FR U μ0 μ ma 5 FM m := ⟨μ0, rfl, FR.rf hM0⟩
  refine aw_mu hμ ?_
  refine aw_iload_n X dX5_leastReach_0 rfl ?_
  refine aw_cSF (As := [.int _]) X (c_X5_isHose (kl K) U _ _) s_X5_112 k_X5_isHose (by decide) ⟨rfl, rfl⟩ ⟨Nat.zero_le _, Nat.zero_le _⟩ rfl (by exact Nat.le_of_ble_eq_true rfl) dX5_leastReach_1 ?_
  refine aw_b_ne (tgt := 10) X dX5_leastReach_4 (by decide) (fun c4_1 => ?_) (fun c4_1 => ?_)
  · skip
    refine aw_aload_n X dX5_leastReach_10 rfl ?_
    refine aw_iload_n X dX5_leastReach_11 rfl ?_
    refine aw_cVFF (As := [.int _]) X hM (c_X5_isConnected (kl K) U _ ma _ hM.1 _ (tn h) (isG_hv c4_1) (isG_tn c4_1) ((hiv.2.2.2.2.2.2.1 (tn h) (isG_tn c4_1)).2.2.1)) s_X5_66 k_X5_isConnected (by decide) ⟨rfl, rfl⟩ ⟨Nat.zero_le _, Nat.zero_le _⟩ rfl (by exact Nat.le_of_ble_eq_true rfl) rfl dX5_leastReach_12 ?_
    refine aw_b_ne (tgt := 21) X dX5_leastReach_15 (by decide) (fun c15_2 => ?_) (fun c15_2 => ?_)
    · skip
      refine aw_ldc X dX5_leastReach_21 a_X5_36 ?_
      refine aw_istore_n X dX5_leastReach_23 rfl (by decide) ?_
      refine aw_bipush X (20) dX5_leastReach_24 rfl ?_
      refine aw_istore_n X dX5_leastReach_26 rfl (by decide) ?_
      have hh4 : tn h < 4 := isG_tn c4_1
      have loop : ∀ (d : Nat) (k : Nat) (μ : xH) (zc : xV), k + d = 101 → ff (fun r => decide (sfN (upd (xcp m 100 0 80) (hz (tn h) 0) (nI r)) (tn h) = 200)) d (20 + k) = lrG m (tn h) → zc = (if k = 0 then m else xcp m 100 0 80) → FR U μ0 μ ma 5 FM zc →AW U K 4 0 0 Q μ 27 [some (.ref (ma 0)), some (.int h), some (.int (-100006)), some (.int (nI (20 + k)))] [] := by
        intro d
        induction d with
        | zero =>
          intro k μ zc hkd hR ezc hM
          obtain rfl : k = 101 := by omega
          refine aw_iload_n X dX5_leastReach_27 rfl ?_
          refine aw_bipush X (120) dX5_leastReach_28 rfl ?_
          refine aw_icmp_gt_t (tgt := 61) X dX5_leastReach_30 (by decide) (by decide) ?_
          refine aw_iload_n X dX5_leastReach_61 rfl ?_
          exact aw_iret X hQ dX5_leastReach_62 ⟨congrArg (fun q => some (Value.int q)) (by unfold kLst; rw [if_neg (by rw [c4_1]; decide), if_neg (by rw [c15_2]; decide), ← hR]; rfl), hM.to (by rw [ezc]; simp [c4_1, c15_2])⟩
        | succ d ih =>
          intro k μ zc hkd hR ezc hM
          have hk2 : k < 101 := by omega
          refine aw_iload_n X dX5_leastReach_27 rfl ?_
          refine aw_bipush X (120) dX5_leastReach_28 rfl ?_
          refine aw_icmp_gt_f (tgt := 61) X dX5_leastReach_30 (by decide) (Int32.not_lt.mpr (nI_le (a := 20 + k) (b := 120) (by omega) (by decide))) ?_
          refine aw_iload_n X dX5_leastReach_33 rfl ?_
          refine aw_if_ge_f (tgt := 61) X dX5_leastReach_34 (by decide) (by decide) ?_
          have hoc : ∀ j, j < 100 → zc j = m j := fun j hj => by rw [ezc]; exact xcp_kj k j hj
          have hivc : IV zc := hiv.cg (fun k hk => hoc k (by omega))
          have h6c : zc 6 = nI hn := by rw [hoc 6 (by omega)]; exact h6
          have h80c : ∀ i, i < 4 → zc (80 + i) = 0 := fun i hi => by rw [hoc _ (by omega)]; exact h80 i hi
          have hrr : rg (nI (20 + k)) 20 120 := rgM (lo := 20) (hi := 120) (by omega) (by omega) (by decide)
          refine aw_aload_n X dX5_leastReach_37 rfl ?_
          refine aw_iload_n X dX5_leastReach_38 rfl ?_
          refine aw_iload_n X dX5_leastReach_39 rfl ?_
          refine aw_cVFR (As := [.int _, .int _]) X hM (c_X5_safeHours (kl K) U _ ma _ hM.1 hivc h80c hn h6c hb _ _ _ (isG_hv c4_1) (isG_tn c4_1) hrr) s_X5_152 k_X5_safeHours (by decide) ⟨rfl, rfl⟩ ⟨Nat.zero_le _, Nat.zero_le _⟩ rfl (by exact Nat.le_of_ble_eq_true rfl) rfl dX5_leastReach_40 (fun μ z_3 ez_3 hM => ?_)
          refine aw_top (nI (sfN (upd (xcp m 100 0 80) (hz (tn h) 0) (nI (20 + k))) (tn h))) (by rw [ezc, xcp_k]) ?_
          refine aw_sipush X (200) dX5_leastReach_43 rfl ?_
          refine aw_icmp_ne (tgt := 53) X dX5_leastReach_46 (by decide) (fun c46_4 => ?_) (fun c46_4 => ?_)
          · skip
            refine aw_iload_n X dX5_leastReach_53 rfl ?_
            refine aw_istore_n X dX5_leastReach_54 rfl (by decide) ?_
            refine aw_iinc X (1) dX5_leastReach_55 rfl rfl rfl (by decide) ?_
            refine aw_goto (tgt := 27) X dX5_leastReach_58 (by decide) ?_
            rw [ff, if_neg (by rw [decide_eq_true_iff]; intro q; exact c46_4 (by rw [q]; rfl))] at hR
            refine aw_sub [some (.ref (ma 0)), some (.int h), some (.int (-100006)), some (.int (nI (20 + (k + 1))))] ⟨rfl, rfl, rfl, congrArg (fun q => some (Value.int q)) (nI_1 (20 + k)), trivial⟩ ?_
            exact ih (k + 1) μ _ (by omega) hR (by rw [ez_3, ezc, xcp_k, if_neg (by omega)]) hM
          · skip
            refine aw_iload_n X dX5_leastReach_49 rfl ?_
            refine aw_goto (tgt := 54) X dX5_leastReach_50 (by decide) ?_
            refine aw_istore_n X dX5_leastReach_54 rfl (by decide) ?_
            refine aw_iinc X (1) dX5_leastReach_55 rfl rfl rfl (by decide) ?_
            refine aw_goto (tgt := 27) X dX5_leastReach_58 (by decide) ?_
            rw [ff, if_pos (by rw [decide_eq_true_iff]; exact (nI_eq (Nat.lt_of_le_of_lt (sfN_le _ _) (by decide)) (by decide)).mp c46_4)] at hR
            refine aw_iload_n X dX5_leastReach_27 rfl ?_
            refine aw_bipush X (120) dX5_leastReach_28 rfl ?_
            refine aw_icmp_gt (tgt := 61) X dX5_leastReach_30 (by decide) (fun c30_5 => ?_) (fun c30_5 => ?_)
            · skip
              refine aw_iload_n X dX5_leastReach_61 rfl ?_
              exact aw_iret X hQ dX5_leastReach_62 ⟨congrArg (fun q => some (Value.int q)) (by unfold kLst; rw [if_neg (by rw [c4_1]; decide), if_neg (by rw [c15_2]; decide), ← hR, if_neg (by omega)]), hM.to (by rw [ez_3, ezc, xcp_k]; simp [c4_1, c15_2])⟩
            · skip
              refine aw_iload_n X dX5_leastReach_33 rfl ?_
              refine aw_if_ge_t (tgt := 61) X dX5_leastReach_34 (by decide) (nI_pos' (by omega)) ?_
              refine aw_iload_n X dX5_leastReach_61 rfl ?_
              exact aw_iret X hQ dX5_leastReach_62 ⟨congrArg (fun q => some (Value.int q)) (by unfold kLst; rw [if_neg (by rw [c4_1]; decide), if_neg (by rw [c15_2]; decide), ← hR, if_neg (by omega)]), hM.to (by rw [ez_3, ezc, xcp_k]; simp [c4_1, c15_2])⟩
      refine aw_sub [some (.ref (ma 0)), some (.int h), some (.int (-100006)), some (.int (nI (20 + 0)))] ⟨rfl, rfl, rfl, rfl, trivial⟩ ?_
      exact loop 101 0 μ _ (by omega) rfl rfl hM
    · skip
      refine aw_ldc X dX5_leastReach_18 a_X5_108 ?_
      exact aw_iret X hQ dX5_leastReach_20 ⟨congrArg (fun q => some (Value.int q)) (by simp [kLst, c4_1, c15_2]), hM.to (by simp [c4_1, c15_2])⟩
  · skip
    refine aw_ldc X dX5_leastReach_7 a_X5_115 ?_
    exact aw_iret X hQ dX5_leastReach_9 ⟨congrArg (fun q => some (Value.int q)) (by simp [kLst, c4_1]), hM.to (by simp [c4_1])⟩
