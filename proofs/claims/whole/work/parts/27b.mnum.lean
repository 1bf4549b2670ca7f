set_option maxHeartbeats 200000 in
set_option maxRecDepth 100000 in
theorem c_X5_readNumber (l : Launch) (U : xU) (μ0 : xH) (ma : Nat → Nat) (m : xV) (hM0 : FRep U μ0 ma 5 FM m) (n a : Nat) (hp : patM m n a) (most : Int32) : CtFK l U yX5_readNumber cX5_readNumber 2 none ({ frames := 2, cells := 0, slots := 0, locals := 44 } : Room) [.ref (ma 0), .int most] μ0 ma 5 FM (mNr m n a most) := by
  refine Ct.of [some (.ref (ma 0)), some (.int most)] (by decide +kernel) rfl (Nat.le_of_ble_eq_true rfl) (fun K Q X hnm hQ => ?_)
  obtain ⟨μ, hμ, hM⟩ : ∃ μ : xH, μ0 = μ ∧ FR U μ0 μ ma 5 FM m := ⟨μ0, rfl, FR.rf hM0⟩
  refine aw_mu hμ ?_
  refine aw_aload_n X dX5_readNumber_0 rfl ?_
  refine aw_iconst X (0) dX5_readNumber_1 rfl ?_
  refine aw_fput X FM_a hM 11 (b := 945) (n := 0) rfl f_X5_170 rfl (by decide +kernel) dX5_readNumber_2 (fun μ z_1 ez_1 hM => ?_)
  have hpz_1 : patM z_1 n (a) := by rw [ez_1]; exact patM_up (hp) (by omega) (by omega)
  have htz_1 : ∀ j, tM z_1 n j = tM m n j := fun j => (show tM z_1 n j = tM m n j by rw [ez_1]; exact tM_up (hp).2.2.1 (by omega)).trans ((fun _ => rfl) j)
  have hz0 : z_1 = upd (upd m 945 0) 942 (nI a) := by rw [ez_1]; exact upd_id (by rw [upd_n (by decide)]; exact hp.2.1)
  have loop : ∀ (d : Nat) (b : Nat) (num : Int32) (μ : xH) (zc : xV), b + d = n → mN (tM m n) (m 943) most d b num = mNq m n a most → zc = upd (upd m 945 num) 942 (nI b) → FR U μ0 μ ma 5 FM zc →AW U K 2 0 0 Q μ 5 [some (.ref (ma 0)), some (.int most)] [] := by
    intro d
    induction d with
    | zero =>
      intro b num μ zc hbd hR ezc hM
      have hb60 := hp.2.2.1
      have hpc : patM zc n b := by rw [ezc]; exact patM_at (patM_up hp (by decide) (by decide)) (by omega)
      have htc : ∀ j, tM zc n j = tM m n j := fun j => by rw [ezc, tM_up hb60 (by omega), tM_up hb60 (by omega)]
      have hwc : zc 943 = m 943 := by rw [ezc, upd_n (by decide), upd_n (by decide)]
      have hnc : zc 945 = num := by rw [ezc, upd_n (by decide), upd_s]
      have hbn : b = n := by omega
      refine aw_aload_n X dX5_readNumber_5 rfl ?_
      refine aw_aload_n X dX5_readNumber_6 rfl ?_
      refine aw_fgetI X hM 11 (t := 0) (b := 945) (n := 0) rfl f_X5_170 dX5_readNumber_7 ?_
      refine aw_top num hnc ?_
      refine aw_if_ne (tgt := 18) X dX5_readNumber_10 (by decide) (fun c10_2 => ?_) (fun c10_2 => ?_)
      · skip
        refine aw_bipush X (48) dX5_readNumber_18 rfl ?_
        refine aw_bipush X (57) dX5_readNumber_20 rfl ?_
        refine aw_cVFF (As := [.int _, .int _]) X hM (c_X5_isNext (kl K) U _ ma _ hM.1 _ _ n (b) hpc) s_X5_173 k_X5_isNext (by decide) ⟨rfl, rfl⟩ ⟨Nat.zero_le _, Nat.zero_le _⟩ rfl (by exact Nat.le_of_ble_eq_true rfl) rfl dX5_readNumber_22 ?_
        refine aw_top (bI (decide (m 943 = 0) && inB (tM m n (b)) (48 : Int32) (57 : Int32))) (by rw [htc _, hwc]) ?_
        refine aw_b_eq (tgt := 79) X dX5_readNumber_25 (by decide) (fun c25_3 => ?_) (fun c25_3 => ?_)
        · skip
          refine aw_aload_n X dX5_readNumber_79 rfl ?_
          refine aw_aload_n X dX5_readNumber_80 rfl ?_
          refine aw_fgetI X hM 9 (t := 1) (b := 943) (n := 0) rfl f_X5_163 dX5_readNumber_81 ?_
          refine aw_if_ne (tgt := 94) X dX5_readNumber_84 (by decide) (fun c84_4 => ?_) (fun c84_4 => ?_)
          · skip
            refine aw_iconst X (1) dX5_readNumber_94 rfl ?_
            refine aw_goto (tgt := 99) X dX5_readNumber_95 (by decide) ?_
            refine aw_fputZ X FM_a hM 9 (b := 943) (n := 0) rfl ((by decide)) f_X5_163 rfl (by decide +kernel) dX5_readNumber_99 (fun μ z_5 ez_5 hM => ?_)
            have hpz_5 : patM z_5 n (b) := by rw [ez_5]; exact patM_up (hpc) (by omega) (by omega)
            have htz_5 : ∀ j, tM z_5 n j = tM m n j := fun j => (show tM z_5 n j = tM zc n j by rw [ez_5]; exact tM_up (hpc).2.2.1 (by omega)).trans (htc j)
            have hR1 : (mNq m n a most).1 = num := by rw [← hR]; rfl
            have hR2 : (mNq m n a most).2 = b := by rw [← hR]; rfl
            refine aw_vret X hQ dX5_readNumber_102 ⟨rfl, hM.to ?_⟩
            rw [ez_5, ezc, mNr, hR1, hR2]
            rw [hwc] at c84_4
            simp [c84_4]
          · skip
            refine aw_aload_n X dX5_readNumber_87 rfl ?_
            refine aw_fgetI X hM 11 (t := 0) (b := 945) (n := 0) rfl f_X5_170 dX5_readNumber_88 ?_
            refine aw_top num hnc ?_
            refine aw_if_ne (tgt := 98) X dX5_readNumber_91 (by decide) (fun c91_5 => ?_) (fun c91_5 => ?_)
            · skip
              refine aw_iconst X (0) dX5_readNumber_98 rfl ?_
              refine aw_fputZ X FM_a hM 9 (b := 943) (n := 0) rfl ((by decide)) f_X5_163 rfl (by decide +kernel) dX5_readNumber_99 (fun μ z_6 ez_6 hM => ?_)
              have hpz_6 : patM z_6 n (b) := by rw [ez_6]; exact patM_up (hpc) (by omega) (by omega)
              have htz_6 : ∀ j, tM z_6 n j = tM m n j := fun j => (show tM z_6 n j = tM zc n j by rw [ez_6]; exact tM_up (hpc).2.2.1 (by omega)).trans (htc j)
              have hR1 : (mNq m n a most).1 = num := by rw [← hR]; rfl
              have hR2 : (mNq m n a most).2 = b := by rw [← hR]; rfl
              refine aw_vret X hQ dX5_readNumber_102 ⟨rfl, hM.to ?_⟩
              rw [ez_6, ezc, mNr, hR1, hR2]
              rw [hwc] at c84_4
              simp [c84_4, c91_5]
            · skip
              refine aw_iconst X (1) dX5_readNumber_94 rfl ?_
              refine aw_goto (tgt := 99) X dX5_readNumber_95 (by decide) ?_
              refine aw_fputZ X FM_a hM 9 (b := 943) (n := 0) rfl ((by decide)) f_X5_163 rfl (by decide +kernel) dX5_readNumber_99 (fun μ z_6 ez_6 hM => ?_)
              have hpz_6 : patM z_6 n (b) := by rw [ez_6]; exact patM_up (hpc) (by omega) (by omega)
              have htz_6 : ∀ j, tM z_6 n j = tM m n j := fun j => (show tM z_6 n j = tM zc n j by rw [ez_6]; exact tM_up (hpc).2.2.1 (by omega)).trans (htc j)
              have hR1 : (mNq m n a most).1 = num := by rw [← hR]; rfl
              have hR2 : (mNq m n a most).2 = b := by rw [← hR]; rfl
              refine aw_vret X hQ dX5_readNumber_102 ⟨rfl, hM.to ?_⟩
              rw [ez_6, ezc, mNr, hR1, hR2]
              rw [hwc] at c84_4
              simp [c84_4, c91_5]
        · skip
          have hlt : b < n := inB_lt (m := m) (by have q := c25_3; simp only [Bool.and_eq_true] at q; exact q.2) (by decide)
          refine aw_bipush X (10) dX5_readNumber_28 rfl ?_
          refine aw_aload_n X dX5_readNumber_30 rfl ?_
          refine aw_fgetI X hM 11 (t := 0) (b := 945) (n := 0) rfl f_X5_170 dX5_readNumber_31 ?_
          refine aw_top num hnc ?_
          refine aw_imul X dX5_readNumber_34 ?_
          refine aw_aload_n X dX5_readNumber_35 rfl ?_
          refine aw_cVFF (As := []) X hM (c_X5_sign (kl K) U _ ma _ hM.1 n (b) hpc) s_X5_167 k_X5_sign (by decide) ⟨rfl, rfl⟩ ⟨Nat.zero_le _, Nat.zero_le _⟩ rfl (by exact Nat.le_of_ble_eq_true rfl) rfl dX5_readNumber_36 ?_
          refine aw_top ((tM m n (b))) (htc _) ?_
          refine aw_iadd X dX5_readNumber_39 ?_
          refine aw_bipush X (48) dX5_readNumber_40 rfl ?_
          refine aw_isub X dX5_readNumber_42 ?_
          refine aw_iload_n X dX5_readNumber_43 rfl ?_
          refine aw_icmp_gt (tgt := 79) X dX5_readNumber_44 (by decide) (fun c44_4 => ?_) (fun c44_4 => ?_)
          · skip
            refine aw_aload_n X dX5_readNumber_79 rfl ?_
            refine aw_aload_n X dX5_readNumber_80 rfl ?_
            refine aw_fgetI X hM 9 (t := 1) (b := 943) (n := 0) rfl f_X5_163 dX5_readNumber_81 ?_
            refine aw_if_ne (tgt := 94) X dX5_readNumber_84 (by decide) (fun c84_5 => ?_) (fun c84_5 => ?_)
            · skip
              refine aw_iconst X (1) dX5_readNumber_94 rfl ?_
              refine aw_goto (tgt := 99) X dX5_readNumber_95 (by decide) ?_
              refine aw_fputZ X FM_a hM 9 (b := 943) (n := 0) rfl ((by decide)) f_X5_163 rfl (by decide +kernel) dX5_readNumber_99 (fun μ z_6 ez_6 hM => ?_)
              have hpz_6 : patM z_6 n (b) := by rw [ez_6]; exact patM_up (hpc) (by omega) (by omega)
              have htz_6 : ∀ j, tM z_6 n j = tM m n j := fun j => (show tM z_6 n j = tM zc n j by rw [ez_6]; exact tM_up (hpc).2.2.1 (by omega)).trans (htc j)
              rw [hbn, tM_n] at c25_3
              simp [inB] at c25_3
            · skip
              refine aw_aload_n X dX5_readNumber_87 rfl ?_
              refine aw_fgetI X hM 11 (t := 0) (b := 945) (n := 0) rfl f_X5_170 dX5_readNumber_88 ?_
              refine aw_top num hnc ?_
              refine aw_if_ne (tgt := 98) X dX5_readNumber_91 (by decide) (fun c91_6 => ?_) (fun c91_6 => ?_)
              · skip
                refine aw_iconst X (0) dX5_readNumber_98 rfl ?_
                refine aw_fputZ X FM_a hM 9 (b := 943) (n := 0) rfl ((by decide)) f_X5_163 rfl (by decide +kernel) dX5_readNumber_99 (fun μ z_7 ez_7 hM => ?_)
                have hpz_7 : patM z_7 n (b) := by rw [ez_7]; exact patM_up (hpc) (by omega) (by omega)
                have htz_7 : ∀ j, tM z_7 n j = tM m n j := fun j => (show tM z_7 n j = tM zc n j by rw [ez_7]; exact tM_up (hpc).2.2.1 (by omega)).trans (htc j)
                rw [hbn, tM_n] at c25_3
                simp [inB] at c25_3
              · skip
                refine aw_iconst X (1) dX5_readNumber_94 rfl ?_
                refine aw_goto (tgt := 99) X dX5_readNumber_95 (by decide) ?_
                refine aw_fputZ X FM_a hM 9 (b := 943) (n := 0) rfl ((by decide)) f_X5_163 rfl (by decide +kernel) dX5_readNumber_99 (fun μ z_7 ez_7 hM => ?_)
                have hpz_7 : patM z_7 n (b) := by rw [ez_7]; exact patM_up (hpc) (by omega) (by omega)
                have htz_7 : ∀ j, tM z_7 n j = tM m n j := fun j => (show tM z_7 n j = tM zc n j by rw [ez_7]; exact tM_up (hpc).2.2.1 (by omega)).trans (htc j)
                rw [hbn, tM_n] at c25_3
                simp [inB] at c25_3
          · skip
            refine aw_aload_n X dX5_readNumber_47 rfl ?_
            refine aw_bipush X (10) dX5_readNumber_48 rfl ?_
            refine aw_aload_n X dX5_readNumber_50 rfl ?_
            refine aw_fgetI X hM 11 (t := 0) (b := 945) (n := 0) rfl f_X5_170 dX5_readNumber_51 ?_
            refine aw_top num hnc ?_
            refine aw_imul X dX5_readNumber_54 ?_
            refine aw_aload_n X dX5_readNumber_55 rfl ?_
            refine aw_cVFF (As := []) X hM (c_X5_sign (kl K) U _ ma _ hM.1 n (b) hpc) s_X5_167 k_X5_sign (by decide) ⟨rfl, rfl⟩ ⟨Nat.zero_le _, Nat.zero_le _⟩ rfl (by exact Nat.le_of_ble_eq_true rfl) rfl dX5_readNumber_56 ?_
            refine aw_top ((tM m n (b))) (htc _) ?_
            refine aw_iadd X dX5_readNumber_59 ?_
            refine aw_bipush X (48) dX5_readNumber_60 rfl ?_
            refine aw_isub X dX5_readNumber_62 ?_
            refine aw_fput X FM_a hM 11 (b := 945) (n := 0) rfl f_X5_170 rfl (by decide +kernel) dX5_readNumber_63 (fun μ z_5 ez_5 hM => ?_)
            have hpz_5 : patM z_5 n (b) := by rw [ez_5]; exact patM_up (hpc) (by omega) (by omega)
            have htz_5 : ∀ j, tM z_5 n j = tM m n j := fun j => (show tM z_5 n j = tM zc n j by rw [ez_5]; exact tM_up (hpc).2.2.1 (by omega)).trans (htc j)
            refine aw_aload_n X dX5_readNumber_66 rfl ?_
            refine aw_dup X dX5_readNumber_67 rfl ?_
            refine aw_fgetI X hM 8 (t := 0) (b := 942) (n := 0) rfl f_X5_160 dX5_readNumber_68 ?_
            refine aw_iconst X (1) dX5_readNumber_71 rfl ?_
            refine aw_iadd X dX5_readNumber_72 ?_
            refine aw_top (nI (b + 1)) (by rw [(hpz_5).2.1]; exact nI_1 _) ?_
            refine aw_fput X FM_a hM 8 (b := 942) (n := 0) rfl f_X5_160 rfl (by decide +kernel) dX5_readNumber_73 (fun μ z_6 ez_6 hM => ?_)
            have hpz_6 : patM z_6 n (b + 1) := by rw [ez_6]; exact patM_at (hpz_5) (by omega)
            have htz_6 : ∀ j, tM z_6 n j = tM m n j := fun j => (show tM z_6 n j = tM z_5 n j by rw [ez_6]; exact tM_up (hpz_5).2.2.1 (by omega)).trans (htz_5 j)
            refine aw_goto (tgt := 5) X dX5_readNumber_76 (by decide) ?_
            rw [hbn, tM_n] at c25_3
            simp [inB] at c25_3
      · skip
        refine aw_bipush X (49) dX5_readNumber_13 rfl ?_
        refine aw_goto (tgt := 20) X dX5_readNumber_15 (by decide) ?_
        refine aw_bipush X (57) dX5_readNumber_20 rfl ?_
        refine aw_cVFF (As := [.int _, .int _]) X hM (c_X5_isNext (kl K) U _ ma _ hM.1 _ _ n (b) hpc) s_X5_173 k_X5_isNext (by decide) ⟨rfl, rfl⟩ ⟨Nat.zero_le _, Nat.zero_le _⟩ rfl (by exact Nat.le_of_ble_eq_true rfl) rfl dX5_readNumber_22 ?_
        refine aw_top (bI (decide (m 943 = 0) && inB (tM m n (b)) (49 : Int32) (57 : Int32))) (by rw [htc _, hwc]) ?_
        refine aw_b_eq (tgt := 79) X dX5_readNumber_25 (by decide) (fun c25_3 => ?_) (fun c25_3 => ?_)
        · skip
          refine aw_aload_n X dX5_readNumber_79 rfl ?_
          refine aw_aload_n X dX5_readNumber_80 rfl ?_
          refine aw_fgetI X hM 9 (t := 1) (b := 943) (n := 0) rfl f_X5_163 dX5_readNumber_81 ?_
          refine aw_if_ne (tgt := 94) X dX5_readNumber_84 (by decide) (fun c84_4 => ?_) (fun c84_4 => ?_)
          · skip
            refine aw_iconst X (1) dX5_readNumber_94 rfl ?_
            refine aw_goto (tgt := 99) X dX5_readNumber_95 (by decide) ?_
            refine aw_fputZ X FM_a hM 9 (b := 943) (n := 0) rfl ((by decide)) f_X5_163 rfl (by decide +kernel) dX5_readNumber_99 (fun μ z_5 ez_5 hM => ?_)
            have hpz_5 : patM z_5 n (b) := by rw [ez_5]; exact patM_up (hpc) (by omega) (by omega)
            have htz_5 : ∀ j, tM z_5 n j = tM m n j := fun j => (show tM z_5 n j = tM zc n j by rw [ez_5]; exact tM_up (hpc).2.2.1 (by omega)).trans (htc j)
            have hR1 : (mNq m n a most).1 = num := by rw [← hR]; rfl
            have hR2 : (mNq m n a most).2 = b := by rw [← hR]; rfl
            refine aw_vret X hQ dX5_readNumber_102 ⟨rfl, hM.to ?_⟩
            rw [ez_5, ezc, mNr, hR1, hR2]
            rw [hwc] at c84_4
            simp [c84_4]
          · skip
            refine aw_aload_n X dX5_readNumber_87 rfl ?_
            refine aw_fgetI X hM 11 (t := 0) (b := 945) (n := 0) rfl f_X5_170 dX5_readNumber_88 ?_
            refine aw_top num hnc ?_
            refine aw_if_ne (tgt := 98) X dX5_readNumber_91 (by decide) (fun c91_5 => ?_) (fun c91_5 => ?_)
            · skip
              refine aw_iconst X (0) dX5_readNumber_98 rfl ?_
              refine aw_fputZ X FM_a hM 9 (b := 943) (n := 0) rfl ((by decide)) f_X5_163 rfl (by decide +kernel) dX5_readNumber_99 (fun μ z_6 ez_6 hM => ?_)
              have hpz_6 : patM z_6 n (b) := by rw [ez_6]; exact patM_up (hpc) (by omega) (by omega)
              have htz_6 : ∀ j, tM z_6 n j = tM m n j := fun j => (show tM z_6 n j = tM zc n j by rw [ez_6]; exact tM_up (hpc).2.2.1 (by omega)).trans (htc j)
              have hR1 : (mNq m n a most).1 = num := by rw [← hR]; rfl
              have hR2 : (mNq m n a most).2 = b := by rw [← hR]; rfl
              refine aw_vret X hQ dX5_readNumber_102 ⟨rfl, hM.to ?_⟩
              rw [ez_6, ezc, mNr, hR1, hR2]
              rw [hwc] at c84_4
              simp [c84_4, c91_5]
            · skip
              refine aw_iconst X (1) dX5_readNumber_94 rfl ?_
              refine aw_goto (tgt := 99) X dX5_readNumber_95 (by decide) ?_
              refine aw_fputZ X FM_a hM 9 (b := 943) (n := 0) rfl ((by decide)) f_X5_163 rfl (by decide +kernel) dX5_readNumber_99 (fun μ z_6 ez_6 hM => ?_)
              have hpz_6 : patM z_6 n (b) := by rw [ez_6]; exact patM_up (hpc) (by omega) (by omega)
              have htz_6 : ∀ j, tM z_6 n j = tM m n j := fun j => (show tM z_6 n j = tM zc n j by rw [ez_6]; exact tM_up (hpc).2.2.1 (by omega)).trans (htc j)
              have hR1 : (mNq m n a most).1 = num := by rw [← hR]; rfl
              have hR2 : (mNq m n a most).2 = b := by rw [← hR]; rfl
              refine aw_vret X hQ dX5_readNumber_102 ⟨rfl, hM.to ?_⟩
              rw [ez_6, ezc, mNr, hR1, hR2]
              rw [hwc] at c84_4
              simp [c84_4, c91_5]
        · skip
          have hlt : b < n := inB_lt (m := m) (by have q := c25_3; simp only [Bool.and_eq_true] at q; exact q.2) (by decide)
          refine aw_bipush X (10) dX5_readNumber_28 rfl ?_
          refine aw_aload_n X dX5_readNumber_30 rfl ?_
          refine aw_fgetI X hM 11 (t := 0) (b := 945) (n := 0) rfl f_X5_170 dX5_readNumber_31 ?_
          refine aw_top num hnc ?_
          refine aw_imul X dX5_readNumber_34 ?_
          refine aw_aload_n X dX5_readNumber_35 rfl ?_
          refine aw_cVFF (As := []) X hM (c_X5_sign (kl K) U _ ma _ hM.1 n (b) hpc) s_X5_167 k_X5_sign (by decide) ⟨rfl, rfl⟩ ⟨Nat.zero_le _, Nat.zero_le _⟩ rfl (by exact Nat.le_of_ble_eq_true rfl) rfl dX5_readNumber_36 ?_
          refine aw_top ((tM m n (b))) (htc _) ?_
          refine aw_iadd X dX5_readNumber_39 ?_
          refine aw_bipush X (48) dX5_readNumber_40 rfl ?_
          refine aw_isub X dX5_readNumber_42 ?_
          refine aw_iload_n X dX5_readNumber_43 rfl ?_
          refine aw_icmp_gt (tgt := 79) X dX5_readNumber_44 (by decide) (fun c44_4 => ?_) (fun c44_4 => ?_)
          · skip
            refine aw_aload_n X dX5_readNumber_79 rfl ?_
            refine aw_aload_n X dX5_readNumber_80 rfl ?_
            refine aw_fgetI X hM 9 (t := 1) (b := 943) (n := 0) rfl f_X5_163 dX5_readNumber_81 ?_
            refine aw_if_ne (tgt := 94) X dX5_readNumber_84 (by decide) (fun c84_5 => ?_) (fun c84_5 => ?_)
            · skip
              refine aw_iconst X (1) dX5_readNumber_94 rfl ?_
              refine aw_goto (tgt := 99) X dX5_readNumber_95 (by decide) ?_
              refine aw_fputZ X FM_a hM 9 (b := 943) (n := 0) rfl ((by decide)) f_X5_163 rfl (by decide +kernel) dX5_readNumber_99 (fun μ z_6 ez_6 hM => ?_)
              have hpz_6 : patM z_6 n (b) := by rw [ez_6]; exact patM_up (hpc) (by omega) (by omega)
              have htz_6 : ∀ j, tM z_6 n j = tM m n j := fun j => (show tM z_6 n j = tM zc n j by rw [ez_6]; exact tM_up (hpc).2.2.1 (by omega)).trans (htc j)
              rw [hbn, tM_n] at c25_3
              simp [inB] at c25_3
            · skip
              refine aw_aload_n X dX5_readNumber_87 rfl ?_
              refine aw_fgetI X hM 11 (t := 0) (b := 945) (n := 0) rfl f_X5_170 dX5_readNumber_88 ?_
              refine aw_top num hnc ?_
              refine aw_if_ne (tgt := 98) X dX5_readNumber_91 (by decide) (fun c91_6 => ?_) (fun c91_6 => ?_)
              · skip
                refine aw_iconst X (0) dX5_readNumber_98 rfl ?_
                refine aw_fputZ X FM_a hM 9 (b := 943) (n := 0) rfl ((by decide)) f_X5_163 rfl (by decide +kernel) dX5_readNumber_99 (fun μ z_7 ez_7 hM => ?_)
                have hpz_7 : patM z_7 n (b) := by rw [ez_7]; exact patM_up (hpc) (by omega) (by omega)
                have htz_7 : ∀ j, tM z_7 n j = tM m n j := fun j => (show tM z_7 n j = tM zc n j by rw [ez_7]; exact tM_up (hpc).2.2.1 (by omega)).trans (htc j)
                rw [hbn, tM_n] at c25_3
                simp [inB] at c25_3
              · skip
                refine aw_iconst X (1) dX5_readNumber_94 rfl ?_
                refine aw_goto (tgt := 99) X dX5_readNumber_95 (by decide) ?_
                refine aw_fputZ X FM_a hM 9 (b := 943) (n := 0) rfl ((by decide)) f_X5_163 rfl (by decide +kernel) dX5_readNumber_99 (fun μ z_7 ez_7 hM => ?_)
                have hpz_7 : patM z_7 n (b) := by rw [ez_7]; exact patM_up (hpc) (by omega) (by omega)
                have htz_7 : ∀ j, tM z_7 n j = tM m n j := fun j => (show tM z_7 n j = tM zc n j by rw [ez_7]; exact tM_up (hpc).2.2.1 (by omega)).trans (htc j)
                rw [hbn, tM_n] at c25_3
                simp [inB] at c25_3
          · skip
            refine aw_aload_n X dX5_readNumber_47 rfl ?_
            refine aw_bipush X (10) dX5_readNumber_48 rfl ?_
            refine aw_aload_n X dX5_readNumber_50 rfl ?_
            refine aw_fgetI X hM 11 (t := 0) (b := 945) (n := 0) rfl f_X5_170 dX5_readNumber_51 ?_
            refine aw_top num hnc ?_
            refine aw_imul X dX5_readNumber_54 ?_
            refine aw_aload_n X dX5_readNumber_55 rfl ?_
            refine aw_cVFF (As := []) X hM (c_X5_sign (kl K) U _ ma _ hM.1 n (b) hpc) s_X5_167 k_X5_sign (by decide) ⟨rfl, rfl⟩ ⟨Nat.zero_le _, Nat.zero_le _⟩ rfl (by exact Nat.le_of_ble_eq_true rfl) rfl dX5_readNumber_56 ?_
            refine aw_top ((tM m n (b))) (htc _) ?_
            refine aw_iadd X dX5_readNumber_59 ?_
            refine aw_bipush X (48) dX5_readNumber_60 rfl ?_
            refine aw_isub X dX5_readNumber_62 ?_
            refine aw_fput X FM_a hM 11 (b := 945) (n := 0) rfl f_X5_170 rfl (by decide +kernel) dX5_readNumber_63 (fun μ z_5 ez_5 hM => ?_)
            have hpz_5 : patM z_5 n (b) := by rw [ez_5]; exact patM_up (hpc) (by omega) (by omega)
            have htz_5 : ∀ j, tM z_5 n j = tM m n j := fun j => (show tM z_5 n j = tM zc n j by rw [ez_5]; exact tM_up (hpc).2.2.1 (by omega)).trans (htc j)
            refine aw_aload_n X dX5_readNumber_66 rfl ?_
            refine aw_dup X dX5_readNumber_67 rfl ?_
            refine aw_fgetI X hM 8 (t := 0) (b := 942) (n := 0) rfl f_X5_160 dX5_readNumber_68 ?_
            refine aw_iconst X (1) dX5_readNumber_71 rfl ?_
            refine aw_iadd X dX5_readNumber_72 ?_
            refine aw_top (nI (b + 1)) (by rw [(hpz_5).2.1]; exact nI_1 _) ?_
            refine aw_fput X FM_a hM 8 (b := 942) (n := 0) rfl f_X5_160 rfl (by decide +kernel) dX5_readNumber_73 (fun μ z_6 ez_6 hM => ?_)
            have hpz_6 : patM z_6 n (b + 1) := by rw [ez_6]; exact patM_at (hpz_5) (by omega)
            have htz_6 : ∀ j, tM z_6 n j = tM m n j := fun j => (show tM z_6 n j = tM z_5 n j by rw [ez_6]; exact tM_up (hpz_5).2.2.1 (by omega)).trans (htz_5 j)
            refine aw_goto (tgt := 5) X dX5_readNumber_76 (by decide) ?_
            rw [hbn, tM_n] at c25_3
            simp [inB] at c25_3
    | succ d ih =>
      intro b num μ zc hbd hR ezc hM
      have hb60 := hp.2.2.1
      have hpc : patM zc n b := by rw [ezc]; exact patM_at (patM_up hp (by decide) (by decide)) (by omega)
      have htc : ∀ j, tM zc n j = tM m n j := fun j => by rw [ezc, tM_up hb60 (by omega), tM_up hb60 (by omega)]
      have hwc : zc 943 = m 943 := by rw [ezc, upd_n (by decide), upd_n (by decide)]
      have hnc : zc 945 = num := by rw [ezc, upd_n (by decide), upd_s]
      refine aw_aload_n X dX5_readNumber_5 rfl ?_
      refine aw_aload_n X dX5_readNumber_6 rfl ?_
      refine aw_fgetI X hM 11 (t := 0) (b := 945) (n := 0) rfl f_X5_170 dX5_readNumber_7 ?_
      refine aw_top num hnc ?_
      refine aw_if_ne (tgt := 18) X dX5_readNumber_10 (by decide) (fun c10_2 => ?_) (fun c10_2 => ?_)
      · skip
        refine aw_bipush X (48) dX5_readNumber_18 rfl ?_
        refine aw_bipush X (57) dX5_readNumber_20 rfl ?_
        refine aw_cVFF (As := [.int _, .int _]) X hM (c_X5_isNext (kl K) U _ ma _ hM.1 _ _ n (b) hpc) s_X5_173 k_X5_isNext (by decide) ⟨rfl, rfl⟩ ⟨Nat.zero_le _, Nat.zero_le _⟩ rfl (by exact Nat.le_of_ble_eq_true rfl) rfl dX5_readNumber_22 ?_
        refine aw_top (bI (decide (m 943 = 0) && inB (tM m n (b)) (48 : Int32) (57 : Int32))) (by rw [htc _, hwc]) ?_
        refine aw_b_eq (tgt := 79) X dX5_readNumber_25 (by decide) (fun c25_3 => ?_) (fun c25_3 => ?_)
        · skip
          refine aw_aload_n X dX5_readNumber_79 rfl ?_
          refine aw_aload_n X dX5_readNumber_80 rfl ?_
          refine aw_fgetI X hM 9 (t := 1) (b := 943) (n := 0) rfl f_X5_163 dX5_readNumber_81 ?_
          refine aw_if_ne (tgt := 94) X dX5_readNumber_84 (by decide) (fun c84_4 => ?_) (fun c84_4 => ?_)
          · skip
            refine aw_iconst X (1) dX5_readNumber_94 rfl ?_
            refine aw_goto (tgt := 99) X dX5_readNumber_95 (by decide) ?_
            refine aw_fputZ X FM_a hM 9 (b := 943) (n := 0) rfl ((by decide)) f_X5_163 rfl (by decide +kernel) dX5_readNumber_99 (fun μ z_5 ez_5 hM => ?_)
            have hpz_5 : patM z_5 n (b) := by rw [ez_5]; exact patM_up (hpc) (by omega) (by omega)
            have htz_5 : ∀ j, tM z_5 n j = tM m n j := fun j => (show tM z_5 n j = tM zc n j by rw [ez_5]; exact tM_up (hpc).2.2.1 (by omega)).trans (htc j)
            rw [mN, if_neg (fun q => by have q1 := q.1; simp only [c10_2, if_true, if_false] at q1; rw [q1] at c25_3; cases c25_3)] at hR
            have hR1 : (mNq m n a most).1 = num := by rw [← hR]
            have hR2 : (mNq m n a most).2 = b := by rw [← hR]
            refine aw_vret X hQ dX5_readNumber_102 ⟨rfl, hM.to ?_⟩
            rw [ez_5, ezc, mNr, hR1, hR2]
            rw [hwc] at c84_4
            simp [c84_4]
          · skip
            refine aw_aload_n X dX5_readNumber_87 rfl ?_
            refine aw_fgetI X hM 11 (t := 0) (b := 945) (n := 0) rfl f_X5_170 dX5_readNumber_88 ?_
            refine aw_top num hnc ?_
            refine aw_if_ne (tgt := 98) X dX5_readNumber_91 (by decide) (fun c91_5 => ?_) (fun c91_5 => ?_)
            · skip
              refine aw_iconst X (0) dX5_readNumber_98 rfl ?_
              refine aw_fputZ X FM_a hM 9 (b := 943) (n := 0) rfl ((by decide)) f_X5_163 rfl (by decide +kernel) dX5_readNumber_99 (fun μ z_6 ez_6 hM => ?_)
              have hpz_6 : patM z_6 n (b) := by rw [ez_6]; exact patM_up (hpc) (by omega) (by omega)
              have htz_6 : ∀ j, tM z_6 n j = tM m n j := fun j => (show tM z_6 n j = tM zc n j by rw [ez_6]; exact tM_up (hpc).2.2.1 (by omega)).trans (htc j)
              rw [mN, if_neg (fun q => by have q1 := q.1; simp only [c10_2, if_true, if_false] at q1; rw [q1] at c25_3; cases c25_3)] at hR
              have hR1 : (mNq m n a most).1 = num := by rw [← hR]
              have hR2 : (mNq m n a most).2 = b := by rw [← hR]
              refine aw_vret X hQ dX5_readNumber_102 ⟨rfl, hM.to ?_⟩
              rw [ez_6, ezc, mNr, hR1, hR2]
              rw [hwc] at c84_4
              simp [c84_4, c91_5]
            · skip
              refine aw_iconst X (1) dX5_readNumber_94 rfl ?_
              refine aw_goto (tgt := 99) X dX5_readNumber_95 (by decide) ?_
              refine aw_fputZ X FM_a hM 9 (b := 943) (n := 0) rfl ((by decide)) f_X5_163 rfl (by decide +kernel) dX5_readNumber_99 (fun μ z_6 ez_6 hM => ?_)
              have hpz_6 : patM z_6 n (b) := by rw [ez_6]; exact patM_up (hpc) (by omega) (by omega)
              have htz_6 : ∀ j, tM z_6 n j = tM m n j := fun j => (show tM z_6 n j = tM zc n j by rw [ez_6]; exact tM_up (hpc).2.2.1 (by omega)).trans (htc j)
              rw [mN, if_neg (fun q => by have q1 := q.1; simp only [c10_2, if_true, if_false] at q1; rw [q1] at c25_3; cases c25_3)] at hR
              have hR1 : (mNq m n a most).1 = num := by rw [← hR]
              have hR2 : (mNq m n a most).2 = b := by rw [← hR]
              refine aw_vret X hQ dX5_readNumber_102 ⟨rfl, hM.to ?_⟩
              rw [ez_6, ezc, mNr, hR1, hR2]
              rw [hwc] at c84_4
              simp [c84_4, c91_5]
        · skip
          have hlt : b < n := inB_lt (m := m) (by have q := c25_3; simp only [Bool.and_eq_true] at q; exact q.2) (by decide)
          refine aw_bipush X (10) dX5_readNumber_28 rfl ?_
          refine aw_aload_n X dX5_readNumber_30 rfl ?_
          refine aw_fgetI X hM 11 (t := 0) (b := 945) (n := 0) rfl f_X5_170 dX5_readNumber_31 ?_
          refine aw_top num hnc ?_
          refine aw_imul X dX5_readNumber_34 ?_
          refine aw_aload_n X dX5_readNumber_35 rfl ?_
          refine aw_cVFF (As := []) X hM (c_X5_sign (kl K) U _ ma _ hM.1 n (b) hpc) s_X5_167 k_X5_sign (by decide) ⟨rfl, rfl⟩ ⟨Nat.zero_le _, Nat.zero_le _⟩ rfl (by exact Nat.le_of_ble_eq_true rfl) rfl dX5_readNumber_36 ?_
          refine aw_top ((tM m n (b))) (htc _) ?_
          refine aw_iadd X dX5_readNumber_39 ?_
          refine aw_bipush X (48) dX5_readNumber_40 rfl ?_
          refine aw_isub X dX5_readNumber_42 ?_
          refine aw_iload_n X dX5_readNumber_43 rfl ?_
          refine aw_icmp_gt (tgt := 79) X dX5_readNumber_44 (by decide) (fun c44_4 => ?_) (fun c44_4 => ?_)
          · skip
            refine aw_aload_n X dX5_readNumber_79 rfl ?_
            refine aw_aload_n X dX5_readNumber_80 rfl ?_
            refine aw_fgetI X hM 9 (t := 1) (b := 943) (n := 0) rfl f_X5_163 dX5_readNumber_81 ?_
            refine aw_if_ne (tgt := 94) X dX5_readNumber_84 (by decide) (fun c84_5 => ?_) (fun c84_5 => ?_)
            · skip
              refine aw_iconst X (1) dX5_readNumber_94 rfl ?_
              refine aw_goto (tgt := 99) X dX5_readNumber_95 (by decide) ?_
              refine aw_fputZ X FM_a hM 9 (b := 943) (n := 0) rfl ((by decide)) f_X5_163 rfl (by decide +kernel) dX5_readNumber_99 (fun μ z_6 ez_6 hM => ?_)
              have hpz_6 : patM z_6 n (b) := by rw [ez_6]; exact patM_up (hpc) (by omega) (by omega)
              have htz_6 : ∀ j, tM z_6 n j = tM m n j := fun j => (show tM z_6 n j = tM zc n j by rw [ez_6]; exact tM_up (hpc).2.2.1 (by omega)).trans (htc j)
              rw [mN, if_neg (fun q => absurd q.2 (Int32.not_le.mpr c44_4))] at hR
              have hR1 : (mNq m n a most).1 = num := by rw [← hR]
              have hR2 : (mNq m n a most).2 = b := by rw [← hR]
              refine aw_vret X hQ dX5_readNumber_102 ⟨rfl, hM.to ?_⟩
              rw [ez_6, ezc, mNr, hR1, hR2]
              rw [hwc] at c84_5
              simp [c84_5]
            · skip
              refine aw_aload_n X dX5_readNumber_87 rfl ?_
              refine aw_fgetI X hM 11 (t := 0) (b := 945) (n := 0) rfl f_X5_170 dX5_readNumber_88 ?_
              refine aw_top num hnc ?_
              refine aw_if_ne (tgt := 98) X dX5_readNumber_91 (by decide) (fun c91_6 => ?_) (fun c91_6 => ?_)
              · skip
                refine aw_iconst X (0) dX5_readNumber_98 rfl ?_
                refine aw_fputZ X FM_a hM 9 (b := 943) (n := 0) rfl ((by decide)) f_X5_163 rfl (by decide +kernel) dX5_readNumber_99 (fun μ z_7 ez_7 hM => ?_)
                have hpz_7 : patM z_7 n (b) := by rw [ez_7]; exact patM_up (hpc) (by omega) (by omega)
                have htz_7 : ∀ j, tM z_7 n j = tM m n j := fun j => (show tM z_7 n j = tM zc n j by rw [ez_7]; exact tM_up (hpc).2.2.1 (by omega)).trans (htc j)
                rw [mN, if_neg (fun q => absurd q.2 (Int32.not_le.mpr c44_4))] at hR
                have hR1 : (mNq m n a most).1 = num := by rw [← hR]
                have hR2 : (mNq m n a most).2 = b := by rw [← hR]
                refine aw_vret X hQ dX5_readNumber_102 ⟨rfl, hM.to ?_⟩
                rw [ez_7, ezc, mNr, hR1, hR2]
                rw [hwc] at c84_5
                simp [c84_5, c91_6]
              · skip
                refine aw_iconst X (1) dX5_readNumber_94 rfl ?_
                refine aw_goto (tgt := 99) X dX5_readNumber_95 (by decide) ?_
                refine aw_fputZ X FM_a hM 9 (b := 943) (n := 0) rfl ((by decide)) f_X5_163 rfl (by decide +kernel) dX5_readNumber_99 (fun μ z_7 ez_7 hM => ?_)
                have hpz_7 : patM z_7 n (b) := by rw [ez_7]; exact patM_up (hpc) (by omega) (by omega)
                have htz_7 : ∀ j, tM z_7 n j = tM m n j := fun j => (show tM z_7 n j = tM zc n j by rw [ez_7]; exact tM_up (hpc).2.2.1 (by omega)).trans (htc j)
                rw [mN, if_neg (fun q => absurd q.2 (Int32.not_le.mpr c44_4))] at hR
                have hR1 : (mNq m n a most).1 = num := by rw [← hR]
                have hR2 : (mNq m n a most).2 = b := by rw [← hR]
                refine aw_vret X hQ dX5_readNumber_102 ⟨rfl, hM.to ?_⟩
                rw [ez_7, ezc, mNr, hR1, hR2]
                rw [hwc] at c84_5
                simp [c84_5, c91_6]
          · skip
            refine aw_aload_n X dX5_readNumber_47 rfl ?_
            refine aw_bipush X (10) dX5_readNumber_48 rfl ?_
            refine aw_aload_n X dX5_readNumber_50 rfl ?_
            refine aw_fgetI X hM 11 (t := 0) (b := 945) (n := 0) rfl f_X5_170 dX5_readNumber_51 ?_
            refine aw_top num hnc ?_
            refine aw_imul X dX5_readNumber_54 ?_
            refine aw_aload_n X dX5_readNumber_55 rfl ?_
            refine aw_cVFF (As := []) X hM (c_X5_sign (kl K) U _ ma _ hM.1 n (b) hpc) s_X5_167 k_X5_sign (by decide) ⟨rfl, rfl⟩ ⟨Nat.zero_le _, Nat.zero_le _⟩ rfl (by exact Nat.le_of_ble_eq_true rfl) rfl dX5_readNumber_56 ?_
            refine aw_top ((tM m n (b))) (htc _) ?_
            refine aw_iadd X dX5_readNumber_59 ?_
            refine aw_bipush X (48) dX5_readNumber_60 rfl ?_
            refine aw_isub X dX5_readNumber_62 ?_
            refine aw_fput X FM_a hM 11 (b := 945) (n := 0) rfl f_X5_170 rfl (by decide +kernel) dX5_readNumber_63 (fun μ z_5 ez_5 hM => ?_)
            have hpz_5 : patM z_5 n (b) := by rw [ez_5]; exact patM_up (hpc) (by omega) (by omega)
            have htz_5 : ∀ j, tM z_5 n j = tM m n j := fun j => (show tM z_5 n j = tM zc n j by rw [ez_5]; exact tM_up (hpc).2.2.1 (by omega)).trans (htc j)
            refine aw_aload_n X dX5_readNumber_66 rfl ?_
            refine aw_dup X dX5_readNumber_67 rfl ?_
            refine aw_fgetI X hM 8 (t := 0) (b := 942) (n := 0) rfl f_X5_160 dX5_readNumber_68 ?_
            refine aw_iconst X (1) dX5_readNumber_71 rfl ?_
            refine aw_iadd X dX5_readNumber_72 ?_
            refine aw_top (nI (b + 1)) (by rw [(hpz_5).2.1]; exact nI_1 _) ?_
            refine aw_fput X FM_a hM 8 (b := 942) (n := 0) rfl f_X5_160 rfl (by decide +kernel) dX5_readNumber_73 (fun μ z_6 ez_6 hM => ?_)
            have hpz_6 : patM z_6 n (b + 1) := by rw [ez_6]; exact patM_at (hpz_5) (by omega)
            have htz_6 : ∀ j, tM z_6 n j = tM m n j := fun j => (show tM z_6 n j = tM z_5 n j by rw [ez_6]; exact tM_up (hpz_5).2.2.1 (by omega)).trans (htz_5 j)
            refine aw_goto (tgt := 5) X dX5_readNumber_76 (by decide) ?_
            have hcond : (decide (m 943 = 0) && inB (tM m n b) (if num = 0 then 49 else 48) 57) = true ∧ 10 * num + tM m n b - 48 ≤ most := ⟨by simpa [c10_2] using c25_3, Int32.not_lt.mp c44_4⟩
            rw [mN, if_pos hcond] at hR
            exact ih (b + 1) _ μ _ (by omega) hR (by rw [ez_6, ez_5, ezc, upd_c (a := 942) (b := 945) (by decide), upd_upd, upd_upd]) hM
      · skip
        refine aw_bipush X (49) dX5_readNumber_13 rfl ?_
        refine aw_goto (tgt := 20) X dX5_readNumber_15 (by decide) ?_
        refine aw_bipush X (57) dX5_readNumber_20 rfl ?_
        refine aw_cVFF (As := [.int _, .int _]) X hM (c_X5_isNext (kl K) U _ ma _ hM.1 _ _ n (b) hpc) s_X5_173 k_X5_isNext (by decide) ⟨rfl, rfl⟩ ⟨Nat.zero_le _, Nat.zero_le _⟩ rfl (by exact Nat.le_of_ble_eq_true rfl) rfl dX5_readNumber_22 ?_
        refine aw_top (bI (decide (m 943 = 0) && inB (tM m n (b)) (49 : Int32) (57 : Int32))) (by rw [htc _, hwc]) ?_
        refine aw_b_eq (tgt := 79) X dX5_readNumber_25 (by decide) (fun c25_3 => ?_) (fun c25_3 => ?_)
        · skip
          refine aw_aload_n X dX5_readNumber_79 rfl ?_
          refine aw_aload_n X dX5_readNumber_80 rfl ?_
          refine aw_fgetI X hM 9 (t := 1) (b := 943) (n := 0) rfl f_X5_163 dX5_readNumber_81 ?_
          refine aw_if_ne (tgt := 94) X dX5_readNumber_84 (by decide) (fun c84_4 => ?_) (fun c84_4 => ?_)
          · skip
            refine aw_iconst X (1) dX5_readNumber_94 rfl ?_
            refine aw_goto (tgt := 99) X dX5_readNumber_95 (by decide) ?_
            refine aw_fputZ X FM_a hM 9 (b := 943) (n := 0) rfl ((by decide)) f_X5_163 rfl (by decide +kernel) dX5_readNumber_99 (fun μ z_5 ez_5 hM => ?_)
            have hpz_5 : patM z_5 n (b) := by rw [ez_5]; exact patM_up (hpc) (by omega) (by omega)
            have htz_5 : ∀ j, tM z_5 n j = tM m n j := fun j => (show tM z_5 n j = tM zc n j by rw [ez_5]; exact tM_up (hpc).2.2.1 (by omega)).trans (htc j)
            rw [mN, if_neg (fun q => by have q1 := q.1; simp only [c10_2, if_true, if_false] at q1; rw [q1] at c25_3; cases c25_3)] at hR
            have hR1 : (mNq m n a most).1 = num := by rw [← hR]
            have hR2 : (mNq m n a most).2 = b := by rw [← hR]
            refine aw_vret X hQ dX5_readNumber_102 ⟨rfl, hM.to ?_⟩
            rw [ez_5, ezc, mNr, hR1, hR2]
            rw [hwc] at c84_4
            simp [c84_4]
          · skip
            refine aw_aload_n X dX5_readNumber_87 rfl ?_
            refine aw_fgetI X hM 11 (t := 0) (b := 945) (n := 0) rfl f_X5_170 dX5_readNumber_88 ?_
            refine aw_top num hnc ?_
            refine aw_if_ne (tgt := 98) X dX5_readNumber_91 (by decide) (fun c91_5 => ?_) (fun c91_5 => ?_)
            · skip
              refine aw_iconst X (0) dX5_readNumber_98 rfl ?_
              refine aw_fputZ X FM_a hM 9 (b := 943) (n := 0) rfl ((by decide)) f_X5_163 rfl (by decide +kernel) dX5_readNumber_99 (fun μ z_6 ez_6 hM => ?_)
              have hpz_6 : patM z_6 n (b) := by rw [ez_6]; exact patM_up (hpc) (by omega) (by omega)
              have htz_6 : ∀ j, tM z_6 n j = tM m n j := fun j => (show tM z_6 n j = tM zc n j by rw [ez_6]; exact tM_up (hpc).2.2.1 (by omega)).trans (htc j)
              rw [mN, if_neg (fun q => by have q1 := q.1; simp only [c10_2, if_true, if_false] at q1; rw [q1] at c25_3; cases c25_3)] at hR
              have hR1 : (mNq m n a most).1 = num := by rw [← hR]
              have hR2 : (mNq m n a most).2 = b := by rw [← hR]
              refine aw_vret X hQ dX5_readNumber_102 ⟨rfl, hM.to ?_⟩
              rw [ez_6, ezc, mNr, hR1, hR2]
              rw [hwc] at c84_4
              simp [c84_4, c91_5]
            · skip
              refine aw_iconst X (1) dX5_readNumber_94 rfl ?_
              refine aw_goto (tgt := 99) X dX5_readNumber_95 (by decide) ?_
              refine aw_fputZ X FM_a hM 9 (b := 943) (n := 0) rfl ((by decide)) f_X5_163 rfl (by decide +kernel) dX5_readNumber_99 (fun μ z_6 ez_6 hM => ?_)
              have hpz_6 : patM z_6 n (b) := by rw [ez_6]; exact patM_up (hpc) (by omega) (by omega)
              have htz_6 : ∀ j, tM z_6 n j = tM m n j := fun j => (show tM z_6 n j = tM zc n j by rw [ez_6]; exact tM_up (hpc).2.2.1 (by omega)).trans (htc j)
              rw [mN, if_neg (fun q => by have q1 := q.1; simp only [c10_2, if_true, if_false] at q1; rw [q1] at c25_3; cases c25_3)] at hR
              have hR1 : (mNq m n a most).1 = num := by rw [← hR]
              have hR2 : (mNq m n a most).2 = b := by rw [← hR]
              refine aw_vret X hQ dX5_readNumber_102 ⟨rfl, hM.to ?_⟩
              rw [ez_6, ezc, mNr, hR1, hR2]
              rw [hwc] at c84_4
              simp [c84_4, c91_5]
        · skip
          have hlt : b < n := inB_lt (m := m) (by have q := c25_3; simp only [Bool.and_eq_true] at q; exact q.2) (by decide)
          refine aw_bipush X (10) dX5_readNumber_28 rfl ?_
          refine aw_aload_n X dX5_readNumber_30 rfl ?_
          refine aw_fgetI X hM 11 (t := 0) (b := 945) (n := 0) rfl f_X5_170 dX5_readNumber_31 ?_
          refine aw_top num hnc ?_
          refine aw_imul X dX5_readNumber_34 ?_
          refine aw_aload_n X dX5_readNumber_35 rfl ?_
          refine aw_cVFF (As := []) X hM (c_X5_sign (kl K) U _ ma _ hM.1 n (b) hpc) s_X5_167 k_X5_sign (by decide) ⟨rfl, rfl⟩ ⟨Nat.zero_le _, Nat.zero_le _⟩ rfl (by exact Nat.le_of_ble_eq_true rfl) rfl dX5_readNumber_36 ?_
          refine aw_top ((tM m n (b))) (htc _) ?_
          refine aw_iadd X dX5_readNumber_39 ?_
          refine aw_bipush X (48) dX5_readNumber_40 rfl ?_
          refine aw_isub X dX5_readNumber_42 ?_
          refine aw_iload_n X dX5_readNumber_43 rfl ?_
          refine aw_icmp_gt (tgt := 79) X dX5_readNumber_44 (by decide) (fun c44_4 => ?_) (fun c44_4 => ?_)
          · skip
            refine aw_aload_n X dX5_readNumber_79 rfl ?_
            refine aw_aload_n X dX5_readNumber_80 rfl ?_
            refine aw_fgetI X hM 9 (t := 1) (b := 943) (n := 0) rfl f_X5_163 dX5_readNumber_81 ?_
            refine aw_if_ne (tgt := 94) X dX5_readNumber_84 (by decide) (fun c84_5 => ?_) (fun c84_5 => ?_)
            · skip
              refine aw_iconst X (1) dX5_readNumber_94 rfl ?_
              refine aw_goto (tgt := 99) X dX5_readNumber_95 (by decide) ?_
              refine aw_fputZ X FM_a hM 9 (b := 943) (n := 0) rfl ((by decide)) f_X5_163 rfl (by decide +kernel) dX5_readNumber_99 (fun μ z_6 ez_6 hM => ?_)
              have hpz_6 : patM z_6 n (b) := by rw [ez_6]; exact patM_up (hpc) (by omega) (by omega)
              have htz_6 : ∀ j, tM z_6 n j = tM m n j := fun j => (show tM z_6 n j = tM zc n j by rw [ez_6]; exact tM_up (hpc).2.2.1 (by omega)).trans (htc j)
              rw [mN, if_neg (fun q => absurd q.2 (Int32.not_le.mpr c44_4))] at hR
              have hR1 : (mNq m n a most).1 = num := by rw [← hR]
              have hR2 : (mNq m n a most).2 = b := by rw [← hR]
              refine aw_vret X hQ dX5_readNumber_102 ⟨rfl, hM.to ?_⟩
              rw [ez_6, ezc, mNr, hR1, hR2]
              rw [hwc] at c84_5
              simp [c84_5]
            · skip
              refine aw_aload_n X dX5_readNumber_87 rfl ?_
              refine aw_fgetI X hM 11 (t := 0) (b := 945) (n := 0) rfl f_X5_170 dX5_readNumber_88 ?_
              refine aw_top num hnc ?_
              refine aw_if_ne (tgt := 98) X dX5_readNumber_91 (by decide) (fun c91_6 => ?_) (fun c91_6 => ?_)
              · skip
                refine aw_iconst X (0) dX5_readNumber_98 rfl ?_
                refine aw_fputZ X FM_a hM 9 (b := 943) (n := 0) rfl ((by decide)) f_X5_163 rfl (by decide +kernel) dX5_readNumber_99 (fun μ z_7 ez_7 hM => ?_)
                have hpz_7 : patM z_7 n (b) := by rw [ez_7]; exact patM_up (hpc) (by omega) (by omega)
                have htz_7 : ∀ j, tM z_7 n j = tM m n j := fun j => (show tM z_7 n j = tM zc n j by rw [ez_7]; exact tM_up (hpc).2.2.1 (by omega)).trans (htc j)
                rw [mN, if_neg (fun q => absurd q.2 (Int32.not_le.mpr c44_4))] at hR
                have hR1 : (mNq m n a most).1 = num := by rw [← hR]
                have hR2 : (mNq m n a most).2 = b := by rw [← hR]
                refine aw_vret X hQ dX5_readNumber_102 ⟨rfl, hM.to ?_⟩
                rw [ez_7, ezc, mNr, hR1, hR2]
                rw [hwc] at c84_5
                simp [c84_5, c91_6]
              · skip
                refine aw_iconst X (1) dX5_readNumber_94 rfl ?_
                refine aw_goto (tgt := 99) X dX5_readNumber_95 (by decide) ?_
                refine aw_fputZ X FM_a hM 9 (b := 943) (n := 0) rfl ((by decide)) f_X5_163 rfl (by decide +kernel) dX5_readNumber_99 (fun μ z_7 ez_7 hM => ?_)
                have hpz_7 : patM z_7 n (b) := by rw [ez_7]; exact patM_up (hpc) (by omega) (by omega)
                have htz_7 : ∀ j, tM z_7 n j = tM m n j := fun j => (show tM z_7 n j = tM zc n j by rw [ez_7]; exact tM_up (hpc).2.2.1 (by omega)).trans (htc j)
                rw [mN, if_neg (fun q => absurd q.2 (Int32.not_le.mpr c44_4))] at hR
                have hR1 : (mNq m n a most).1 = num := by rw [← hR]
                have hR2 : (mNq m n a most).2 = b := by rw [← hR]
                refine aw_vret X hQ dX5_readNumber_102 ⟨rfl, hM.to ?_⟩
                rw [ez_7, ezc, mNr, hR1, hR2]
                rw [hwc] at c84_5
                simp [c84_5, c91_6]
          · skip
            refine aw_aload_n X dX5_readNumber_47 rfl ?_
            refine aw_bipush X (10) dX5_readNumber_48 rfl ?_
            refine aw_aload_n X dX5_readNumber_50 rfl ?_
            refine aw_fgetI X hM 11 (t := 0) (b := 945) (n := 0) rfl f_X5_170 dX5_readNumber_51 ?_
            refine aw_top num hnc ?_
            refine aw_imul X dX5_readNumber_54 ?_
            refine aw_aload_n X dX5_readNumber_55 rfl ?_
            refine aw_cVFF (As := []) X hM (c_X5_sign (kl K) U _ ma _ hM.1 n (b) hpc) s_X5_167 k_X5_sign (by decide) ⟨rfl, rfl⟩ ⟨Nat.zero_le _, Nat.zero_le _⟩ rfl (by exact Nat.le_of_ble_eq_true rfl) rfl dX5_readNumber_56 ?_
            refine aw_top ((tM m n (b))) (htc _) ?_
            refine aw_iadd X dX5_readNumber_59 ?_
            refine aw_bipush X (48) dX5_readNumber_60 rfl ?_
            refine aw_isub X dX5_readNumber_62 ?_
            refine aw_fput X FM_a hM 11 (b := 945) (n := 0) rfl f_X5_170 rfl (by decide +kernel) dX5_readNumber_63 (fun μ z_5 ez_5 hM => ?_)
            have hpz_5 : patM z_5 n (b) := by rw [ez_5]; exact patM_up (hpc) (by omega) (by omega)
            have htz_5 : ∀ j, tM z_5 n j = tM m n j := fun j => (show tM z_5 n j = tM zc n j by rw [ez_5]; exact tM_up (hpc).2.2.1 (by omega)).trans (htc j)
            refine aw_aload_n X dX5_readNumber_66 rfl ?_
            refine aw_dup X dX5_readNumber_67 rfl ?_
            refine aw_fgetI X hM 8 (t := 0) (b := 942) (n := 0) rfl f_X5_160 dX5_readNumber_68 ?_
            refine aw_iconst X (1) dX5_readNumber_71 rfl ?_
            refine aw_iadd X dX5_readNumber_72 ?_
            refine aw_top (nI (b + 1)) (by rw [(hpz_5).2.1]; exact nI_1 _) ?_
            refine aw_fput X FM_a hM 8 (b := 942) (n := 0) rfl f_X5_160 rfl (by decide +kernel) dX5_readNumber_73 (fun μ z_6 ez_6 hM => ?_)
            have hpz_6 : patM z_6 n (b + 1) := by rw [ez_6]; exact patM_at (hpz_5) (by omega)
            have htz_6 : ∀ j, tM z_6 n j = tM m n j := fun j => (show tM z_6 n j = tM z_5 n j by rw [ez_6]; exact tM_up (hpz_5).2.2.1 (by omega)).trans (htz_5 j)
            refine aw_goto (tgt := 5) X dX5_readNumber_76 (by decide) ?_
            have hcond : (decide (m 943 = 0) && inB (tM m n b) (if num = 0 then 49 else 48) 57) = true ∧ 10 * num + tM m n b - 48 ≤ most := ⟨by simpa [c10_2] using c25_3, Int32.not_lt.mp c44_4⟩
            rw [mN, if_pos hcond] at hR
            exact ih (b + 1) _ μ _ (by omega) hR (by rw [ez_6, ez_5, ezc, upd_c (a := 942) (b := 945) (by decide), upd_upd, upd_upd]) hM
  have han := hp.2.2.2
  exact loop (n - a) a 0 μ _ (by omega) (by unfold mNq; rfl) hz0 hM
