set_option maxHeartbeats 1000000 in
set_option maxRecDepth 100000 in
theorem c_X5_canConnect (l : Launch) (U : xU) (μ0 : xH) (ma : Nat → Nat) (m : xV) (hM0 : FRep U μ0 ma 5 FM m) (hiv : IV m) (hn : Nat) (h6 : m 6 = nI hn) (hb : hn < 2 ^ 31) (p : Int32) (pn : Nat) (hp : p = nI pn) (hpn : pn < 4) : CtF l U yX5_canConnect cX5_canConnect 2 (some .boolean) ({ frames := 4, cells := 0, slots := 0, locals := 87 } : Room) [.ref (ma 0), .int p] μ0 (bI (kCon m pn)) := by
  refine Ct.of [some (.ref (ma 0)), some (.int p)] (by decide +kernel) rfl (Nat.le_of_ble_eq_true rfl) (fun K Q X hnm hQ => ?_)
  have hM := FR.rf hM0
  refine aw_aload_n X dX5_canConnect_0 rfl ?_
  refine aw_fgetA X hM 0 (t := 0) (b := 0) (n := 80) rfl f_X5_7 dX5_canConnect_1 ?_
  refine aw_bipush X (13) dX5_canConnect_4 rfl ?_
  refine aw_fiald X hM 0 (b := 0) (n := 80) rfl 13 (xin_d rfl) (by decide) dX5_canConnect_6 ?_
  refine aw_iconst X (1) dX5_canConnect_7 rfl ?_
  refine aw_icmp_ne (tgt := 46) X dX5_canConnect_8 (by decide) (fun c8_1 => ?_) (fun c8_1 => ?_)
  · skip
    refine aw_iconst X (0) dX5_canConnect_46 rfl ?_
    exact aw_zret X rfl hQ dX5_canConnect_47 ⟨congrArg (fun q => some (Value.int q)) (by simp [kCon, bI, c8_1]), rfl⟩
  · skip
    refine aw_aload_n X dX5_canConnect_11 rfl ?_
    refine aw_iload_n X dX5_canConnect_12 rfl ?_
    refine aw_iconst X (3) dX5_canConnect_13 rfl ?_
    refine aw_cVFF (As := [.int _, .int _]) X hM (c_X5_hoseOf (kl K) U _ ma _ hM.1 _ _ pn 3 hp rfl (by omega) (by decide)) s_X5_63 k_X5_hoseOf (by decide) ⟨rfl, rfl⟩ ⟨Nat.zero_le _, Nat.zero_le _⟩ rfl (by exact Nat.le_of_ble_eq_true rfl) rfl dX5_canConnect_14 ?_
    refine aw_if_ne (tgt := 46) X dX5_canConnect_17 (by decide) (fun c17_2 => ?_) (fun c17_2 => ?_)
    · skip
      refine aw_iconst X (0) dX5_canConnect_46 rfl ?_
      exact aw_zret X rfl hQ dX5_canConnect_47 ⟨congrArg (fun q => some (Value.int q)) (by simp [kCon, bI, c8_1, c17_2]), rfl⟩
    · skip
      refine aw_aload_n X dX5_canConnect_20 rfl ?_
      refine aw_iload_n X dX5_canConnect_21 rfl ?_
      refine aw_cVFF (As := [.int _]) X hM (c_X5_isConnected (kl K) U _ ma _ hM.1 _ pn hp (by omega) ((hiv.2.2.2.2.2.2.1 pn (by omega)).2.2.1)) s_X5_66 k_X5_isConnected (by decide) ⟨rfl, rfl⟩ ⟨Nat.zero_le _, Nat.zero_le _⟩ rfl (by exact Nat.le_of_ble_eq_true rfl) rfl dX5_canConnect_22 ?_
      refine aw_b_ne (tgt := 46) X dX5_canConnect_25 (by decide) (fun c25_3 => ?_) (fun c25_3 => ?_)
      · skip
        refine aw_iconst X (0) dX5_canConnect_46 rfl ?_
        exact aw_zret X rfl hQ dX5_canConnect_47 ⟨congrArg (fun q => some (Value.int q)) (by simp [kCon, bI, c8_1, c17_2, c25_3]), rfl⟩
      · skip
        refine aw_aload_n X dX5_canConnect_28 rfl ?_
        refine aw_iconst X (0) dX5_canConnect_29 rfl ?_
        refine aw_cVFF (As := [.int _]) X hM (c_X5_heightOf (kl K) U _ ma _ hM.1 _ 0 rfl (by decide) _ h6 (by omega)) s_X5_76 k_X5_heightOf (by decide) ⟨rfl, rfl⟩ ⟨Nat.zero_le _, Nat.zero_le _⟩ rfl (by exact Nat.le_of_ble_eq_true rfl) rfl dX5_canConnect_30 ?_
        refine aw_aload_n X dX5_canConnect_33 rfl ?_
        refine aw_iload_n X dX5_canConnect_34 rfl ?_
        refine aw_iconst X (0) dX5_canConnect_35 rfl ?_
        refine aw_cVFF (As := [.int _, .int _]) X hM (c_X5_hoseOf (kl K) U _ ma _ hM.1 _ _ pn 0 hp rfl (by omega) (by decide)) s_X5_63 k_X5_hoseOf (by decide) ⟨rfl, rfl⟩ ⟨Nat.zero_le _, Nat.zero_le _⟩ rfl (by exact Nat.le_of_ble_eq_true rfl) rfl dX5_canConnect_36 ?_
        refine aw_icmp_gt (tgt := 46) X dX5_canConnect_39 (by decide) (fun c39_4 => ?_) (fun c39_4 => ?_)
        · skip
          refine aw_iconst X (0) dX5_canConnect_46 rfl ?_
          exact aw_zret X rfl hQ dX5_canConnect_47 ⟨congrArg (fun q => some (Value.int q)) (by simp [kCon, bI, c8_1, c17_2, c25_3, c39_4, Int32.not_le.mpr c39_4]), rfl⟩
        · skip
          refine aw_iconst X (1) dX5_canConnect_42 rfl ?_
          refine aw_goto (tgt := 47) X dX5_canConnect_43 (by decide) ?_
          exact aw_zret X rfl hQ dX5_canConnect_47 ⟨congrArg (fun q => some (Value.int q)) (by simp [kCon, bI, c8_1, c17_2, c25_3, c39_4, Int32.not_lt.mp c39_4]), rfl⟩

set_option maxHeartbeats 1000000 in
set_option maxRecDepth 100000 in
theorem c_X5_canFlush (l : Launch) (U : xU) (μ0 : xH) (ma : Nat → Nat) (m : xV) (hM0 : FRep U μ0 ma 5 FM m) (hiv : IV m) (p : Int32) (pn : Nat) (hp : p = nI pn) (hpn : pn < 4) : CtF l U yX5_canFlush cX5_canFlush 2 (some .boolean) ({ frames := 2, cells := 0, slots := 0, locals := 43 } : Room) [.ref (ma 0), .int p] μ0 (bI (kFlu m pn)) := by
  refine Ct.of [some (.ref (ma 0)), some (.int p)] (by decide +kernel) rfl (Nat.le_of_ble_eq_true rfl) (fun K Q X hnm hQ => ?_)
  have hM := FR.rf hM0
  refine aw_aload_n X dX5_canFlush_0 rfl ?_
  refine aw_iload_n X dX5_canFlush_1 rfl ?_
  refine aw_cVFF (As := [.int _]) X hM (c_X5_isConnected (kl K) U _ ma _ hM.1 _ pn hp (by omega) ((hiv.2.2.2.2.2.2.1 pn (by omega)).2.2.1)) s_X5_66 k_X5_isConnected (by decide) ⟨rfl, rfl⟩ ⟨Nat.zero_le _, Nat.zero_le _⟩ rfl (by exact Nat.le_of_ble_eq_true rfl) rfl dX5_canFlush_2 ?_
  refine aw_b_ne (tgt := 21) X dX5_canFlush_5 (by decide) (fun c5_1 => ?_) (fun c5_1 => ?_)
  · skip
    refine aw_iconst X (0) dX5_canFlush_21 rfl ?_
    exact aw_zret X rfl hQ dX5_canFlush_22 ⟨congrArg (fun q => some (Value.int q)) (by rw [kFlu, ← gv_0 (hiv.2.2.2.2.2.2.1 pn hpn).2.1]; simp [kFlu, bI, c5_1]), rfl⟩
  · skip
    refine aw_aload_n X dX5_canFlush_8 rfl ?_
    refine aw_iload_n X dX5_canFlush_9 rfl ?_
    refine aw_iconst X (1) dX5_canFlush_10 rfl ?_
    refine aw_cVFF (As := [.int _, .int _]) X hM (c_X5_hoseOf (kl K) U _ ma _ hM.1 _ _ pn 1 hp rfl (by omega) (by decide)) s_X5_63 k_X5_hoseOf (by decide) ⟨rfl, rfl⟩ ⟨Nat.zero_le _, Nat.zero_le _⟩ rfl (by exact Nat.le_of_ble_eq_true rfl) rfl dX5_canFlush_11 ?_
    refine aw_if_lt (tgt := 21) X dX5_canFlush_14 (by decide) (fun c14_2 => ?_) (fun c14_2 => ?_)
    · skip
      refine aw_iconst X (0) dX5_canFlush_21 rfl ?_
      exact aw_zret X rfl hQ dX5_canFlush_22 ⟨congrArg (fun q => some (Value.int q)) (by rw [kFlu, ← gv_0 (hiv.2.2.2.2.2.2.1 pn hpn).2.1]; simp [kFlu, bI, c5_1, c14_2, Int32.not_le.mpr c14_2]), rfl⟩
    · skip
      refine aw_iconst X (1) dX5_canFlush_17 rfl ?_
      refine aw_goto (tgt := 22) X dX5_canFlush_18 (by decide) ?_
      exact aw_zret X rfl hQ dX5_canFlush_22 ⟨congrArg (fun q => some (Value.int q)) (by rw [kFlu, ← gv_0 (hiv.2.2.2.2.2.2.1 pn hpn).2.1]; simp [kFlu, bI, c5_1, c14_2, Int32.not_lt.mp c14_2]), rfl⟩

set_option maxHeartbeats 1000000 in
set_option maxRecDepth 100000 in
theorem c_X5_doConnect (l : Launch) (U : xU) (μ0 : xH) (ma : Nat → Nat) (m : xV) (hM0 : FRep U μ0 ma 5 FM m) (hiv : IV m) (p : Int32) (pn : Nat) (hp : p = nI pn) (hpn : pn < 4) (g : Int32) (hg : isG g = true) : CtFR l U yX5_doConnect cX5_doConnect 3 (some .int) ({ frames := 3, cells := 0, slots := 0, locals := 65 } : Room) [.ref (ma 0), .int p, .int g] μ0 ma 5 FM (aCon m pn g).1 (aCon m pn g).2 := by
  refine Ct.of [some (.ref (ma 0)), some (.int p), some (.int g)] (by decide +kernel) rfl (Nat.le_of_ble_eq_true rfl) (fun K Q X hnm hQ => ?_)
  have hM := FR.rf hM0
  refine aw_aload_n X dX5_doConnect_0 rfl ?_
  refine aw_iload_n X dX5_doConnect_1 rfl ?_
  refine aw_iconst X (2) dX5_doConnect_2 rfl ?_
  refine aw_iload_n X dX5_doConnect_3 rfl ?_
  refine aw_cVFK (As := [.int _, .int _, .int _]) X hM (c_X5_setHose (kl K) U _ ma _ hM.1 _ _ _ pn 2 hp rfl (by omega) (by decide)) s_X5_32 k_X5_setHose (by decide) ⟨rfl, rfl⟩ ⟨Nat.zero_le _, Nat.zero_le _⟩ rfl (by exact Nat.le_of_ble_eq_true rfl) rfl dX5_doConnect_4 (fun μ z_1 ez_1 hM => ?_)
  have hgva : ∀ i, i < 4 → gv (z_1 (hz i 2)) := by
    intro i hi
    rw [ez_1]
    exact upd_el (P := gv) (hiv.2.2.2.2.2.2.1 i hi).2.2.1 (fun _ => Or.inr hg)
  refine aw_aload_n X dX5_doConnect_7 rfl ?_
  refine aw_cVFF (As := []) X hM (c_X5_connected (kl K) U _ ma _ hM.1 (hgva)) s_X5_109 k_X5_connected (by decide) ⟨rfl, rfl⟩ ⟨Nat.zero_le _, Nat.zero_le _⟩ rfl (by exact Nat.le_of_ble_eq_true rfl) rfl dX5_doConnect_8 ?_
  exact aw_iret X hQ dX5_doConnect_11 ⟨congrArg (fun q => some (Value.int q)) (by subst ez_1; rfl), hM.to (by subst ez_1; rfl)⟩

set_option maxHeartbeats 1000000 in
set_option maxRecDepth 100000 in
theorem c_X5_connect (l : Launch) (U : xU) (μ0 : xH) (ma : Nat → Nat) (m : xV) (hM0 : FRep U μ0 ma 5 FM m) (hiv : IV m) (h80 : ∀ i, i < 4 → m (80 + i) = 0) (hn : Nat) (h6 : m 6 = nI hn) (hb : hn ≤ 9999) (kn : Nat) (hkn : kn ≤ 6) (hk9 : m 940 = nI kn) (h g : Int32) : CtFR l U yX5_connect cX5_connect 3 (some .int) ({ frames := 5, cells := 0, slots := 0, locals := 108 } : Room) [.ref (ma 0), .int h, .int g] μ0 ma 5 FM (mDo (eCon m h g) (aCon (mRec m kn) (tn h) g) m).1 (mDo (eCon m h g) (aCon (mRec m kn) (tn h) g) m).2 := by
  refine Ct.of [some (.ref (ma 0)), some (.int h), some (.int g)] (by decide +kernel) rfl (Nat.le_of_ble_eq_true rfl) (fun K Q X hnm hQ => ?_)
  have hM := FR.rf hM0
  refine aw_iload_n X dX5_connect_0 rfl ?_
  refine aw_cSF (As := [.int _]) X (c_X5_isHose (kl K) U _ _) s_X5_112 k_X5_isHose (by decide) ⟨rfl, rfl⟩ ⟨Nat.zero_le _, Nat.zero_le _⟩ rfl (by exact Nat.le_of_ble_eq_true rfl) dX5_connect_1 ?_
  refine aw_b_eq (tgt := 14) X dX5_connect_4 (by decide) (fun c4_1 => ?_) (fun c4_1 => ?_)
  · skip
    refine aw_ldc X dX5_connect_14 a_X5_115 ?_
    exact aw_iret X hQ dX5_connect_16 ⟨congrArg (fun q => some (Value.int q)) (by simp [mDo, eCon, aCon, c4_1]), hM.to (by simp [mDo, eCon, aCon, c4_1])⟩
  · skip
    refine aw_iload_n X dX5_connect_7 rfl ?_
    refine aw_cSF (As := [.int _]) X (c_X5_isGrade (kl K) U _ _) s_X5_116 k_X5_isGrade (by decide) ⟨rfl, rfl⟩ ⟨Nat.zero_le _, Nat.zero_le _⟩ rfl (by exact Nat.le_of_ble_eq_true rfl) dX5_connect_8 ?_
    refine aw_b_ne (tgt := 17) X dX5_connect_11 (by decide) (fun c11_2 => ?_) (fun c11_2 => ?_)
    · skip
      refine aw_aload_n X dX5_connect_17 rfl ?_
      refine aw_iload_n X dX5_connect_18 rfl ?_
      refine aw_cVFF (As := [.int _]) X hM (c_X5_canConnect (kl K) U _ ma _ hM.1 hiv hn h6 (by omega) _ (tn h) (isG_hv c4_1) (isG_tn c4_1)) s_X5_119 k_X5_canConnect (by decide) ⟨rfl, rfl⟩ ⟨Nat.zero_le _, Nat.zero_le _⟩ rfl (by exact Nat.le_of_ble_eq_true rfl) rfl dX5_connect_19 ?_
      refine aw_b_ne (tgt := 28) X dX5_connect_22 (by decide) (fun c22_3 => ?_) (fun c22_3 => ?_)
      · skip
        refine aw_aload_n X dX5_connect_28 rfl ?_
        refine aw_cVFK (As := []) X hM (c_X5_record (kl K) U _ ma _ hM.1 kn hkn hk9) s_X5_100 k_X5_record (by decide) ⟨rfl, rfl⟩ ⟨Nat.zero_le _, Nat.zero_le _⟩ rfl (by exact Nat.le_of_ble_eq_true rfl) rfl dX5_connect_29 (fun μ z_4 ez_4 hM => ?_)
        have hr : ∀ j, j < 200 → z_4 j = m j := hivr hkn ez_4
        have hivr1 : IV z_4 := hiv.cg (fun k hk => hr k (by omega))
        have h6r : z_4 6 = nI hn := by rw [hr 6 (by omega)]; exact h6
        have h80r : ∀ i, i < 4 → z_4 (80 + i) = 0 := fun i hi => by rw [hr _ (by omega)]; exact h80 i hi
        refine aw_aload_n X dX5_connect_32 rfl ?_
        refine aw_iload_n X dX5_connect_33 rfl ?_
        refine aw_iload_n X dX5_connect_34 rfl ?_
        refine aw_cVFR (As := [.int _, .int _]) X hM (c_X5_doConnect (kl K) U _ ma _ hM.1 hivr1 _ (tn h) (isG_hv c4_1) (isG_tn c4_1) g c11_2) s_X5_122 k_X5_doConnect (by decide) ⟨rfl, rfl⟩ ⟨Nat.zero_le _, Nat.zero_le _⟩ rfl (by exact Nat.le_of_ble_eq_true rfl) rfl dX5_connect_35 (fun μ z_5 ez_5 hM => ?_)
        exact aw_iret X hQ dX5_connect_38 ⟨congrArg (fun q => some (Value.int q)) (by subst ez_4 ez_5; simp [mDo, eCon, aCon, c4_1, c11_2, c22_3]), hM.to (by subst ez_4 ez_5; simp [mDo, eCon, aCon, c4_1, c11_2, c22_3])⟩
      · skip
        refine aw_ldc X dX5_connect_25 a_X5_108 ?_
        exact aw_iret X hQ dX5_connect_27 ⟨congrArg (fun q => some (Value.int q)) (by simp [mDo, eCon, aCon, c4_1, c11_2, c22_3]), hM.to (by simp [mDo, eCon, aCon, c4_1, c11_2, c22_3])⟩
    · skip
      refine aw_ldc X dX5_connect_14 a_X5_115 ?_
      exact aw_iret X hQ dX5_connect_16 ⟨congrArg (fun q => some (Value.int q)) (by simp [mDo, eCon, aCon, c4_1, c11_2]), hM.to (by simp [mDo, eCon, aCon, c4_1, c11_2])⟩

set_option maxHeartbeats 1000000 in
set_option maxRecDepth 100000 in
theorem c_X5_doDisconnect (l : Launch) (U : xU) (μ0 : xH) (ma : Nat → Nat) (m : xV) (hM0 : FRep U μ0 ma 5 FM m) (hiv : IV m) (p : Int32) (pn : Nat) (hp : p = nI pn) (hpn : pn < 4) : CtFR l U yX5_doDisconnect cX5_doDisconnect 3 (some .int) ({ frames := 1, cells := 0, slots := 0, locals := 23 } : Room) [.ref (ma 0), .int p] μ0 ma 5 FM (aDis m pn).1 (aDis m pn).2 := by
  refine Ct.of [some (.ref (ma 0)), some (.int p), none] (by decide +kernel) rfl (Nat.le_of_ble_eq_true rfl) (fun K Q X hnm hQ => ?_)
  have hM := FR.rf hM0
  refine aw_aload_n X dX5_doDisconnect_0 rfl ?_
  refine aw_iload_n X dX5_doDisconnect_1 rfl ?_
  refine aw_iconst X (2) dX5_doDisconnect_2 rfl ?_
  refine aw_cVFF (As := [.int _, .int _]) X hM (c_X5_hoseOf (kl K) U _ ma _ hM.1 _ _ pn 2 hp rfl (by omega) (by decide)) s_X5_63 k_X5_hoseOf (by decide) ⟨rfl, rfl⟩ ⟨Nat.zero_le _, Nat.zero_le _⟩ rfl (by exact Nat.le_of_ble_eq_true rfl) rfl dX5_doDisconnect_3 ?_
  refine aw_istore_n X dX5_doDisconnect_6 rfl (by decide) ?_
  refine aw_aload_n X dX5_doDisconnect_7 rfl ?_
  refine aw_iload_n X dX5_doDisconnect_8 rfl ?_
  refine aw_iconst X (2) dX5_doDisconnect_9 rfl ?_
  refine aw_ldc X dX5_doDisconnect_10 a_X5_36 ?_
  refine aw_cVFK (As := [.int _, .int _, .int _]) X hM (c_X5_setHose (kl K) U _ ma _ hM.1 _ _ _ pn 2 hp rfl (by omega) (by decide)) s_X5_32 k_X5_setHose (by decide) ⟨rfl, rfl⟩ ⟨Nat.zero_le _, Nat.zero_le _⟩ rfl (by exact Nat.le_of_ble_eq_true rfl) rfl dX5_doDisconnect_12 (fun μ z_1 ez_1 hM => ?_)
  refine aw_iload_n X dX5_doDisconnect_15 rfl ?_
  exact aw_iret X hQ dX5_doDisconnect_16 ⟨congrArg (fun q => some (Value.int q)) (by subst ez_1; rfl), hM.to (by subst ez_1; rfl)⟩

set_option maxHeartbeats 1000000 in
set_option maxRecDepth 100000 in
theorem c_X5_disconnect (l : Launch) (U : xU) (μ0 : xH) (ma : Nat → Nat) (m : xV) (hM0 : FRep U μ0 ma 5 FM m) (hiv : IV m) (h80 : ∀ i, i < 4 → m (80 + i) = 0) (hn : Nat) (h6 : m 6 = nI hn) (hb : hn ≤ 9999) (kn : Nat) (hkn : kn ≤ 6) (hk9 : m 940 = nI kn) (h : Int32) : CtFR l U yX5_disconnect cX5_disconnect 2 (some .int) ({ frames := 2, cells := 0, slots := 0, locals := 45 } : Room) [.ref (ma 0), .int h] μ0 ma 5 FM (mDo (eDis m h) (aDis (mRec m kn) (tn h)) m).1 (mDo (eDis m h) (aDis (mRec m kn) (tn h)) m).2 := by
  refine Ct.of [some (.ref (ma 0)), some (.int h)] (by decide +kernel) rfl (Nat.le_of_ble_eq_true rfl) (fun K Q X hnm hQ => ?_)
  have hM := FR.rf hM0
  refine aw_iload_n X dX5_disconnect_0 rfl ?_
  refine aw_cSF (As := [.int _]) X (c_X5_isHose (kl K) U _ _) s_X5_112 k_X5_isHose (by decide) ⟨rfl, rfl⟩ ⟨Nat.zero_le _, Nat.zero_le _⟩ rfl (by exact Nat.le_of_ble_eq_true rfl) dX5_disconnect_1 ?_
  refine aw_b_ne (tgt := 10) X dX5_disconnect_4 (by decide) (fun c4_1 => ?_) (fun c4_1 => ?_)
  · skip
    refine aw_aload_n X dX5_disconnect_10 rfl ?_
    refine aw_iload_n X dX5_disconnect_11 rfl ?_
    refine aw_cVFF (As := [.int _]) X hM (c_X5_isConnected (kl K) U _ ma _ hM.1 _ (tn h) (isG_hv c4_1) (isG_tn c4_1) ((hiv.2.2.2.2.2.2.1 (tn h) (isG_tn c4_1)).2.2.1)) s_X5_66 k_X5_isConnected (by decide) ⟨rfl, rfl⟩ ⟨Nat.zero_le _, Nat.zero_le _⟩ rfl (by exact Nat.le_of_ble_eq_true rfl) rfl dX5_disconnect_12 ?_
    refine aw_b_ne (tgt := 21) X dX5_disconnect_15 (by decide) (fun c15_2 => ?_) (fun c15_2 => ?_)
    · skip
      refine aw_aload_n X dX5_disconnect_21 rfl ?_
      refine aw_cVFK (As := []) X hM (c_X5_record (kl K) U _ ma _ hM.1 kn hkn hk9) s_X5_100 k_X5_record (by decide) ⟨rfl, rfl⟩ ⟨Nat.zero_le _, Nat.zero_le _⟩ rfl (by exact Nat.le_of_ble_eq_true rfl) rfl dX5_disconnect_22 (fun μ z_3 ez_3 hM => ?_)
      have hr : ∀ j, j < 200 → z_3 j = m j := hivr hkn ez_3
      have hivr1 : IV z_3 := hiv.cg (fun k hk => hr k (by omega))
      have h6r : z_3 6 = nI hn := by rw [hr 6 (by omega)]; exact h6
      have h80r : ∀ i, i < 4 → z_3 (80 + i) = 0 := fun i hi => by rw [hr _ (by omega)]; exact h80 i hi
      refine aw_aload_n X dX5_disconnect_25 rfl ?_
      refine aw_iload_n X dX5_disconnect_26 rfl ?_
      refine aw_cVFR (As := [.int _]) X hM (c_X5_doDisconnect (kl K) U _ ma _ hM.1 hivr1 _ (tn h) (isG_hv c4_1) (isG_tn c4_1)) s_X5_125 k_X5_doDisconnect (by decide) ⟨rfl, rfl⟩ ⟨Nat.zero_le _, Nat.zero_le _⟩ rfl (by exact Nat.le_of_ble_eq_true rfl) rfl dX5_disconnect_27 (fun μ z_4 ez_4 hM => ?_)
      exact aw_iret X hQ dX5_disconnect_30 ⟨congrArg (fun q => some (Value.int q)) (by subst ez_3 ez_4; simp [mDo, eDis, aDis, c4_1, c15_2]), hM.to (by subst ez_3 ez_4; simp [mDo, eDis, aDis, c4_1, c15_2])⟩
    · skip
      refine aw_ldc X dX5_disconnect_18 a_X5_108 ?_
      exact aw_iret X hQ dX5_disconnect_20 ⟨congrArg (fun q => some (Value.int q)) (by simp [mDo, eDis, aDis, c4_1, c15_2]), hM.to (by simp [mDo, eDis, aDis, c4_1, c15_2])⟩
  · skip
    refine aw_ldc X dX5_disconnect_7 a_X5_115 ?_
    exact aw_iret X hQ dX5_disconnect_9 ⟨congrArg (fun q => some (Value.int q)) (by simp [mDo, eDis, aDis, c4_1]), hM.to (by simp [mDo, eDis, aDis, c4_1])⟩

set_option maxHeartbeats 1000000 in
set_option maxRecDepth 100000 in
theorem c_X5_doFlush (l : Launch) (U : xU) (μ0 : xH) (ma : Nat → Nat) (m : xV) (hM0 : FRep U μ0 ma 5 FM m) (hiv : IV m) (p : Int32) (pn : Nat) (hp : p = nI pn) (hpn : pn < 4) (hG : isG (m (hz pn 1)) = true) : CtFR l U yX5_doFlush cX5_doFlush 4 (some .int) ({ frames := 1, cells := 0, slots := 0, locals := 23 } : Room) [.ref (ma 0), .int p] μ0 ma 5 FM (aFlu m pn).1 (aFlu m pn).2 := by
  refine Ct.of [some (.ref (ma 0)), some (.int p), none, none] (by decide +kernel) rfl (Nat.le_of_ble_eq_true rfl) (fun K Q X hnm hQ => ?_)
  have hM := FR.rf hM0
  refine aw_aload_n X dX5_doFlush_0 rfl ?_
  refine aw_iload_n X dX5_doFlush_1 rfl ?_
  refine aw_iconst X (1) dX5_doFlush_2 rfl ?_
  refine aw_cVFF (As := [.int _, .int _]) X hM (c_X5_hoseOf (kl K) U _ ma _ hM.1 _ _ pn 1 hp rfl (by omega) (by decide)) s_X5_63 k_X5_hoseOf (by decide) ⟨rfl, rfl⟩ ⟨Nat.zero_le _, Nat.zero_le _⟩ rfl (by exact Nat.le_of_ble_eq_true rfl) rfl dX5_doFlush_3 ?_
  refine aw_istore_n X dX5_doFlush_6 rfl (by decide) ?_
  refine aw_iconst X (5) dX5_doFlush_7 rfl ?_
  refine aw_aload_n X dX5_doFlush_8 rfl ?_
  refine aw_fgetA X hM 0 (t := 0) (b := 0) (n := 80) rfl f_X5_7 dX5_doFlush_9 ?_
  refine aw_bipush X (14) dX5_doFlush_12 rfl ?_
  refine aw_iload_n X dX5_doFlush_14 rfl ?_
  refine aw_iadd X dX5_doFlush_15 ?_
  refine aw_top (nI (14 + tn (m (hz pn 1)))) (ixg hG _ _ rfl) ?_
  have hgb15 : tn (m (hz pn 1)) < 4 := isG_tn hG
  refine aw_fiald X hM 0 (b := 0) (n := 80) rfl (14 + tn (m (hz pn 1))) (vp_in_nI (by omega) (by decide)) (by rw [nI_clamp (by omega), Nat.zero_add]) dX5_doFlush_16 ?_
  refine aw_cSF (As := [.int _, .int _]) X (c_X5_least (kl K) U _ _ _) s_X5_70 k_X5_least (by decide) ⟨rfl, rfl⟩ ⟨Nat.zero_le _, Nat.zero_le _⟩ rfl (by exact Nat.le_of_ble_eq_true rfl) dX5_doFlush_17 ?_
  refine aw_istore_n X dX5_doFlush_20 rfl (by decide) ?_
  refine aw_aload_n X dX5_doFlush_21 rfl ?_
  refine aw_fgetA X hM 0 (t := 0) (b := 0) (n := 80) rfl f_X5_7 dX5_doFlush_22 ?_
  refine aw_bipush X (14) dX5_doFlush_25 rfl ?_
  refine aw_iload_n X dX5_doFlush_27 rfl ?_
  refine aw_iadd X dX5_doFlush_28 ?_
  refine aw_top (nI (14 + tn (m (hz pn 1)))) (ixg hG _ _ rfl) ?_
  have hgb28 : tn (m (hz pn 1)) < 4 := isG_tn hG
  refine aw_dup2 X dX5_doFlush_29 rfl rfl ?_
  refine aw_fiald X hM 0 (b := 0) (n := 80) rfl (14 + tn (m (hz pn 1))) (vp_in_nI (by omega) (by decide)) (by rw [nI_clamp (by omega), Nat.zero_add]) dX5_doFlush_30 ?_
  refine aw_iload_n X dX5_doFlush_31 rfl ?_
  refine aw_isub X dX5_doFlush_32 ?_
  refine aw_fiast X FM_a hM 0 (b := 0) (n := 80) rfl (14 + tn (m (hz pn 1))) (vp_in_nI (by omega) (by decide)) (by rw [nI_clamp (by omega), Nat.zero_add]) dX5_doFlush_33 (fun μ z_1 ez_1 hM => ?_)
  refine aw_aload_n X dX5_doFlush_34 rfl ?_
  refine aw_fgetA X hM 0 (t := 0) (b := 0) (n := 80) rfl f_X5_7 dX5_doFlush_35 ?_
  refine aw_bipush X (18) dX5_doFlush_38 rfl ?_
  refine aw_iload_n X dX5_doFlush_40 rfl ?_
  refine aw_iadd X dX5_doFlush_41 ?_
  refine aw_top (nI (18 + tn (m (hz pn 1)))) (ixg hG _ _ rfl) ?_
  have hgb41 : tn (m (hz pn 1)) < 4 := isG_tn hG
  refine aw_dup2 X dX5_doFlush_42 rfl rfl ?_
  refine aw_fiald X hM 0 (b := 0) (n := 80) rfl (18 + tn (m (hz pn 1))) (vp_in_nI (by omega) (by decide)) (by rw [nI_clamp (by omega), Nat.zero_add]) dX5_doFlush_43 ?_
  refine aw_iload_n X dX5_doFlush_44 rfl ?_
  refine aw_iadd X dX5_doFlush_45 ?_
  refine aw_fiast X FM_a hM 0 (b := 0) (n := 80) rfl (18 + tn (m (hz pn 1))) (vp_in_nI (by omega) (by decide)) (by rw [nI_clamp (by omega), Nat.zero_add]) dX5_doFlush_46 (fun μ z_2 ez_2 hM => ?_)
  refine aw_aload_n X dX5_doFlush_47 rfl ?_
  refine aw_iload_n X dX5_doFlush_48 rfl ?_
  refine aw_iconst X (1) dX5_doFlush_49 rfl ?_
  refine aw_ldc X dX5_doFlush_50 a_X5_36 ?_
  refine aw_cVFK (As := [.int _, .int _, .int _]) X hM (c_X5_setHose (kl K) U _ ma _ hM.1 _ _ _ pn 1 hp rfl (by omega) (by decide)) s_X5_32 k_X5_setHose (by decide) ⟨rfl, rfl⟩ ⟨Nat.zero_le _, Nat.zero_le _⟩ rfl (by exact Nat.le_of_ble_eq_true rfl) rfl dX5_doFlush_52 (fun μ z_3 ez_3 hM => ?_)
  refine aw_iload_n X dX5_doFlush_55 rfl ?_
  exact aw_iret X hQ dX5_doFlush_56 ⟨congrArg (fun q => some (Value.int q)) (by subst ez_1 ez_2 ez_3; rfl), hM.to (by subst ez_1 ez_2 ez_3; rfl)⟩

set_option maxHeartbeats 1000000 in
set_option maxRecDepth 100000 in
theorem c_X5_flush (l : Launch) (U : xU) (μ0 : xH) (ma : Nat → Nat) (m : xV) (hM0 : FRep U μ0 ma 5 FM m) (hiv : IV m) (h80 : ∀ i, i < 4 → m (80 + i) = 0) (hn : Nat) (h6 : m 6 = nI hn) (hb : hn ≤ 9999) (kn : Nat) (hkn : kn ≤ 6) (hk9 : m 940 = nI kn) (h : Int32) : CtFR l U yX5_flush cX5_flush 2 (some .int) ({ frames := 3, cells := 0, slots := 0, locals := 64 } : Room) [.ref (ma 0), .int h] μ0 ma 5 FM (mDo (eFlu m h) (aFlu (mRec m kn) (tn h)) m).1 (mDo (eFlu m h) (aFlu (mRec m kn) (tn h)) m).2 := by
  refine Ct.of [some (.ref (ma 0)), some (.int h)] (by decide +kernel) rfl (Nat.le_of_ble_eq_true rfl) (fun K Q X hnm hQ => ?_)
  have hM := FR.rf hM0
  refine aw_iload_n X dX5_flush_0 rfl ?_
  refine aw_cSF (As := [.int _]) X (c_X5_isHose (kl K) U _ _) s_X5_112 k_X5_isHose (by decide) ⟨rfl, rfl⟩ ⟨Nat.zero_le _, Nat.zero_le _⟩ rfl (by exact Nat.le_of_ble_eq_true rfl) dX5_flush_1 ?_
  refine aw_b_ne (tgt := 10) X dX5_flush_4 (by decide) (fun c4_1 => ?_) (fun c4_1 => ?_)
  · skip
    refine aw_aload_n X dX5_flush_10 rfl ?_
    refine aw_iload_n X dX5_flush_11 rfl ?_
    refine aw_cVFF (As := [.int _]) X hM (c_X5_canFlush (kl K) U _ ma _ hM.1 hiv _ (tn h) (isG_hv c4_1) (isG_tn c4_1)) s_X5_128 k_X5_canFlush (by decide) ⟨rfl, rfl⟩ ⟨Nat.zero_le _, Nat.zero_le _⟩ rfl (by exact Nat.le_of_ble_eq_true rfl) rfl dX5_flush_12 ?_
    refine aw_b_ne (tgt := 21) X dX5_flush_15 (by decide) (fun c15_2 => ?_) (fun c15_2 => ?_)
    · skip
      refine aw_aload_n X dX5_flush_21 rfl ?_
      refine aw_cVFK (As := []) X hM (c_X5_record (kl K) U _ ma _ hM.1 kn hkn hk9) s_X5_100 k_X5_record (by decide) ⟨rfl, rfl⟩ ⟨Nat.zero_le _, Nat.zero_le _⟩ rfl (by exact Nat.le_of_ble_eq_true rfl) rfl dX5_flush_22 (fun μ z_3 ez_3 hM => ?_)
      have hr : ∀ j, j < 200 → z_3 j = m j := hivr hkn ez_3
      have hivr1 : IV z_3 := hiv.cg (fun k hk => hr k (by omega))
      have h6r : z_3 6 = nI hn := by rw [hr 6 (by omega)]; exact h6
      have h80r : ∀ i, i < 4 → z_3 (80 + i) = 0 := fun i hi => by rw [hr _ (by omega)]; exact h80 i hi
      refine aw_aload_n X dX5_flush_25 rfl ?_
      refine aw_iload_n X dX5_flush_26 rfl ?_
      refine aw_cVFR (As := [.int _]) X hM (c_X5_doFlush (kl K) U _ ma _ hM.1 hivr1 _ (tn h) (isG_hv c4_1) (isG_tn c4_1) (by rw [hr _ (by have : tn h < 4 := isG_tn c4_1; simp only [hz]; omega)]; unfold kFlu at c15_2; simp at c15_2; exact c15_2.2)) s_X5_131 k_X5_doFlush (by decide) ⟨rfl, rfl⟩ ⟨Nat.zero_le _, Nat.zero_le _⟩ rfl (by exact Nat.le_of_ble_eq_true rfl) rfl dX5_flush_27 (fun μ z_4 ez_4 hM => ?_)
      exact aw_iret X hQ dX5_flush_30 ⟨congrArg (fun q => some (Value.int q)) (by subst ez_3 ez_4; simp [mDo, eFlu, aFlu, c4_1, c15_2]), hM.to (by subst ez_3 ez_4; simp [mDo, eFlu, aFlu, c4_1, c15_2])⟩
    · skip
      refine aw_ldc X dX5_flush_18 a_X5_108 ?_
      exact aw_iret X hQ dX5_flush_20 ⟨congrArg (fun q => some (Value.int q)) (by simp [mDo, eFlu, aFlu, c4_1, c15_2]), hM.to (by simp [mDo, eFlu, aFlu, c4_1, c15_2])⟩
  · skip
    refine aw_ldc X dX5_flush_7 a_X5_115 ?_
    exact aw_iret X hQ dX5_flush_9 ⟨congrArg (fun q => some (Value.int q)) (by simp [mDo, eFlu, aFlu, c4_1]), hM.to (by simp [mDo, eFlu, aFlu, c4_1])⟩

set_option maxHeartbeats 1000000 in
set_option maxRecDepth 100000 in
theorem c_X5_mend (l : Launch) (U : xU) (μ0 : xH) (ma : Nat → Nat) (m : xV) (hM0 : FRep U μ0 ma 5 FM m) (hiv : IV m) (h80 : ∀ i, i < 4 → m (80 + i) = 0) (hn : Nat) (h6 : m 6 = nI hn) (hb : hn ≤ 9999) (kn : Nat) (hkn : kn ≤ 6) (hk9 : m 940 = nI kn) (h : Int32) : CtFR l U yX5_mend cX5_mend 2 (some .int) ({ frames := 2, cells := 0, slots := 0, locals := 44 } : Room) [.ref (ma 0), .int h] μ0 ma 5 FM (mDo (eMen m h) (aMen (mRec m kn) (tn h)) m).1 (mDo (eMen m h) (aMen (mRec m kn) (tn h)) m).2 := by
  refine Ct.of [some (.ref (ma 0)), some (.int h)] (by decide +kernel) rfl (Nat.le_of_ble_eq_true rfl) (fun K Q X hnm hQ => ?_)
  have hM := FR.rf hM0
  refine aw_iload_n X dX5_mend_0 rfl ?_
  refine aw_cSF (As := [.int _]) X (c_X5_isHose (kl K) U _ _) s_X5_112 k_X5_isHose (by decide) ⟨rfl, rfl⟩ ⟨Nat.zero_le _, Nat.zero_le _⟩ rfl (by exact Nat.le_of_ble_eq_true rfl) dX5_mend_1 ?_
  refine aw_b_ne (tgt := 10) X dX5_mend_4 (by decide) (fun c4_1 => ?_) (fun c4_1 => ?_)
  · skip
    refine aw_aload_n X dX5_mend_10 rfl ?_
    refine aw_iload_n X dX5_mend_11 rfl ?_
    refine aw_iconst X (3) dX5_mend_12 rfl ?_
    refine aw_cVFF (As := [.int _, .int _]) X hM (c_X5_hoseOf (kl K) U _ ma _ hM.1 _ _ (tn h) 3 (isG_hv c4_1) rfl (isG_tn c4_1) (by decide)) s_X5_63 k_X5_hoseOf (by decide) ⟨rfl, rfl⟩ ⟨Nat.zero_le _, Nat.zero_le _⟩ rfl (by exact Nat.le_of_ble_eq_true rfl) rfl dX5_mend_13 ?_
    refine aw_if_ne (tgt := 22) X dX5_mend_16 (by decide) (fun c16_2 => ?_) (fun c16_2 => ?_)
    · skip
      refine aw_aload_n X dX5_mend_22 rfl ?_
      refine aw_cVFK (As := []) X hM (c_X5_record (kl K) U _ ma _ hM.1 kn hkn hk9) s_X5_100 k_X5_record (by decide) ⟨rfl, rfl⟩ ⟨Nat.zero_le _, Nat.zero_le _⟩ rfl (by exact Nat.le_of_ble_eq_true rfl) rfl dX5_mend_23 (fun μ z_3 ez_3 hM => ?_)
      have hr : ∀ j, j < 200 → z_3 j = m j := hivr hkn ez_3
      have hivr1 : IV z_3 := hiv.cg (fun k hk => hr k (by omega))
      have h6r : z_3 6 = nI hn := by rw [hr 6 (by omega)]; exact h6
      have h80r : ∀ i, i < 4 → z_3 (80 + i) = 0 := fun i hi => by rw [hr _ (by omega)]; exact h80 i hi
      refine aw_aload_n X dX5_mend_26 rfl ?_
      refine aw_iload_n X dX5_mend_27 rfl ?_
      refine aw_iconst X (3) dX5_mend_28 rfl ?_
      refine aw_iconst X (0) dX5_mend_29 rfl ?_
      refine aw_cVFK (As := [.int _, .int _, .int _]) X hM (c_X5_setHose (kl K) U _ ma _ hM.1 _ _ _ (tn h) 3 (isG_hv c4_1) rfl (isG_tn c4_1) (by decide)) s_X5_32 k_X5_setHose (by decide) ⟨rfl, rfl⟩ ⟨Nat.zero_le _, Nat.zero_le _⟩ rfl (by exact Nat.le_of_ble_eq_true rfl) rfl dX5_mend_30 (fun μ z_4 ez_4 hM => ?_)
      have hxa : ∀ i, i < 4 → xz (z_4 (hz i 3)) := by
        intro i hi
        rw [ez_4]
        exact upd_el (P := xz) (hivr1.2.2.2.2.2.2.1 i hi).2.2.2.1 (fun _ => Or.inl rfl)
      refine aw_aload_n X dX5_mend_33 rfl ?_
      refine aw_iload_n X dX5_mend_34 rfl ?_
      refine aw_iconst X (1) dX5_mend_35 rfl ?_
      refine aw_ldc X dX5_mend_36 a_X5_36 ?_
      refine aw_cVFK (As := [.int _, .int _, .int _]) X hM (c_X5_setHose (kl K) U _ ma _ hM.1 _ _ _ (tn h) 1 (isG_hv c4_1) rfl (isG_tn c4_1) (by decide)) s_X5_32 k_X5_setHose (by decide) ⟨rfl, rfl⟩ ⟨Nat.zero_le _, Nat.zero_le _⟩ rfl (by exact Nat.le_of_ble_eq_true rfl) rfl dX5_mend_38 (fun μ z_5 ez_5 hM => ?_)
      have hxb : ∀ i, i < 4 → xz (z_5 (hz i 3)) := by
        intro i hi
        rw [ez_5, upd_n (by simp only [hz]; omega)]
        exact hxa i hi
      refine aw_aload_n X dX5_mend_41 rfl ?_
      refine aw_cVFF (As := []) X hM (c_X5_burst (kl K) U _ ma _ hM.1 (hxb)) s_X5_134 k_X5_burst (by decide) ⟨rfl, rfl⟩ ⟨Nat.zero_le _, Nat.zero_le _⟩ rfl (by exact Nat.le_of_ble_eq_true rfl) rfl dX5_mend_42 ?_
      exact aw_iret X hQ dX5_mend_45 ⟨congrArg (fun q => some (Value.int q)) (by subst ez_3 ez_4 ez_5; simp [mDo, eMen, aMen, c4_1, c16_2]), hM.to (by subst ez_3 ez_4 ez_5; simp [mDo, eMen, aMen, c4_1, c16_2])⟩
    · skip
      refine aw_ldc X dX5_mend_19 a_X5_108 ?_
      exact aw_iret X hQ dX5_mend_21 ⟨congrArg (fun q => some (Value.int q)) (by simp [mDo, eMen, aMen, c4_1, c16_2]), hM.to (by simp [mDo, eMen, aMen, c4_1, c16_2])⟩
  · skip
    refine aw_ldc X dX5_mend_7 a_X5_115 ?_
    exact aw_iret X hQ dX5_mend_9 ⟨congrArg (fun q => some (Value.int q)) (by simp [mDo, eMen, aMen, c4_1]), hM.to (by simp [mDo, eMen, aMen, c4_1])⟩
