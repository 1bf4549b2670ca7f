/-! the model's reading of an order -/
def mHo (m : xV) (n a : Nat) : xV :=
  let z1 := upd m 946 (tM m n a - 48)
  let z2 := upd z1 942 (nI (a + 1))
  let c := tM m n (a + 1)
  let z3 := upd z2 944 c
  if ¬ c = 61 ∧ ¬ c = 45 ∧ ¬ c = 126 then upd (upd z3 943 1) 942 (nI (a + 1))
  else
    let z5 := upd (upd z3 943 0) 942 (nI (a + 1 + 1))
    if ¬ c = 61 then z5
    else
      let g := tM m n (a + 1 + 1) - 97
      let z6 := upd z5 947 g
      if isG g = true then upd (upd z6 943 0) 942 (nI (a + 1 + 1 + 1)) else upd (upd z6 943 1) 942 (nI (a + 1 + 1))
def mOrd (m : xV) (n a : Nat) : xV :=
  let z1 := upd m 944 (tM m n a)
  if (decide (m 943 = 0) && inB (tM m n a) 48 51) = true then mHo z1 n a
  else if tM m n a = 43 then (mUni (upd z1 942 (nI (a + 1))) n (a + 1)).2
  else if tM m n a = 46 then mNr (upd z1 942 (nI (a + 1))) n (a + 1) 48
  else upd z1 943 1
set_option maxHeartbeats 400000 in
set_option maxRecDepth 100000 in
theorem c_X5_readHose (l : Launch) (U : xU) (μ0 : xH) (ma : Nat → Nat) (m : xV) (hM0 : FRep U μ0 ma 5 FM m) (n a : Nat) (hp : patM m n a) (han : a < n) : CtFK l U yX5_readHose cX5_readHose 1 none ({ frames := 2, cells := 0, slots := 0, locals := 42 } : Room) [.ref (ma 0)] μ0 ma 5 FM (mHo m n a) := by
  refine Ct.of [some (.ref (ma 0))] (by decide +kernel) rfl (Nat.le_of_ble_eq_true rfl) (fun K Q X hnm hQ => ?_)
  obtain ⟨μ, hμ, hM⟩ : ∃ μ : xH, μ0 = μ ∧ FR U μ0 μ ma 5 FM m := ⟨μ0, rfl, FR.rf hM0⟩
  refine aw_mu hμ ?_
  have htm : ∀ j, tM m n j = tM m n j := fun _ => rfl
  refine aw_aload_n X dX5_readHose_0 rfl ?_
  refine aw_aload_n X dX5_readHose_1 rfl ?_
  refine aw_cVFF (As := []) X hM (c_X5_sign (kl K) U _ ma _ hM.1 n (a) hp) s_X5_167 k_X5_sign (by decide) ⟨rfl, rfl⟩ ⟨Nat.zero_le _, Nat.zero_le _⟩ rfl (by exact Nat.le_of_ble_eq_true rfl) rfl dX5_readHose_2 ?_
  refine aw_top ((tM m n (a))) (htm _) ?_
  refine aw_bipush X (48) dX5_readHose_5 rfl ?_
  refine aw_isub X dX5_readHose_7 ?_
  refine aw_fput X FM_a hM 12 (b := 946) (n := 0) rfl f_X5_179 rfl (by decide +kernel) dX5_readHose_8 (fun μ z_1 ez_1 hM => ?_)
  have hpz_1 : patM z_1 n (a) := by rw [ez_1]; exact patM_up (hp) (by omega) (by omega)
  have htz_1 : ∀ j, tM z_1 n j = tM m n j := fun j => (show tM z_1 n j = tM m n j by rw [ez_1]; exact tM_up (hp).2.2.1 (by omega)).trans (htm j)
  refine aw_aload_n X dX5_readHose_11 rfl ?_
  refine aw_dup X dX5_readHose_12 rfl ?_
  refine aw_fgetI X hM 8 (t := 0) (b := 942) (n := 0) rfl f_X5_160 dX5_readHose_13 ?_
  refine aw_iconst X (1) dX5_readHose_16 rfl ?_
  refine aw_iadd X dX5_readHose_17 ?_
  refine aw_top (nI (a + 1)) (by rw [(hpz_1).2.1]; exact nI_1 _) ?_
  refine aw_fput X FM_a hM 8 (b := 942) (n := 0) rfl f_X5_160 rfl (by decide +kernel) dX5_readHose_18 (fun μ z_2 ez_2 hM => ?_)
  have hpz_2 : patM z_2 n (a + 1) := by rw [ez_2]; exact patM_at (hpz_1) (by omega)
  have htz_2 : ∀ j, tM z_2 n j = tM m n j := fun j => (show tM z_2 n j = tM z_1 n j by rw [ez_2]; exact tM_up (hpz_1).2.2.1 (by omega)).trans (htz_1 j)
  refine aw_aload_n X dX5_readHose_21 rfl ?_
  refine aw_aload_n X dX5_readHose_22 rfl ?_
  refine aw_cVFF (As := []) X hM (c_X5_sign (kl K) U _ ma _ hM.1 n (a + 1) hpz_2) s_X5_167 k_X5_sign (by decide) ⟨rfl, rfl⟩ ⟨Nat.zero_le _, Nat.zero_le _⟩ rfl (by exact Nat.le_of_ble_eq_true rfl) rfl dX5_readHose_23 ?_
  refine aw_top ((tM m n (a + 1))) (htz_2 _) ?_
  refine aw_fput X FM_a hM 10 (b := 944) (n := 0) rfl f_X5_182 rfl (by decide +kernel) dX5_readHose_26 (fun μ z_3 ez_3 hM => ?_)
  have hpz_3 : patM z_3 n (a + 1) := by rw [ez_3]; exact patM_up (hpz_2) (by omega) (by omega)
  have htz_3 : ∀ j, tM z_3 n j = tM m n j := fun j => (show tM z_3 n j = tM z_2 n j by rw [ez_3]; exact tM_up (hpz_2).2.2.1 (by omega)).trans (htz_2 j)
  have hkz_3 : z_3 944 = (tM m n (a + 1)) := by rw [ez_3, upd_s]
  refine aw_aload_n X dX5_readHose_29 rfl ?_
  refine aw_aload_n X dX5_readHose_30 rfl ?_
  refine aw_fgetI X hM 10 (t := 0) (b := 944) (n := 0) rfl f_X5_182 dX5_readHose_31 ?_
  refine aw_top (tM m n (a + 1)) hkz_3 ?_
  refine aw_bipush X (61) dX5_readHose_34 rfl ?_
  refine aw_icmp_eq (tgt := 61) X dX5_readHose_36 (by decide) (fun c36_4 => ?_) (fun c36_4 => ?_)
  · skip
    have hlt2 : a + 1 < n := tM_lt (m := m) (by rw [c36_4]; decide)
    refine aw_iconst X (0) dX5_readHose_61 rfl ?_
    refine aw_fputZ X FM_a hM 9 (b := 943) (n := 0) rfl ((by decide)) f_X5_163 rfl (by decide +kernel) dX5_readHose_62 (fun μ z_5 ez_5 hM => ?_)
    have hpz_5 : patM z_5 n (a + 1) := by rw [ez_5]; exact patM_up (hpz_3) (by omega) (by omega)
    have htz_5 : ∀ j, tM z_5 n j = tM m n j := fun j => (show tM z_5 n j = tM z_3 n j by rw [ez_5]; exact tM_up (hpz_3).2.2.1 (by omega)).trans (htz_3 j)
    have hkz_5 : z_5 944 = (tM m n (a + 1)) := by rw [ez_5, upd_n (by decide)]; exact hkz_3
    have hwz_5 : z_5 943 = 0 := by rw [ez_5, upd_s]
    refine aw_aload_n X dX5_readHose_65 rfl ?_
    refine aw_dup X dX5_readHose_66 rfl ?_
    refine aw_fgetI X hM 8 (t := 0) (b := 942) (n := 0) rfl f_X5_160 dX5_readHose_67 ?_
    refine aw_aload_n X dX5_readHose_70 rfl ?_
    refine aw_fgetI X hM 9 (t := 1) (b := 943) (n := 0) rfl f_X5_163 dX5_readHose_71 ?_
    refine aw_top (0) hwz_5 ?_
    refine aw_if_eq_t (tgt := 81) X dX5_readHose_74 (by decide) (by decide) ?_
    refine aw_iconst X (1) dX5_readHose_81 rfl ?_
    refine aw_iadd X dX5_readHose_82 ?_
    refine aw_top (nI (a + 1 + 1)) (by rw [(hpz_5).2.1]; exact nI_1 _) ?_
    refine aw_fput X FM_a hM 8 (b := 942) (n := 0) rfl f_X5_160 rfl (by decide +kernel) dX5_readHose_83 (fun μ z_6 ez_6 hM => ?_)
    have hpz_6 : patM z_6 n (a + 1 + 1) := by rw [ez_6]; exact patM_at (hpz_5) (by omega)
    have htz_6 : ∀ j, tM z_6 n j = tM m n j := fun j => (show tM z_6 n j = tM z_5 n j by rw [ez_6]; exact tM_up (hpz_5).2.2.1 (by omega)).trans (htz_5 j)
    have hkz_6 : z_6 944 = (tM m n (a + 1)) := by rw [ez_6, upd_n (by decide)]; exact hkz_5
    refine aw_aload_n X dX5_readHose_86 rfl ?_
    refine aw_fgetI X hM 10 (t := 0) (b := 944) (n := 0) rfl f_X5_182 dX5_readHose_87 ?_
    refine aw_top (tM m n (a + 1)) hkz_6 ?_
    refine aw_bipush X (61) dX5_readHose_90 rfl ?_
    refine aw_icmp_ne_f (tgt := 146) X dX5_readHose_92 (by decide) c36_4 ?_
    refine aw_aload_n X dX5_readHose_95 rfl ?_
    refine aw_aload_n X dX5_readHose_96 rfl ?_
    refine aw_cVFF (As := []) X hM (c_X5_sign (kl K) U _ ma _ hM.1 n (a + 1 + 1) hpz_6) s_X5_167 k_X5_sign (by decide) ⟨rfl, rfl⟩ ⟨Nat.zero_le _, Nat.zero_le _⟩ rfl (by exact Nat.le_of_ble_eq_true rfl) rfl dX5_readHose_97 ?_
    refine aw_top ((tM m n (a + 1 + 1))) (htz_6 _) ?_
    refine aw_bipush X (97) dX5_readHose_100 rfl ?_
    refine aw_isub X dX5_readHose_102 ?_
    refine aw_fput X FM_a hM 13 (b := 947) (n := 0) rfl f_X5_185 rfl (by decide +kernel) dX5_readHose_103 (fun μ z_7 ez_7 hM => ?_)
    have hpz_7 : patM z_7 n (a + 1 + 1) := by rw [ez_7]; exact patM_up (hpz_6) (by omega) (by omega)
    have htz_7 : ∀ j, tM z_7 n j = tM m n j := fun j => (show tM z_7 n j = tM z_6 n j by rw [ez_7]; exact tM_up (hpz_6).2.2.1 (by omega)).trans (htz_6 j)
    have hkz_7 : z_7 944 = (tM m n (a + 1)) := by rw [ez_7, upd_n (by decide)]; exact hkz_6
    have hgz_7 : z_7 947 = ((tM m n (a + 1 + 1)) - (97 : Int32)) := by rw [ez_7, upd_s]
    refine aw_aload_n X dX5_readHose_106 rfl ?_
    refine aw_aload_n X dX5_readHose_107 rfl ?_
    refine aw_fgetI X hM 13 (t := 0) (b := 947) (n := 0) rfl f_X5_185 dX5_readHose_108 ?_
    refine aw_top ((tM m n (a + 1 + 1)) - (97 : Int32)) hgz_7 ?_
    refine aw_cSF (As := [.int _]) X (c_X5_isGrade (kl K) U _ _) s_X5_116 k_X5_isGrade (by decide) ⟨rfl, rfl⟩ ⟨Nat.zero_le _, Nat.zero_le _⟩ rfl (by exact Nat.le_of_ble_eq_true rfl) dX5_readHose_111 ?_
    refine aw_b_ne (tgt := 121) X dX5_readHose_114 (by decide) (fun c114_8 => ?_) (fun c114_8 => ?_)
    · skip
      have hlt3 : a + 1 + 1 < n := tM_lt (m := m) (fun e => by rw [e] at c114_8; exact absurd c114_8 (by decide))
      refine aw_iconst X (0) dX5_readHose_121 rfl ?_
      refine aw_fputZ X FM_a hM 9 (b := 943) (n := 0) rfl ((by decide)) f_X5_163 rfl (by decide +kernel) dX5_readHose_122 (fun μ z_9 ez_9 hM => ?_)
      have hpz_9 : patM z_9 n (a + 1 + 1) := by rw [ez_9]; exact patM_up (hpz_7) (by omega) (by omega)
      have htz_9 : ∀ j, tM z_9 n j = tM m n j := fun j => (show tM z_9 n j = tM z_7 n j by rw [ez_9]; exact tM_up (hpz_7).2.2.1 (by omega)).trans (htz_7 j)
      have hkz_9 : z_9 944 = (tM m n (a + 1)) := by rw [ez_9, upd_n (by decide)]; exact hkz_7
      have hwz_9 : z_9 943 = 0 := by rw [ez_9, upd_s]
      refine aw_aload_n X dX5_readHose_125 rfl ?_
      refine aw_dup X dX5_readHose_126 rfl ?_
      refine aw_fgetI X hM 8 (t := 0) (b := 942) (n := 0) rfl f_X5_160 dX5_readHose_127 ?_
      refine aw_aload_n X dX5_readHose_130 rfl ?_
      refine aw_fgetI X hM 9 (t := 1) (b := 943) (n := 0) rfl f_X5_163 dX5_readHose_131 ?_
      refine aw_top (0) hwz_9 ?_
      refine aw_if_eq_t (tgt := 141) X dX5_readHose_134 (by decide) (by decide) ?_
      refine aw_iconst X (1) dX5_readHose_141 rfl ?_
      refine aw_iadd X dX5_readHose_142 ?_
      refine aw_top (nI (a + 1 + 1 + 1)) (by rw [(hpz_9).2.1]; exact nI_1 _) ?_
      refine aw_fput X FM_a hM 8 (b := 942) (n := 0) rfl f_X5_160 rfl (by decide +kernel) dX5_readHose_143 (fun μ z_10 ez_10 hM => ?_)
      have hpz_10 : patM z_10 n (a + 1 + 1 + 1) := by rw [ez_10]; exact patM_at (hpz_9) (by omega)
      have htz_10 : ∀ j, tM z_10 n j = tM m n j := fun j => (show tM z_10 n j = tM z_9 n j by rw [ez_10]; exact tM_up (hpz_9).2.2.1 (by omega)).trans (htz_9 j)
      have hkz_10 : z_10 944 = (tM m n (a + 1)) := by rw [ez_10, upd_n (by decide)]; exact hkz_9
      exact aw_vret X hQ dX5_readHose_146 ⟨rfl, hM.to (by subst ez_1 ez_2 ez_3 ez_5 ez_6 ez_7 ez_9 ez_10; simp [mHo, c36_4, c114_8])⟩
    · skip
      refine aw_iconst X (1) dX5_readHose_117 rfl ?_
      refine aw_goto (tgt := 122) X dX5_readHose_118 (by decide) ?_
      refine aw_fputZ X FM_a hM 9 (b := 943) (n := 0) rfl ((by decide)) f_X5_163 rfl (by decide +kernel) dX5_readHose_122 (fun μ z_9 ez_9 hM => ?_)
      have hpz_9 : patM z_9 n (a + 1 + 1) := by rw [ez_9]; exact patM_up (hpz_7) (by omega) (by omega)
      have htz_9 : ∀ j, tM z_9 n j = tM m n j := fun j => (show tM z_9 n j = tM z_7 n j by rw [ez_9]; exact tM_up (hpz_7).2.2.1 (by omega)).trans (htz_7 j)
      have hkz_9 : z_9 944 = (tM m n (a + 1)) := by rw [ez_9, upd_n (by decide)]; exact hkz_7
      have hwz_9 : z_9 943 = 1 := by rw [ez_9, upd_s]
      refine aw_aload_n X dX5_readHose_125 rfl ?_
      refine aw_dup X dX5_readHose_126 rfl ?_
      refine aw_fgetI X hM 8 (t := 0) (b := 942) (n := 0) rfl f_X5_160 dX5_readHose_127 ?_
      refine aw_aload_n X dX5_readHose_130 rfl ?_
      refine aw_fgetI X hM 9 (t := 1) (b := 943) (n := 0) rfl f_X5_163 dX5_readHose_131 ?_
      refine aw_top (1) hwz_9 ?_
      refine aw_if_eq_f (tgt := 141) X dX5_readHose_134 (by decide) (by decide) ?_
      refine aw_iconst X (0) dX5_readHose_137 rfl ?_
      refine aw_goto (tgt := 142) X dX5_readHose_138 (by decide) ?_
      refine aw_iadd X dX5_readHose_142 ?_
      refine aw_top (nI (a + 1 + 1)) (by rw [(hpz_9).2.1]; exact Int32.add_zero _) ?_
      refine aw_fput X FM_a hM 8 (b := 942) (n := 0) rfl f_X5_160 rfl (by decide +kernel) dX5_readHose_143 (fun μ z_10 ez_10 hM => ?_)
      have hpz_10 : patM z_10 n (a + 1 + 1) := by rw [ez_10]; exact patM_at (hpz_9) (by omega)
      have htz_10 : ∀ j, tM z_10 n j = tM m n j := fun j => (show tM z_10 n j = tM z_9 n j by rw [ez_10]; exact tM_up (hpz_9).2.2.1 (by omega)).trans (htz_9 j)
      have hkz_10 : z_10 944 = (tM m n (a + 1)) := by rw [ez_10, upd_n (by decide)]; exact hkz_9
      exact aw_vret X hQ dX5_readHose_146 ⟨rfl, hM.to (by subst ez_1 ez_2 ez_3 ez_5 ez_6 ez_7 ez_9 ez_10; simp [mHo, c36_4, c114_8])⟩
  · skip
    refine aw_aload_n X dX5_readHose_39 rfl ?_
    refine aw_fgetI X hM 10 (t := 0) (b := 944) (n := 0) rfl f_X5_182 dX5_readHose_40 ?_
    refine aw_top (tM m n (a + 1)) hkz_3 ?_
    refine aw_bipush X (45) dX5_readHose_43 rfl ?_
    refine aw_icmp_eq (tgt := 61) X dX5_readHose_45 (by decide) (fun c45_5 => ?_) (fun c45_5 => ?_)
    · skip
      have hlt2 : a + 1 < n := tM_lt (m := m) (by rw [c45_5]; decide)
      refine aw_iconst X (0) dX5_readHose_61 rfl ?_
      refine aw_fputZ X FM_a hM 9 (b := 943) (n := 0) rfl ((by decide)) f_X5_163 rfl (by decide +kernel) dX5_readHose_62 (fun μ z_6 ez_6 hM => ?_)
      have hpz_6 : patM z_6 n (a + 1) := by rw [ez_6]; exact patM_up (hpz_3) (by omega) (by omega)
      have htz_6 : ∀ j, tM z_6 n j = tM m n j := fun j => (show tM z_6 n j = tM z_3 n j by rw [ez_6]; exact tM_up (hpz_3).2.2.1 (by omega)).trans (htz_3 j)
      have hkz_6 : z_6 944 = (tM m n (a + 1)) := by rw [ez_6, upd_n (by decide)]; exact hkz_3
      have hwz_6 : z_6 943 = 0 := by rw [ez_6, upd_s]
      refine aw_aload_n X dX5_readHose_65 rfl ?_
      refine aw_dup X dX5_readHose_66 rfl ?_
      refine aw_fgetI X hM 8 (t := 0) (b := 942) (n := 0) rfl f_X5_160 dX5_readHose_67 ?_
      refine aw_aload_n X dX5_readHose_70 rfl ?_
      refine aw_fgetI X hM 9 (t := 1) (b := 943) (n := 0) rfl f_X5_163 dX5_readHose_71 ?_
      refine aw_top (0) hwz_6 ?_
      refine aw_if_eq_t (tgt := 81) X dX5_readHose_74 (by decide) (by decide) ?_
      refine aw_iconst X (1) dX5_readHose_81 rfl ?_
      refine aw_iadd X dX5_readHose_82 ?_
      refine aw_top (nI (a + 1 + 1)) (by rw [(hpz_6).2.1]; exact nI_1 _) ?_
      refine aw_fput X FM_a hM 8 (b := 942) (n := 0) rfl f_X5_160 rfl (by decide +kernel) dX5_readHose_83 (fun μ z_7 ez_7 hM => ?_)
      have hpz_7 : patM z_7 n (a + 1 + 1) := by rw [ez_7]; exact patM_at (hpz_6) (by omega)
      have htz_7 : ∀ j, tM z_7 n j = tM m n j := fun j => (show tM z_7 n j = tM z_6 n j by rw [ez_7]; exact tM_up (hpz_6).2.2.1 (by omega)).trans (htz_6 j)
      have hkz_7 : z_7 944 = (tM m n (a + 1)) := by rw [ez_7, upd_n (by decide)]; exact hkz_6
      refine aw_aload_n X dX5_readHose_86 rfl ?_
      refine aw_fgetI X hM 10 (t := 0) (b := 944) (n := 0) rfl f_X5_182 dX5_readHose_87 ?_
      refine aw_top (tM m n (a + 1)) hkz_7 ?_
      refine aw_bipush X (61) dX5_readHose_90 rfl ?_
      refine aw_icmp_ne_t (tgt := 146) X dX5_readHose_92 (by decide) (by exact c36_4) ?_
      exact aw_vret X hQ dX5_readHose_146 ⟨rfl, hM.to (by subst ez_1 ez_2 ez_3 ez_6 ez_7; simp [mHo, c36_4, c45_5])⟩
    · skip
      refine aw_aload_n X dX5_readHose_48 rfl ?_
      refine aw_fgetI X hM 10 (t := 0) (b := 944) (n := 0) rfl f_X5_182 dX5_readHose_49 ?_
      refine aw_top (tM m n (a + 1)) hkz_3 ?_
      refine aw_bipush X (126) dX5_readHose_52 rfl ?_
      refine aw_icmp_eq (tgt := 61) X dX5_readHose_54 (by decide) (fun c54_6 => ?_) (fun c54_6 => ?_)
      · skip
        have hlt2 : a + 1 < n := tM_lt (m := m) (by rw [c54_6]; decide)
        refine aw_iconst X (0) dX5_readHose_61 rfl ?_
        refine aw_fputZ X FM_a hM 9 (b := 943) (n := 0) rfl ((by decide)) f_X5_163 rfl (by decide +kernel) dX5_readHose_62 (fun μ z_7 ez_7 hM => ?_)
        have hpz_7 : patM z_7 n (a + 1) := by rw [ez_7]; exact patM_up (hpz_3) (by omega) (by omega)
        have htz_7 : ∀ j, tM z_7 n j = tM m n j := fun j => (show tM z_7 n j = tM z_3 n j by rw [ez_7]; exact tM_up (hpz_3).2.2.1 (by omega)).trans (htz_3 j)
        have hkz_7 : z_7 944 = (tM m n (a + 1)) := by rw [ez_7, upd_n (by decide)]; exact hkz_3
        have hwz_7 : z_7 943 = 0 := by rw [ez_7, upd_s]
        refine aw_aload_n X dX5_readHose_65 rfl ?_
        refine aw_dup X dX5_readHose_66 rfl ?_
        refine aw_fgetI X hM 8 (t := 0) (b := 942) (n := 0) rfl f_X5_160 dX5_readHose_67 ?_
        refine aw_aload_n X dX5_readHose_70 rfl ?_
        refine aw_fgetI X hM 9 (t := 1) (b := 943) (n := 0) rfl f_X5_163 dX5_readHose_71 ?_
        refine aw_top (0) hwz_7 ?_
        refine aw_if_eq_t (tgt := 81) X dX5_readHose_74 (by decide) (by decide) ?_
        refine aw_iconst X (1) dX5_readHose_81 rfl ?_
        refine aw_iadd X dX5_readHose_82 ?_
        refine aw_top (nI (a + 1 + 1)) (by rw [(hpz_7).2.1]; exact nI_1 _) ?_
        refine aw_fput X FM_a hM 8 (b := 942) (n := 0) rfl f_X5_160 rfl (by decide +kernel) dX5_readHose_83 (fun μ z_8 ez_8 hM => ?_)
        have hpz_8 : patM z_8 n (a + 1 + 1) := by rw [ez_8]; exact patM_at (hpz_7) (by omega)
        have htz_8 : ∀ j, tM z_8 n j = tM m n j := fun j => (show tM z_8 n j = tM z_7 n j by rw [ez_8]; exact tM_up (hpz_7).2.2.1 (by omega)).trans (htz_7 j)
        have hkz_8 : z_8 944 = (tM m n (a + 1)) := by rw [ez_8, upd_n (by decide)]; exact hkz_7
        refine aw_aload_n X dX5_readHose_86 rfl ?_
        refine aw_fgetI X hM 10 (t := 0) (b := 944) (n := 0) rfl f_X5_182 dX5_readHose_87 ?_
        refine aw_top (tM m n (a + 1)) hkz_8 ?_
        refine aw_bipush X (61) dX5_readHose_90 rfl ?_
        refine aw_icmp_ne_t (tgt := 146) X dX5_readHose_92 (by decide) (by exact c36_4) ?_
        exact aw_vret X hQ dX5_readHose_146 ⟨rfl, hM.to (by subst ez_1 ez_2 ez_3 ez_7 ez_8; simp [mHo, c36_4, c45_5, c54_6])⟩
      · skip
        refine aw_iconst X (1) dX5_readHose_57 rfl ?_
        refine aw_goto (tgt := 62) X dX5_readHose_58 (by decide) ?_
        refine aw_fputZ X FM_a hM 9 (b := 943) (n := 0) rfl ((by decide)) f_X5_163 rfl (by decide +kernel) dX5_readHose_62 (fun μ z_7 ez_7 hM => ?_)
        have hpz_7 : patM z_7 n (a + 1) := by rw [ez_7]; exact patM_up (hpz_3) (by omega) (by omega)
        have htz_7 : ∀ j, tM z_7 n j = tM m n j := fun j => (show tM z_7 n j = tM z_3 n j by rw [ez_7]; exact tM_up (hpz_3).2.2.1 (by omega)).trans (htz_3 j)
        have hkz_7 : z_7 944 = (tM m n (a + 1)) := by rw [ez_7, upd_n (by decide)]; exact hkz_3
        have hwz_7 : z_7 943 = 1 := by rw [ez_7, upd_s]
        refine aw_aload_n X dX5_readHose_65 rfl ?_
        refine aw_dup X dX5_readHose_66 rfl ?_
        refine aw_fgetI X hM 8 (t := 0) (b := 942) (n := 0) rfl f_X5_160 dX5_readHose_67 ?_
        refine aw_aload_n X dX5_readHose_70 rfl ?_
        refine aw_fgetI X hM 9 (t := 1) (b := 943) (n := 0) rfl f_X5_163 dX5_readHose_71 ?_
        refine aw_top (1) hwz_7 ?_
        refine aw_if_eq_f (tgt := 81) X dX5_readHose_74 (by decide) (by decide) ?_
        refine aw_iconst X (0) dX5_readHose_77 rfl ?_
        refine aw_goto (tgt := 82) X dX5_readHose_78 (by decide) ?_
        refine aw_iadd X dX5_readHose_82 ?_
        refine aw_top (nI (a + 1)) (by rw [(hpz_7).2.1]; exact Int32.add_zero _) ?_
        refine aw_fput X FM_a hM 8 (b := 942) (n := 0) rfl f_X5_160 rfl (by decide +kernel) dX5_readHose_83 (fun μ z_8 ez_8 hM => ?_)
        have hpz_8 : patM z_8 n (a + 1) := by rw [ez_8]; exact patM_at (hpz_7) (by omega)
        have htz_8 : ∀ j, tM z_8 n j = tM m n j := fun j => (show tM z_8 n j = tM z_7 n j by rw [ez_8]; exact tM_up (hpz_7).2.2.1 (by omega)).trans (htz_7 j)
        have hkz_8 : z_8 944 = (tM m n (a + 1)) := by rw [ez_8, upd_n (by decide)]; exact hkz_7
        refine aw_aload_n X dX5_readHose_86 rfl ?_
        refine aw_fgetI X hM 10 (t := 0) (b := 944) (n := 0) rfl f_X5_182 dX5_readHose_87 ?_
        refine aw_top (tM m n (a + 1)) hkz_8 ?_
        refine aw_bipush X (61) dX5_readHose_90 rfl ?_
        refine aw_icmp_ne_t (tgt := 146) X dX5_readHose_92 (by decide) (by exact c36_4) ?_
        exact aw_vret X hQ dX5_readHose_146 ⟨rfl, hM.to (by subst ez_1 ez_2 ez_3 ez_7 ez_8; simp [mHo, c36_4, c45_5, c54_6])⟩

set_option maxHeartbeats 400000 in
set_option maxRecDepth 100000 in
theorem c_X5_readOrder (l : Launch) (U : xU) (μ0 : xH) (ma : Nat → Nat) (m : xV) (hM0 : FRep U μ0 ma 5 FM m) (n a : Nat) (hp : patM m n a) : CtFK l U yX5_readOrder cX5_readOrder 1 none ({ frames := 4, cells := 0, slots := 0, locals := 87 } : Room) [.ref (ma 0)] μ0 ma 5 FM (mOrd m n a) := by
  refine Ct.of [some (.ref (ma 0))] (by decide +kernel) rfl (Nat.le_of_ble_eq_true rfl) (fun K Q X hnm hQ => ?_)
  obtain ⟨μ, hμ, hM⟩ : ∃ μ : xH, μ0 = μ ∧ FR U μ0 μ ma 5 FM m := ⟨μ0, rfl, FR.rf hM0⟩
  refine aw_mu hμ ?_
  have htm : ∀ j, tM m n j = tM m n j := fun _ => rfl
  refine aw_aload_n X dX5_readOrder_0 rfl ?_
  refine aw_aload_n X dX5_readOrder_1 rfl ?_
  refine aw_cVFF (As := []) X hM (c_X5_sign (kl K) U _ ma _ hM.1 n (a) hp) s_X5_167 k_X5_sign (by decide) ⟨rfl, rfl⟩ ⟨Nat.zero_le _, Nat.zero_le _⟩ rfl (by exact Nat.le_of_ble_eq_true rfl) rfl dX5_readOrder_2 ?_
  refine aw_top ((tM m n (a))) (htm _) ?_
  refine aw_fput X FM_a hM 10 (b := 944) (n := 0) rfl f_X5_182 rfl (by decide +kernel) dX5_readOrder_5 (fun μ z_1 ez_1 hM => ?_)
  have hpz_1 : patM z_1 n (a) := by rw [ez_1]; exact patM_up (hp) (by omega) (by omega)
  have htz_1 : ∀ j, tM z_1 n j = tM m n j := fun j => (show tM z_1 n j = tM m n j by rw [ez_1]; exact tM_up (hp).2.2.1 (by omega)).trans (htm j)
  have hkz_1 : z_1 944 = (tM m n (a)) := by rw [ez_1, upd_s]
  have hw1 : z_1 943 = m 943 := by rw [ez_1, upd_n (by decide)]
  refine aw_aload_n X dX5_readOrder_8 rfl ?_
  refine aw_bipush X (48) dX5_readOrder_9 rfl ?_
  refine aw_bipush X (51) dX5_readOrder_11 rfl ?_
  refine aw_cVFF (As := [.int _, .int _]) X hM (c_X5_isNext (kl K) U _ ma _ hM.1 _ _ n (a) hpz_1) s_X5_173 k_X5_isNext (by decide) ⟨rfl, rfl⟩ ⟨Nat.zero_le _, Nat.zero_le _⟩ rfl (by exact Nat.le_of_ble_eq_true rfl) rfl dX5_readOrder_13 ?_
  refine aw_top (bI (decide (m 943 = 0) && inB (tM m n (a)) (48 : Int32) (51 : Int32))) (by rw [htz_1 _, hw1]) ?_
  refine aw_b_eq (tgt := 26) X dX5_readOrder_16 (by decide) (fun c16_2 => ?_) (fun c16_2 => ?_)
  · skip
    refine aw_aload_n X dX5_readOrder_26 rfl ?_
    refine aw_fgetI X hM 10 (t := 0) (b := 944) (n := 0) rfl f_X5_182 dX5_readOrder_27 ?_
    refine aw_top (tM m n (a)) hkz_1 ?_
    refine aw_bipush X (43) dX5_readOrder_30 rfl ?_
    refine aw_icmp_eq (tgt := 44) X dX5_readOrder_32 (by decide) (fun c32_3 => ?_) (fun c32_3 => ?_)
    · skip
      have hlt : a < n := tM_lt (m := m) (by rw [c32_3]; decide)
      refine aw_aload_n X dX5_readOrder_44 rfl ?_
      refine aw_dup X dX5_readOrder_45 rfl ?_
      refine aw_fgetI X hM 8 (t := 0) (b := 942) (n := 0) rfl f_X5_160 dX5_readOrder_46 ?_
      refine aw_iconst X (1) dX5_readOrder_49 rfl ?_
      refine aw_iadd X dX5_readOrder_50 ?_
      refine aw_top (nI (a + 1)) (by rw [(hpz_1).2.1]; exact nI_1 _) ?_
      refine aw_fput X FM_a hM 8 (b := 942) (n := 0) rfl f_X5_160 rfl (by decide +kernel) dX5_readOrder_51 (fun μ z_4 ez_4 hM => ?_)
      have hpz_4 : patM z_4 n (a + 1) := by rw [ez_4]; exact patM_at (hpz_1) (by omega)
      have htz_4 : ∀ j, tM z_4 n j = tM m n j := fun j => (show tM z_4 n j = tM z_1 n j by rw [ez_4]; exact tM_up (hpz_1).2.2.1 (by omega)).trans (htz_1 j)
      have hkz_4 : z_4 944 = (tM m n (a)) := by rw [ez_4, upd_n (by decide)]; exact hkz_1
      refine aw_aload_n X dX5_readOrder_54 rfl ?_
      refine aw_fgetI X hM 10 (t := 0) (b := 944) (n := 0) rfl f_X5_182 dX5_readOrder_55 ?_
      refine aw_top (tM m n (a)) hkz_4 ?_
      refine aw_bipush X (43) dX5_readOrder_58 rfl ?_
      refine aw_icmp_ne_f (tgt := 70) X dX5_readOrder_60 (by decide) c32_3 ?_
      refine aw_aload_n X dX5_readOrder_63 rfl ?_
      refine aw_cVFK (As := []) X hM (c_X5_readUnits (kl K) U _ ma _ hM.1 n (a + 1) hpz_4) s_X5_191 k_X5_readUnits (by decide) ⟨rfl, rfl⟩ ⟨Nat.zero_le _, Nat.zero_le _⟩ rfl (by exact Nat.le_of_ble_eq_true rfl) rfl dX5_readOrder_64 (fun μ z_5 ez_5 hM => ?_)
      refine aw_goto (tgt := 84) X dX5_readOrder_67 (by decide) ?_
      exact aw_vret X hQ dX5_readOrder_84 ⟨rfl, hM.to (by subst ez_1 ez_4 ez_5; rw [mOrd, if_neg (by rw [c16_2]; decide), if_pos c32_3])⟩
    · skip
      refine aw_aload_n X dX5_readOrder_35 rfl ?_
      refine aw_fgetI X hM 10 (t := 0) (b := 944) (n := 0) rfl f_X5_182 dX5_readOrder_36 ?_
      refine aw_top (tM m n (a)) hkz_1 ?_
      refine aw_bipush X (46) dX5_readOrder_39 rfl ?_
      refine aw_icmp_ne (tgt := 79) X dX5_readOrder_41 (by decide) (fun c41_4 => ?_) (fun c41_4 => ?_)
      · skip
        refine aw_aload_n X dX5_readOrder_79 rfl ?_
        refine aw_iconst X (1) dX5_readOrder_80 rfl ?_
        refine aw_fputZ X FM_a hM 9 (b := 943) (n := 0) rfl ((by decide)) f_X5_163 rfl (by decide +kernel) dX5_readOrder_81 (fun μ z_5 ez_5 hM => ?_)
        have hpz_5 : patM z_5 n (a) := by rw [ez_5]; exact patM_up (hpz_1) (by omega) (by omega)
        have htz_5 : ∀ j, tM z_5 n j = tM m n j := fun j => (show tM z_5 n j = tM z_1 n j by rw [ez_5]; exact tM_up (hpz_1).2.2.1 (by omega)).trans (htz_1 j)
        have hkz_5 : z_5 944 = (tM m n (a)) := by rw [ez_5, upd_n (by decide)]; exact hkz_1
        have hwz_5 : z_5 943 = 1 := by rw [ez_5, upd_s]
        exact aw_vret X hQ dX5_readOrder_84 ⟨rfl, hM.to (by subst ez_1 ez_5; rw [mOrd, if_neg (by rw [c16_2]; decide), if_neg c32_3, if_neg c41_4])⟩
      · skip
        have hlt : a < n := tM_lt (m := m) (by rw [c41_4]; decide)
        refine aw_aload_n X dX5_readOrder_44 rfl ?_
        refine aw_dup X dX5_readOrder_45 rfl ?_
        refine aw_fgetI X hM 8 (t := 0) (b := 942) (n := 0) rfl f_X5_160 dX5_readOrder_46 ?_
        refine aw_iconst X (1) dX5_readOrder_49 rfl ?_
        refine aw_iadd X dX5_readOrder_50 ?_
        refine aw_top (nI (a + 1)) (by rw [(hpz_1).2.1]; exact nI_1 _) ?_
        refine aw_fput X FM_a hM 8 (b := 942) (n := 0) rfl f_X5_160 rfl (by decide +kernel) dX5_readOrder_51 (fun μ z_5 ez_5 hM => ?_)
        have hpz_5 : patM z_5 n (a + 1) := by rw [ez_5]; exact patM_at (hpz_1) (by omega)
        have htz_5 : ∀ j, tM z_5 n j = tM m n j := fun j => (show tM z_5 n j = tM z_1 n j by rw [ez_5]; exact tM_up (hpz_1).2.2.1 (by omega)).trans (htz_1 j)
        have hkz_5 : z_5 944 = (tM m n (a)) := by rw [ez_5, upd_n (by decide)]; exact hkz_1
        refine aw_aload_n X dX5_readOrder_54 rfl ?_
        refine aw_fgetI X hM 10 (t := 0) (b := 944) (n := 0) rfl f_X5_182 dX5_readOrder_55 ?_
        refine aw_top (tM m n (a)) hkz_5 ?_
        refine aw_bipush X (43) dX5_readOrder_58 rfl ?_
        refine aw_icmp_ne_t (tgt := 70) X dX5_readOrder_60 (by decide) (by exact c32_3) ?_
        refine aw_aload_n X dX5_readOrder_70 rfl ?_
        refine aw_bipush X (48) dX5_readOrder_71 rfl ?_
        refine aw_cVFK (As := [.int _]) X hM (c_X5_readNumber (kl K) U _ ma _ hM.1 n (a + 1) hpz_5 (48 : Int32)) s_X5_176 k_X5_readNumber (by decide) ⟨rfl, rfl⟩ ⟨Nat.zero_le _, Nat.zero_le _⟩ rfl (by exact Nat.le_of_ble_eq_true rfl) rfl dX5_readOrder_73 (fun μ z_6 ez_6 hM => ?_)
        refine aw_goto (tgt := 84) X dX5_readOrder_76 (by decide) ?_
        exact aw_vret X hQ dX5_readOrder_84 ⟨rfl, hM.to (by subst ez_1 ez_5 ez_6; rw [mOrd, if_neg (by rw [c16_2]; decide), if_neg c32_3, if_pos c41_4])⟩
  · skip
    have hlt : a < n := inB_lt (m := m) (by have q := c16_2; simp only [Bool.and_eq_true] at q; exact q.2) (by decide)
    refine aw_aload_n X dX5_readOrder_19 rfl ?_
    refine aw_cVFK (As := []) X hM (c_X5_readHose (kl K) U _ ma _ hM.1 n (a) hpz_1 hlt) s_X5_188 k_X5_readHose (by decide) ⟨rfl, rfl⟩ ⟨Nat.zero_le _, Nat.zero_le _⟩ rfl (by exact Nat.le_of_ble_eq_true rfl) rfl dX5_readOrder_20 (fun μ z_3 ez_3 hM => ?_)
    refine aw_goto (tgt := 84) X dX5_readOrder_23 (by decide) ?_
    exact aw_vret X hQ dX5_readOrder_84 ⟨rfl, hM.to (by subst ez_1 ez_3; rw [mOrd, if_pos c16_2])⟩
