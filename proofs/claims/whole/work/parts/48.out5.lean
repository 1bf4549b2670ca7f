/-! orders of the outer object -/
theorem pFault_60 {n : Nat} : ∀ (d a : Nat) (p : xV), pat p n a → (pFault n d a p).2 60 = nI n := by
  intro d
  induction d with
  | zero => intro a p h; exact h.1
  | succ d ih =>
    intro a p h
    have hp := (pOrd_pat h).1
    rw [pFault]
    split
    · exact hp.1
    split
    · exact hp.1
    rename_i hlt
    split
    · exact ih _ _ (pat_at hp (by omega))
    · exact hp.1
def oQ (p : xV) (n : Nat) : Int32 × xV := pFault n (n + 1) 0 (upd p 61 (nI 0))
set_option maxHeartbeats 1000000 in
set_option maxRecDepth 100000 in
theorem c_X4_doOrder (l : Launch) (U : xU) (lab : Nat → Nat) (μ0 : xH) (shs : Nat → Nat → Nat) (pa o : Nat → Nat) (rs : xR) (p : xV) (un : Nat) (sv : Nat → Int32) (hO0 : ORep U lab μ0 shs pa o rs p un sv) : CtOJ l U yX4_doOrder cX4_doOrder 1 (some .int) ({ frames := 6, cells := 0, slots := 0, locals := 132 } : Room) [.ref (o 0)] lab μ0 shs pa o (gOrd p (rs 0)).1 (rup rs 0 (gOrd p (rs 0)).2) p un sv := by
  refine Ct.of [some (.ref (o 0))] (by decide +kernel) rfl (Nat.le_of_ble_eq_true rfl) (fun K Q X hnm hQ => ?_)
  obtain ⟨μ, hμ, hO⟩ : ∃ μ : xH, μ0 = μ ∧ OR U lab μ0 μ shs pa o rs p un sv := ⟨μ0, rfl, OR.rf hO0⟩
  refine aw_mu hμ ?_
  refine aw_aload_n X dX4_doOrder_0 rfl ?_
  refine aw_oget X hO f_X4_22 rfl dX4_doOrder_1 ?_
  refine aw_fgetI X hO.fr 3 (t := 0) (b := 62) (n := 0) rfl f_X4_207 dX4_doOrder_4 ?_
  by_cases s7_1 : (p 62) = 43
  · refine aw_lookup (off := 49) (tgt := 56) X dX4_doOrder_7 (by decide) (by rw [s7_1]; decide) (by decide) ?_
    refine aw_aload_n X dX4_doOrder_56 rfl ?_
    refine aw_oget X hO f_X4_10 rfl dX4_doOrder_57 ?_
    refine aw_aload_n X dX4_doOrder_60 rfl ?_
    refine aw_oget X hO f_X4_22 rfl dX4_doOrder_61 ?_
    refine aw_fgetA X hO.fr 7 (t := 0) (b := 66) (n := 4) rfl f_X4_210 dX4_doOrder_64 ?_
    refine aw_iconst X (0) dX4_doOrder_67 rfl ?_
    refine aw_fiald X hO.fr 7 (b := 66) (n := 4) rfl 66 (xin_d rfl) (by decide) dX4_doOrder_68 ?_
    refine aw_aload_n X dX4_doOrder_69 rfl ?_
    refine aw_oget X hO f_X4_22 rfl dX4_doOrder_70 ?_
    refine aw_fgetA X hO.fr 7 (t := 0) (b := 66) (n := 4) rfl f_X4_210 dX4_doOrder_73 ?_
    refine aw_iconst X (1) dX4_doOrder_76 rfl ?_
    refine aw_fiald X hO.fr 7 (b := 66) (n := 4) rfl 67 (xin_d rfl) (by decide) dX4_doOrder_77 ?_
    refine aw_aload_n X dX4_doOrder_78 rfl ?_
    refine aw_oget X hO f_X4_22 rfl dX4_doOrder_79 ?_
    refine aw_fgetA X hO.fr 7 (t := 0) (b := 66) (n := 4) rfl f_X4_210 dX4_doOrder_82 ?_
    refine aw_iconst X (2) dX4_doOrder_85 rfl ?_
    refine aw_fiald X hO.fr 7 (b := 66) (n := 4) rfl 68 (xin_d rfl) (by decide) dX4_doOrder_86 ?_
    refine aw_aload_n X dX4_doOrder_87 rfl ?_
    refine aw_oget X hO f_X4_22 rfl dX4_doOrder_88 ?_
    refine aw_fgetA X hO.fr 7 (t := 0) (b := 66) (n := 4) rfl f_X4_210 dX4_doOrder_91 ?_
    refine aw_iconst X (3) dX4_doOrder_94 rfl ?_
    refine aw_fiald X hO.fr 7 (b := 66) (n := 4) rfl 69 (xin_d rfl) (by decide) dX4_doOrder_95 ?_
    refine aw_cVJ (As := [.int _, .int _, .int _, .int _]) X (hO.jr 0 (by decide)) (c_X1_letArrive (kl K) U _ (shs 0) _ (hO.J 0 (by decide)) _ _ _ _ ) s_X4_55 k_X1_letArrive (by decide) ⟨rfl, rfl⟩ ⟨Nat.zero_le _, Nat.zero_le _⟩ rfl (by exact Nat.le_of_ble_eq_true rfl) (hO.jr 0 (by decide)).g0 rfl dX4_doOrder_96 (fun μ z_2 ez_2 hJ => ?_)
    have hO := hO.upJ 0 (by decide) hJ
    obtain ⟨rs_2, ers_2⟩ : ∃ q : xR, q = rup rs 0 z_2 := ⟨_, rfl⟩
    rw [← ers_2] at hO
    exact aw_iret X hQ dX4_doOrder_99 ⟨congrArg (fun q => some (Value.int q)) (by rw [gOrd, if_pos s7_1]), by rw [gOrd, if_pos s7_1]; subst ez_2 ers_2; exact hO⟩
  by_cases s7_2 : (p 62) = 45
  · refine aw_lookup (off := 115) (tgt := 122) X dX4_doOrder_7 (by decide) (by rw [s7_2]; decide) (by decide) ?_
    refine aw_aload_n X dX4_doOrder_122 rfl ?_
    refine aw_oget X hO f_X4_10 rfl dX4_doOrder_123 ?_
    refine aw_aload_n X dX4_doOrder_126 rfl ?_
    refine aw_oget X hO f_X4_22 rfl dX4_doOrder_127 ?_
    refine aw_fgetI X hO.fr 4 (t := 0) (b := 63) (n := 0) rfl f_X4_214 dX4_doOrder_130 ?_
    refine aw_cVJ (As := [.int _]) X (hO.jr 0 (by decide)) (c_X1_disconnectHose (kl K) U _ (shs 0) _ (hO.J 0 (by decide)) _ ) s_X4_72 k_X1_disconnectHose (by decide) ⟨rfl, rfl⟩ ⟨Nat.zero_le _, Nat.zero_le _⟩ rfl (by exact Nat.le_of_ble_eq_true rfl) (hO.jr 0 (by decide)).g0 rfl dX4_doOrder_133 (fun μ z_3 ez_3 hJ => ?_)
    have hO := hO.upJ 0 (by decide) hJ
    obtain ⟨rs_3, ers_3⟩ : ∃ q : xR, q = rup rs 0 z_3 := ⟨_, rfl⟩
    rw [← ers_3] at hO
    exact aw_iret X hQ dX4_doOrder_136 ⟨congrArg (fun q => some (Value.int q)) (by rw [gOrd, if_neg s7_1, if_pos s7_2]), by rw [gOrd, if_neg s7_1, if_pos s7_2]; subst ez_3 ers_3; exact hO⟩
  by_cases s7_3 : (p 62) = 46
  · refine aw_lookup (off := 145) (tgt := 152) X dX4_doOrder_7 (by decide) (by rw [s7_3]; decide) (by decide) ?_
    refine aw_aload_n X dX4_doOrder_152 rfl ?_
    refine aw_oget X hO f_X4_10 rfl dX4_doOrder_153 ?_
    refine aw_aload_n X dX4_doOrder_156 rfl ?_
    refine aw_oget X hO f_X4_22 rfl dX4_doOrder_157 ?_
    refine aw_fgetI X hO.fr 6 (t := 0) (b := 65) (n := 0) rfl f_X4_220 dX4_doOrder_160 ?_
    refine aw_cVJ (As := [.int _]) X (hO.jr 0 (by decide)) (c_X1_letPass (kl K) U _ (shs 0) _ (hO.J 0 (by decide)) _ ) s_X4_88 k_X1_letPass (by decide) ⟨rfl, rfl⟩ ⟨Nat.zero_le _, Nat.zero_le _⟩ rfl (by exact Nat.le_of_ble_eq_true rfl) (hO.jr 0 (by decide)).g0 rfl dX4_doOrder_163 (fun μ z_4 ez_4 hJ => ?_)
    have hO := hO.upJ 0 (by decide) hJ
    obtain ⟨rs_4, ers_4⟩ : ∃ q : xR, q = rup rs 0 z_4 := ⟨_, rfl⟩
    rw [← ers_4] at hO
    exact aw_iret X hQ dX4_doOrder_166 ⟨congrArg (fun q => some (Value.int q)) (by rw [gOrd, if_neg s7_1, if_neg s7_2, if_pos s7_3]), by rw [gOrd, if_neg s7_1, if_neg s7_2, if_pos s7_3]; subst ez_4 ers_4; exact hO⟩
  by_cases s7_4 : (p 62) = 61
  · refine aw_lookup (off := 93) (tgt := 100) X dX4_doOrder_7 (by decide) (by rw [s7_4]; decide) (by decide) ?_
    refine aw_aload_n X dX4_doOrder_100 rfl ?_
    refine aw_oget X hO f_X4_10 rfl dX4_doOrder_101 ?_
    refine aw_aload_n X dX4_doOrder_104 rfl ?_
    refine aw_oget X hO f_X4_22 rfl dX4_doOrder_105 ?_
    refine aw_fgetI X hO.fr 4 (t := 0) (b := 63) (n := 0) rfl f_X4_214 dX4_doOrder_108 ?_
    refine aw_aload_n X dX4_doOrder_111 rfl ?_
    refine aw_oget X hO f_X4_22 rfl dX4_doOrder_112 ?_
    refine aw_fgetI X hO.fr 5 (t := 0) (b := 64) (n := 0) rfl f_X4_217 dX4_doOrder_115 ?_
    refine aw_cVJ (As := [.int _, .int _]) X (hO.jr 0 (by decide)) (c_X1_connectHose (kl K) U _ (shs 0) _ (hO.J 0 (by decide)) _ _ ) s_X4_69 k_X1_connectHose (by decide) ⟨rfl, rfl⟩ ⟨Nat.zero_le _, Nat.zero_le _⟩ rfl (by exact Nat.le_of_ble_eq_true rfl) (hO.jr 0 (by decide)).g0 rfl dX4_doOrder_118 (fun μ z_5 ez_5 hJ => ?_)
    have hO := hO.upJ 0 (by decide) hJ
    obtain ⟨rs_5, ers_5⟩ : ∃ q : xR, q = rup rs 0 z_5 := ⟨_, rfl⟩
    rw [← ers_5] at hO
    exact aw_iret X hQ dX4_doOrder_121 ⟨congrArg (fun q => some (Value.int q)) (by rw [gOrd, if_neg s7_1, if_neg s7_2, if_neg s7_3, if_pos s7_4]), by rw [gOrd, if_neg s7_1, if_neg s7_2, if_neg s7_3, if_pos s7_4]; subst ez_5 ers_5; exact hO⟩
  by_cases s7_5 : (p 62) = 126
  · refine aw_lookup (off := 130) (tgt := 137) X dX4_doOrder_7 (by decide) (by rw [s7_5]; decide) (by decide) ?_
    refine aw_aload_n X dX4_doOrder_137 rfl ?_
    refine aw_oget X hO f_X4_10 rfl dX4_doOrder_138 ?_
    refine aw_aload_n X dX4_doOrder_141 rfl ?_
    refine aw_oget X hO f_X4_22 rfl dX4_doOrder_142 ?_
    refine aw_fgetI X hO.fr 4 (t := 0) (b := 63) (n := 0) rfl f_X4_214 dX4_doOrder_145 ?_
    refine aw_cVJ (As := [.int _]) X (hO.jr 0 (by decide)) (c_X1_flushHose (kl K) U _ (shs 0) _ (hO.J 0 (by decide)) _ ) s_X4_75 k_X1_flushHose (by decide) ⟨rfl, rfl⟩ ⟨Nat.zero_le _, Nat.zero_le _⟩ rfl (by exact Nat.le_of_ble_eq_true rfl) (hO.jr 0 (by decide)).g0 rfl dX4_doOrder_148 (fun μ z_6 ez_6 hJ => ?_)
    have hO := hO.upJ 0 (by decide) hJ
    obtain ⟨rs_6, ers_6⟩ : ∃ q : xR, q = rup rs 0 z_6 := ⟨_, rfl⟩
    rw [← ers_6] at hO
    exact aw_iret X hQ dX4_doOrder_151 ⟨congrArg (fun q => some (Value.int q)) (by rw [gOrd, if_neg s7_1, if_neg s7_2, if_neg s7_3, if_neg s7_4, if_pos s7_5]), by rw [gOrd, if_neg s7_1, if_neg s7_2, if_neg s7_3, if_neg s7_4, if_pos s7_5]; subst ez_6 ers_6; exact hO⟩
  refine aw_lookup (off := 160) (tgt := 167) X dX4_doOrder_7 (by decide) (lkd _ _ _ (by have h0 := lv_neT (a := 43) s7_1 (by decide); have h1 := lv_neT (a := 45) s7_2 (by decide); have h2 := lv_neT (a := 46) s7_3 (by decide); have h3 := lv_neT (a := 61) s7_4 (by decide); have h4 := lv_neT (a := 126) s7_5 (by decide); intro q (hq : q ∈ [((43 : Int), (49 : Int)), ((45 : Int), (115 : Int)), ((46 : Int), (145 : Int)), ((61 : Int), (93 : Int)), ((126 : Int), (130 : Int))]); simp only [List.mem_cons, List.not_mem_nil, or_false] at hq; rcases hq with rfl | rfl | rfl | rfl | rfl <;> (dsimp only; omega))) (by decide) ?_
  refine aw_ldc X dX4_doOrder_167 a_X4_95 ?_
  exact aw_iret X hQ dX4_doOrder_169 ⟨congrArg (fun q => some (Value.int q)) (by rw [gOrd, if_neg s7_1, if_neg s7_2, if_neg s7_3, if_neg s7_4, if_neg s7_5]), by rw [gOrd, if_neg s7_1, if_neg s7_2, if_neg s7_3, if_neg s7_4, if_neg s7_5, rup_id]; exact hO⟩

set_option maxHeartbeats 1000000 in
set_option maxRecDepth 100000 in
theorem c_X4_run (l : Launch) (U : xU) (lab : Nat → Nat) (μ0 : xH) (shs : Nat → Nat → Nat) (pa o : Nat → Nat) (rs : xR) (p : xV) (un : Nat) (sv : Nat → Int32) (hO0 : ORep U lab μ0 shs pa o rs p un sv) (n : Nat) (h60 : p 60 = nI n) (hn : n ≤ 60) : CtO l U yX4_run cX4_run 3 (some .int) ({ frames := 7, cells := 0, slots := 0, locals := 152 } : Room) [.ref (o 0)] lab μ0 pa o (if (oQ p n).1 = -100006 then (oAll n (oQ p n).2 (rs 0)).1 else -100003) (if (oQ p n).1 = -100006 then dRs rs un ((oAll n (oQ p n).2 (rs 0)).1, (oAll n (oQ p n).2 (rs 0)).2.2) else rs) (if (oQ p n).1 = -100006 then upd (oAll n (oQ p n).2 (rs 0)).2.1 60 0 else (oQ p n).2) (if (oQ p n).1 = -100006 then dUn un ((oAll n (oQ p n).2 (rs 0)).1, (oAll n (oQ p n).2 (rs 0)).2.2) else un) sv := by
  refine Ct.of [some (.ref (o 0)), none, none] (by decide +kernel) rfl (Nat.le_of_ble_eq_true rfl) (fun K Q X hnm hQ => ?_)
  obtain ⟨μ, hμ, hO⟩ : ∃ μ : xH, μ0 = μ ∧ OR U lab μ0 μ shs pa o rs p un sv := ⟨μ0, rfl, OR.rf hO0⟩
  refine aw_mu hμ ?_
  refine aw_aload_n X dX4_run_0 rfl ?_
  refine aw_oget X hO f_X4_22 rfl dX4_run_1 ?_
  refine aw_cVFR (As := []) X hO.fr (c_X2_firstFault (kl K) U _ pa _ hO.1.2.2.1 n h60 hn) s_X4_91 k_X2_firstFault (by decide) ⟨rfl, rfl⟩ ⟨Nat.zero_le _, Nat.zero_le _⟩ rfl (by exact Nat.le_of_ble_eq_true rfl) rfl dX4_run_4 (fun μ z_1 ez_1 hP => ?_)
  have hO := hO.upP hP
  refine aw_ldc X dX4_run_7 a_X4_94 ?_
  have h60q : z_1 60 = nI n := by rw [ez_1]; exact pFault_60 _ _ _ (⟨by rw [upd_n (by decide)]; exact h60, upd_s, hn, Nat.zero_le _⟩)
  refine aw_icmp_eq (tgt := 15) X dX4_run_9 (by decide) (fun c9_2 => ?_) (fun c9_2 => ?_)
  · skip
    have hpq0 : (oQ p n).1 = -100006 := c9_2
    refine aw_aload_n X dX4_run_15 rfl ?_
    refine aw_cVOK (As := []) X hO (c_X4_keepPresent (kl K) U lab _ _ pa o _ _ _ _ hO.1) s_X4_44 k_X4_keepPresent (by decide) ⟨rfl, rfl⟩ ⟨Nat.zero_le _, Nat.zero_le _⟩ rfl (by exact Nat.le_of_ble_eq_true rfl) rfl dX4_run_16 (fun μ hO => ?_)
    obtain ⟨rs_3, ers_3⟩ : ∃ q : xR, q = rup rs 2 (rs 0) := ⟨_, rfl⟩
    rw [← ers_3] at hO
    have e0 : rs_3 0 = rs 0 := by rw [ers_3]; rfl
    refine aw_iconst X (0) dX4_run_19 rfl ?_
    refine aw_istore_n X dX4_run_20 rfl (by decide) ?_
    refine aw_aload_n X dX4_run_21 rfl ?_
    refine aw_oget X hO f_X4_22 rfl dX4_run_22 ?_
    refine aw_iconst X (0) dX4_run_25 rfl ?_
    refine aw_fput X FP_a hO.fr 2 (b := 61) (n := 0) rfl f_X4_96 rfl (by decide +kernel) dX4_run_26 (fun μ z_4 ez_4 hP => ?_)
    have hO := hO.upP hP
    refine aw_iconst X (0) dX4_run_29 rfl ?_
    refine aw_istore_n X dX4_run_30 rfl (by decide) ?_
    have hpF : z_1 = (oQ p n).2 := ez_1
    have loop : ∀ (d a i : Nat) (c : Int32) (μ : xH) (pc zc : xV) (rsc : xR), i ≤ a → n + 1 ≤ a + d → a ≤ n + 1 → pc 60 = nI n → pc 61 = nI a → oRun n d a pc zc c = oAll n z_1 (rs 0) → rsc 0 = zc → (∀ q, q ≠ 0 → rsc q = rs_3 q) → OR U lab μ0 μ shs pa o rsc pc un sv → AW U K 3 0 0 Q μ 31 [some (.ref (o 0)), some (.int c), some (.int (nI i))] [] := by
      intro d
      induction d with
      | zero =>
        intro a i c μ pc zc rsc hia had han h60 h61 hR h0 hr hO
        refine aw_iload_n X dX4_run_31 rfl ?_
        refine aw_bipush X (60) dX4_run_32 rfl ?_
        by_cases hi60 : i < 60
        · refine aw_icmp_ge_f (tgt := 94) X dX4_run_34 (by decide) (xn_le (N := 60) hi60 (by decide) rfl) ?_
          refine aw_aload_n X dX4_run_37 rfl ?_
          refine aw_oget X hO f_X4_22 rfl dX4_run_38 ?_
          refine aw_fgetI X hO.fr 2 (t := 0) (b := 61) (n := 0) rfl f_X4_96 dX4_run_41 ?_
          refine aw_aload_n X dX4_run_44 rfl ?_
          refine aw_oget X hO f_X4_22 rfl dX4_run_45 ?_
          refine aw_fgetI X hO.fr 1 (t := 0) (b := 60) (n := 0) rfl f_X4_99 dX4_run_48 ?_
          have hge : ¬ a < n := by omega
          refine aw_icmp_ge_t (tgt := 94) X dX4_run_51 (by decide) (by rw [h60, h61]; exact nI_le (by omega) (by omega)) ?_
          refine aw_aload_n X dX4_run_94 rfl ?_
          refine aw_oget X hO f_X4_22 rfl dX4_run_95 ?_
          refine aw_iconst X (0) dX4_run_98 rfl ?_
          refine aw_fput X FP_a hO.fr 1 (b := 60) (n := 0) rfl f_X4_99 rfl (by decide +kernel) dX4_run_99 (fun μ z_5 ez_5 hP => ?_)
          have hO := hO.upP hP
          refine aw_aload_n X dX4_run_102 rfl ?_
          refine aw_iload_n X dX4_run_103 rfl ?_
          refine aw_cVO (As := [.int _]) X hO (c_X4_recorded (kl K) U lab _ _ pa o _ _ _ _ hO.1 _) s_X4_51 k_X4_recorded (by decide) ⟨rfl, rfl⟩ ⟨Nat.zero_le _, Nat.zero_le _⟩ rfl (by exact Nat.le_of_ble_eq_true rfl) rfl dX4_run_104 (fun μ shs hO => ?_)
          have hR2 : (c, pc, zc) = oAll n z_1 (rs 0) := by rw [← hR]; rfl
          have hrs : rsc = rup rs_3 0 zc := by
            funext q
            by_cases e : q = 0
            · rw [e, rup_s, h0]
            · rw [rup_n e]; exact hr q e
          rw [hpF] at hR2
          have hq : (oQ p n).1 = -100006 := hpq0
          refine aw_iret X hQ dX4_run_107 ⟨congrArg (fun q => some (Value.int q)) (by rw [if_pos hq, ← hR2]), shs, ?_⟩
          rw [if_pos hq, if_pos hq, if_pos hq, ← hR2]
          rw [hrs, ez_5, ers_3] at hO
          exact hO
        · have hge : ¬ a < n := by omega
          refine aw_icmp_ge_t (tgt := 94) X dX4_run_34 (by decide) (show nI i ≥ nI 60 from nI_le (by omega) (by omega)) ?_
          refine aw_aload_n X dX4_run_94 rfl ?_
          refine aw_oget X hO f_X4_22 rfl dX4_run_95 ?_
          refine aw_iconst X (0) dX4_run_98 rfl ?_
          refine aw_fput X FP_a hO.fr 1 (b := 60) (n := 0) rfl f_X4_99 rfl (by decide +kernel) dX4_run_99 (fun μ z_5 ez_5 hP => ?_)
          have hO := hO.upP hP
          refine aw_aload_n X dX4_run_102 rfl ?_
          refine aw_iload_n X dX4_run_103 rfl ?_
          refine aw_cVO (As := [.int _]) X hO (c_X4_recorded (kl K) U lab _ _ pa o _ _ _ _ hO.1 _) s_X4_51 k_X4_recorded (by decide) ⟨rfl, rfl⟩ ⟨Nat.zero_le _, Nat.zero_le _⟩ rfl (by exact Nat.le_of_ble_eq_true rfl) rfl dX4_run_104 (fun μ shs hO => ?_)
          have hR2 : (c, pc, zc) = oAll n z_1 (rs 0) := by rw [← hR]; rfl
          have hrs : rsc = rup rs_3 0 zc := by
            funext q
            by_cases e : q = 0
            · rw [e, rup_s, h0]
            · rw [rup_n e]; exact hr q e
          rw [hpF] at hR2
          have hq : (oQ p n).1 = -100006 := hpq0
          refine aw_iret X hQ dX4_run_107 ⟨congrArg (fun q => some (Value.int q)) (by rw [if_pos hq, ← hR2]), shs, ?_⟩
          rw [if_pos hq, if_pos hq, if_pos hq, ← hR2]
          rw [hrs, ez_5, ers_3] at hO
          exact hO
      | succ d ih =>
        intro a i c μ pc zc rsc hia had han h60 h61 hR h0 hr hO
        refine aw_iload_n X dX4_run_31 rfl ?_
        refine aw_bipush X (60) dX4_run_32 rfl ?_
        by_cases hi60 : i < 60
        · refine aw_icmp_ge_f (tgt := 94) X dX4_run_34 (by decide) (xn_le (N := 60) hi60 (by decide) rfl) ?_
          refine aw_aload_n X dX4_run_37 rfl ?_
          refine aw_oget X hO f_X4_22 rfl dX4_run_38 ?_
          refine aw_fgetI X hO.fr 2 (t := 0) (b := 61) (n := 0) rfl f_X4_96 dX4_run_41 ?_
          refine aw_aload_n X dX4_run_44 rfl ?_
          refine aw_oget X hO f_X4_22 rfl dX4_run_45 ?_
          refine aw_fgetI X hO.fr 1 (t := 0) (b := 60) (n := 0) rfl f_X4_99 dX4_run_48 ?_
          by_cases hlt : a < n
          · skip
            refine aw_icmp_ge_f (tgt := 94) X dX4_run_51 (by decide) (by rw [h60, h61]; exact nI_ge hlt (by omega)) ?_
            refine aw_aload_n X dX4_run_54 rfl ?_
            refine aw_oget X hO f_X4_22 rfl dX4_run_55 ?_
            refine aw_cVFR (As := []) X hO.fr (c_X2_readOrder (kl K) U _ pa _ hO.1.2.2.1 n (a) ⟨h60, h61, hn, by omega⟩) s_X4_102 k_X2_readOrder (by decide) ⟨rfl, rfl⟩ ⟨Nat.zero_le _, Nat.zero_le _⟩ rfl (by exact Nat.le_of_ble_eq_true rfl) rfl dX4_run_58 (fun μ z_5 ez_5 hP => ?_)
            have hO := hO.upP hP
            refine aw_pop X dX4_run_61 rfl ?_
            refine aw_aload_n X dX4_run_62 rfl ?_
            refine aw_cVOJ (As := []) X hO (c_X4_doOrder (kl K) U lab _ _ pa o _ _ _ _ hO.1) s_X4_106 k_X4_doOrder (by decide) ⟨rfl, rfl⟩ ⟨Nat.zero_le _, Nat.zero_le _⟩ rfl (by exact Nat.le_of_ble_eq_true rfl) rfl dX4_run_63 (fun μ hO => ?_)
            obtain ⟨rs_6, ers_6⟩ : ∃ q : xR, q = rup rsc 0 (gOrd z_5 (rsc 0)).2 := ⟨_, rfl⟩
            rw [← ers_6] at hO
            refine aw_cSF (As := [.int _]) X (c_X4_isError (kl K) U _ _) s_X4_109 k_X4_isError (by decide) ⟨rfl, rfl⟩ ⟨Nat.zero_le _, Nat.zero_le _⟩ rfl (by exact Nat.le_of_ble_eq_true rfl) dX4_run_66 ?_
            refine aw_b_ne (tgt := 75) X dX4_run_69 (by decide) (fun c69_7 => ?_) (fun c69_7 => ?_)
            · skip
              refine aw_aload_n X dX4_run_75 rfl ?_
              refine aw_oget X hO f_X4_22 rfl dX4_run_76 ?_
              refine aw_dup X dX4_run_79 rfl ?_
              refine aw_fgetI X hO.fr 2 (t := 0) (b := 61) (n := 0) rfl f_X4_96 dX4_run_80 ?_
              refine aw_iconst X (1) dX4_run_83 rfl ?_
              refine aw_iadd X dX4_run_84 ?_
              have hpq := pOrd_pat (p := pc) (n := n) (a := a) ⟨h60, h61, hn, by omega⟩
              have hb : z_5 61 = nI (pOrd pc n a).2.1 := by rw [ez_5]; exact hpq.1.2.1
              refine aw_top (nI ((pOrd pc n a).2.1 + 1)) (by rw [hb, nI_1]) ?_
              refine aw_fput X FP_a hO.fr 2 (b := 61) (n := 0) rfl f_X4_96 rfl (by decide +kernel) dX4_run_85 (fun μ z_8 ez_8 hP => ?_)
              have hO := hO.upP hP
              refine aw_iinc X (1) dX4_run_88 rfl rfl rfl (by decide) ?_
              refine aw_goto (tgt := 31) X dX4_run_91 (by decide) ?_
              have hle : (pOrd pc n a).2.1 ≤ n := hpq.1.2.2.2
              have hge2 := hpq.2
              rw [oRun, if_pos hlt] at hR
              dsimp only at hR
              rw [if_pos (by rw [ez_5, h0] at c69_7; exact c69_7)] at hR
              refine aw_sub [some (.ref (o 0)), some (.int _), some (.int (nI (i + 1)))] ⟨rfl, rfl, congrArg (fun q => some (Value.int q)) (nI_1 i), trivial⟩ ?_
              refine ih ((pOrd pc n a).2.1 + 1) (i + 1) _ μ _ _ rs_6 (by omega) (by omega) (by omega) (by rw [ez_8, upd_n (by decide), ez_5]; exact hpq.1.1) (by rw [ez_8, upd_s]) ?_ (by rw [ers_6, rup_s]) (fun q hq => by rw [ers_6, rup_n hq]; exact hr q hq) hO
              rw [ez_8, ez_5, h0]
              exact hR
            · skip
              refine aw_iinc X (1) dX4_run_72 rfl rfl rfl (by decide) ?_
              refine aw_aload_n X dX4_run_75 rfl ?_
              refine aw_oget X hO f_X4_22 rfl dX4_run_76 ?_
              refine aw_dup X dX4_run_79 rfl ?_
              refine aw_fgetI X hO.fr 2 (t := 0) (b := 61) (n := 0) rfl f_X4_96 dX4_run_80 ?_
              refine aw_iconst X (1) dX4_run_83 rfl ?_
              refine aw_iadd X dX4_run_84 ?_
              have hpq := pOrd_pat (p := pc) (n := n) (a := a) ⟨h60, h61, hn, by omega⟩
              have hb : z_5 61 = nI (pOrd pc n a).2.1 := by rw [ez_5]; exact hpq.1.2.1
              refine aw_top (nI ((pOrd pc n a).2.1 + 1)) (by rw [hb, nI_1]) ?_
              refine aw_fput X FP_a hO.fr 2 (b := 61) (n := 0) rfl f_X4_96 rfl (by decide +kernel) dX4_run_85 (fun μ z_8 ez_8 hP => ?_)
              have hO := hO.upP hP
              refine aw_iinc X (1) dX4_run_88 rfl rfl rfl (by decide) ?_
              refine aw_goto (tgt := 31) X dX4_run_91 (by decide) ?_
              have hle : (pOrd pc n a).2.1 ≤ n := hpq.1.2.2.2
              have hge2 := hpq.2
              rw [oRun, if_pos hlt] at hR
              dsimp only at hR
              rw [if_neg (by rw [ez_5, h0] at c69_7; rw [c69_7]; decide)] at hR
              refine aw_sub [some (.ref (o 0)), some (.int _), some (.int (nI (i + 1)))] ⟨rfl, rfl, congrArg (fun q => some (Value.int q)) (nI_1 i), trivial⟩ ?_
              refine ih ((pOrd pc n a).2.1 + 1) (i + 1) _ μ _ _ rs_6 (by omega) (by omega) (by omega) (by rw [ez_8, upd_n (by decide), ez_5]; exact hpq.1.1) (by rw [ez_8, upd_s]) ?_ (by rw [ers_6, rup_s]) (fun q hq => by rw [ers_6, rup_n hq]; exact hr q hq) hO
              rw [ez_8, ez_5, h0]
              exact hR
          · have hge : ¬ a < n := hlt
            refine aw_icmp_ge_t (tgt := 94) X dX4_run_51 (by decide) (by rw [h60, h61]; exact nI_le (by omega) (by omega)) ?_
            refine aw_aload_n X dX4_run_94 rfl ?_
            refine aw_oget X hO f_X4_22 rfl dX4_run_95 ?_
            refine aw_iconst X (0) dX4_run_98 rfl ?_
            refine aw_fput X FP_a hO.fr 1 (b := 60) (n := 0) rfl f_X4_99 rfl (by decide +kernel) dX4_run_99 (fun μ z_5 ez_5 hP => ?_)
            have hO := hO.upP hP
            refine aw_aload_n X dX4_run_102 rfl ?_
            refine aw_iload_n X dX4_run_103 rfl ?_
            refine aw_cVO (As := [.int _]) X hO (c_X4_recorded (kl K) U lab _ _ pa o _ _ _ _ hO.1 _) s_X4_51 k_X4_recorded (by decide) ⟨rfl, rfl⟩ ⟨Nat.zero_le _, Nat.zero_le _⟩ rfl (by exact Nat.le_of_ble_eq_true rfl) rfl dX4_run_104 (fun μ shs hO => ?_)
            have hR2 : (c, pc, zc) = oAll n z_1 (rs 0) := by rw [← hR, oRun, if_neg hge]
            have hrs : rsc = rup rs_3 0 zc := by
              funext q
              by_cases e : q = 0
              · rw [e, rup_s, h0]
              · rw [rup_n e]; exact hr q e
            rw [hpF] at hR2
            have hq : (oQ p n).1 = -100006 := hpq0
            refine aw_iret X hQ dX4_run_107 ⟨congrArg (fun q => some (Value.int q)) (by rw [if_pos hq, ← hR2]), shs, ?_⟩
            rw [if_pos hq, if_pos hq, if_pos hq, ← hR2]
            rw [hrs, ez_5, ers_3] at hO
            exact hO
        · have hge : ¬ a < n := by omega
          refine aw_icmp_ge_t (tgt := 94) X dX4_run_34 (by decide) (show nI i ≥ nI 60 from nI_le (by omega) (by omega)) ?_
          refine aw_aload_n X dX4_run_94 rfl ?_
          refine aw_oget X hO f_X4_22 rfl dX4_run_95 ?_
          refine aw_iconst X (0) dX4_run_98 rfl ?_
          refine aw_fput X FP_a hO.fr 1 (b := 60) (n := 0) rfl f_X4_99 rfl (by decide +kernel) dX4_run_99 (fun μ z_5 ez_5 hP => ?_)
          have hO := hO.upP hP
          refine aw_aload_n X dX4_run_102 rfl ?_
          refine aw_iload_n X dX4_run_103 rfl ?_
          refine aw_cVO (As := [.int _]) X hO (c_X4_recorded (kl K) U lab _ _ pa o _ _ _ _ hO.1 _) s_X4_51 k_X4_recorded (by decide) ⟨rfl, rfl⟩ ⟨Nat.zero_le _, Nat.zero_le _⟩ rfl (by exact Nat.le_of_ble_eq_true rfl) rfl dX4_run_104 (fun μ shs hO => ?_)
          have hR2 : (c, pc, zc) = oAll n z_1 (rs 0) := by rw [← hR, oRun, if_neg hge]
          have hrs : rsc = rup rs_3 0 zc := by
            funext q
            by_cases e : q = 0
            · rw [e, rup_s, h0]
            · rw [rup_n e]; exact hr q e
          rw [hpF] at hR2
          have hq : (oQ p n).1 = -100006 := hpq0
          refine aw_iret X hQ dX4_run_107 ⟨congrArg (fun q => some (Value.int q)) (by rw [if_pos hq, ← hR2]), shs, ?_⟩
          rw [if_pos hq, if_pos hq, if_pos hq, ← hR2]
          rw [hrs, ez_5, ers_3] at hO
          exact hO
    have hz2 : z_4 = upd z_1 61 0 := ez_4
    refine aw_sub [some (.ref (o 0)), some (.int 0), some (.int (nI 0))] ⟨rfl, rfl, rfl, trivial⟩ ?_
    refine loop (n + 1) 0 0 0 μ z_4 (rs 0) rs_3 (Nat.le_refl 0) (by omega) (by omega) (by rw [hz2, upd_n (by decide)]; exact h60q) (by rw [hz2, upd_s]; rfl) (by rw [hz2]; rfl) e0 (fun _ _ => rfl) hO
  · skip
    refine aw_ldc X dX4_run_12 a_X4_95 ?_
    have hq : ¬ (oQ p n).1 = -100006 := c9_2
    exact aw_iret X hQ dX4_run_14 ⟨congrArg (fun q => some (Value.int q)) (by rw [if_neg hq]), _, by rw [if_neg hq, if_neg hq, if_neg hq]; subst ez_1; exact hO⟩
