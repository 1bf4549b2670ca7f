/-! the model's hour -/
theorem ixn {b : Int32} {n : Nat} (k : Nat) (h : b = nI n) : b + nI k = nI (n + k) := by rw [h, nI_add]
theorem ixm {b : Int32} {n : Nat} (k : Nat) (h : b = nI n) : b * nI k = nI (n * k) := by rw [h, pk_mul]
def mBurst (z : xV) (i : Nat) : xV :=
  let g := z (hz i 2)
  let u := imin (z 3) (z (tz 0 (tn g)))
  let ib := if z 7 = 1 then imin u (200 - z 8) else 0
  let z1 := upd z (tz 0 (tn g)) (z (tz 0 (tn g)) - u)
  let z2 := upd z1 (22 + tn g) (z1 (22 + tn g) + u)
  let z3 := upd z2 8 (z2 8 + ib)
  let z4 := upd z3 9 (z3 9 + (u - ib))
  let z5 := upd z4 (hz i 2) (-100006)
  upd z5 (hz i 3) 1
theorem upd_c {f : xV} {a b : Nat} {v w : Int32} (h : a ≠ b) : upd (upd f a v) b w = upd (upd f b w) a v := by
  funext j
  by_cases e1 : j = a
  · subst e1; rw [upd_n h, upd_s, upd_s]
  · by_cases e2 : j = b
    · subst e2; rw [upd_s, upd_n e1, upd_s]
    · rw [upd_n e2, upd_n e1, upd_n e1, upd_n e2]
theorem mBurst_eq {z : xV} {i : Nat} (hi : i < 4) (hG : isG (z (hz i 2)) = true) (h7 : xz (z 7)) : mBurst z i = gBurst z i := by
  have hg : tn (z (hz i 2)) < 4 := isG_tn hG
  unfold mBurst gBurst
  dsimp only
  rw [if_neg (by rw [hG]; decide : ¬ isG (z (hz i 2)) = false)]
  generalize hgg : tn (z (hz i 2)) = g at hg ⊢
  have a1 : hz i 3 ≠ hz i 2 := by simp only [hz]; omega
  have a2 : ∀ k, k < 26 ∨ 50 ≤ k → k ≠ hz i 2 ∧ k ≠ hz i 3 := by intro k hk; simp only [hz]; omega
  have t0 : 50 ≤ tz 0 g := by simp only [tz]; omega
  have e7 : upd (upd z (hz i 3) 1) (hz i 2) (-100006) 7 = z 7 := by rw [upd_n (a2 7 (by omega)).1, upd_n (a2 7 (by omega)).2]
  have e3 : upd (upd z (hz i 3) 1) (hz i 2) (-100006) 3 = z 3 := by rw [upd_n (a2 3 (by omega)).1, upd_n (a2 3 (by omega)).2]
  have e8 : upd (upd z (hz i 3) 1) (hz i 2) (-100006) 8 = z 8 := by rw [upd_n (a2 8 (by omega)).1, upd_n (a2 8 (by omega)).2]
  have et : upd (upd z (hz i 3) 1) (hz i 2) (-100006) (tz 0 g) = z (tz 0 g) := by rw [upd_n (a2 _ (by omega)).1, upd_n (a2 _ (by omega)).2]
  rw [e7, e3, e8, et]
  have eib : (if z 7 = 1 then imin (imin (z 3) (z (tz 0 g))) (200 - z 8) else 0) = (if z 7 = 0 then 0 else imin (imin (z 3) (z (tz 0 g))) (200 - z 8)) := by
    rcases h7 with h | h <;> rw [h] <;> rfl
  rw [eib]
  generalize (if z 7 = 0 then (0 : Int32) else imin (imin (z 3) (z (tz 0 g))) (200 - z 8)) = ib
  generalize imin (z 3) (z (tz 0 g)) = u
  rw [upd_c (a := hz i 3) (b := hz i 2) a1]
  rw [upd_c (f := upd z (hz i 2) (-100006)) (a := hz i 3) (b := tz 0 g) (a2 _ (by omega)).2.symm, upd_c (f := z) (a := hz i 2) (b := tz 0 g) (a2 _ (by omega)).1.symm]
  generalize upd z (tz 0 g) (z (tz 0 g) - u) = y
  have k22 : ∀ f : xV, ∀ v : Int32, ∀ k, k < 26 → upd (upd (upd f (hz i 2) (-100006)) (hz i 3) 1) k v = upd (upd (upd f k v) (hz i 2) (-100006)) (hz i 3) 1 := by
    intro f v k hk
    rw [upd_c (a2 k (Or.inl hk)).2.symm, upd_c (a2 k (Or.inl hk)).1.symm]
  have r : ∀ f : xV, ∀ k, k < 26 → upd (upd f (hz i 2) (-100006)) (hz i 3) 1 k = f k := by
    intro f k hk
    rw [upd_n (a2 k (Or.inl hk)).2, upd_n (a2 k (Or.inl hk)).1]
  rw [r _ _ (by omega), k22 _ _ _ (by omega), r _ _ (by omega), k22 _ _ _ (by omega), r _ _ (by omega), k22 _ _ _ (by omega)]
def mMove (z : xV) (i : Nat) : Int32 × xV :=
  let g := z (hz i 2)
  let u := imin (imin (z 3) (z (tz 0 (tn g)))) (1000 - z (14 + tn g))
  let z1 := upd z (tz 0 (tn g)) (z (tz 0 (tn g)) - u)
  if 0 ≤ z (hz i 1) ∧ ¬ z (hz i 1) = g then
    let z2 := upd z1 (18 + tn g) (z1 (18 + tn g) + u)
    let z3 := upd z2 (hz i 5) (z2 (hz i 5) + u)
    (0, upd z3 (hz i 1) (if 0 < u then g else z3 (hz i 1)))
  else
    let z2 := upd z1 (14 + tn g) (z1 (14 + tn g) + u)
    let z3 := upd z2 (hz i 4) (z2 (hz i 4) + u)
    (u, upd z3 (hz i 1) (if 0 < u then g else z3 (hz i 1)))
theorem upd_idl {f : xV} {k : Nat} : upd f k (f k) = f := (upd_id rfl).symm
theorem mMove_eq {z : xV} {i : Nat} (hi : i < 4) (hG : isG (z (hz i 2)) = true) (h : IV z) : mMove z i = gMove z i := by
  have hg : tn (z (hz i 2)) < 4 := isG_tn hG
  have h13 := (h.2.2.2.2.2.2.1 i hi).2.2.2.2 hG
  obtain ⟨r, r1, r2, er⟩ := rgN (lo := 1) (hi := 40) (by decide) (by decide) h.1.2.2.2.1
  obtain ⟨t, -, t2, et⟩ := rgN (lo := 0) (hi := 400) (by decide) (by decide) (h.2.2.2.2.2.2.2 0 (by decide) (live0.mpr h13) _ hg)
  obtain ⟨s, -, s2, es⟩ := rgN (lo := 0) (hi := 1000) (by decide) (by decide) (h.2.2.2.2.2.1 _ hg)
  have hv1 := (h.2.2.2.2.2.2.1 i hi).2.1
  unfold mMove gMove
  dsimp only
  rw [if_neg (by rw [hG]; decide : ¬ isG (z (hz i 2)) = false)]
  have e1000 : (1000 : Int32) - z (14 + tn (z (hz i 2))) = nI (1000 - s) := by rw [es, show (1000 : Int32) = nI 1000 from rfl, pk_sub s2]
  have eu : imin (imin (z 3) (z (tz 0 (tn (z (hz i 2)))))) (1000 - z (14 + tn (z (hz i 2)))) = nI (min (min r t) (1000 - s)) := by
    rw [e1000]; exact imin_rg (imin_rg er et (by omega) (by omega)) rfl (by omega) (by omega)
  have eu2 : imin (z 3) (imin (z (tz 0 (tn (z (hz i 2))))) (1000 - z (14 + tn (z (hz i 2))))) = nI (min (min r t) (1000 - s)) := by
    rw [e1000, imin_rg er (imin_rg et rfl (by omega) (by omega)) (by omega) (by omega), Nat.min_assoc]
  rw [eu, eu2]
  have hO : cOther z i = decide (0 ≤ z (hz i 1) ∧ ¬ z (hz i 1) = z (hz i 2)) := by
    unfold cOther
    rw [Bool.decide_and]
    have : decide (¬ z (hz i 1) = -100006) = decide (0 ≤ z (hz i 1)) := by
      rcases hv1 with q | q
      · rw [q]; decide
      · rw [gv_0 (Or.inr q), q]
        refine decide_eq_true (fun e => ?_)
        rw [e] at q; revert q; decide
    rw [this]
  generalize hgg : tn (z (hz i 2)) = g at hg ⊢
  generalize hU : min (min r t) (1000 - s) = u
  have hu : u ≤ 40 := by omega
  have n1 : hz i 1 ≠ tz 0 g := by simp only [hz, tz]; omega
  have n2 : hz i 1 ≠ 18 + g := by simp only [hz]; omega
  have n3 : hz i 1 ≠ 14 + g := by simp only [hz]; omega
  have n4 : hz i 1 ≠ hz i 5 := by simp only [hz]; omega
  have n5 : hz i 1 ≠ hz i 4 := by simp only [hz]; omega
  by_cases h0 : u = 0
  · have hn : ¬ (0 : Int32) < nI u := by rw [h0]; decide
    rw [if_pos hn, h0]
    have z0 : ∀ x : Int32, x + nI 0 = x := fun x => by rw [nI_0, Int32.add_zero]
    have z1 : ∀ x : Int32, x - nI 0 = x := fun x => by rw [nI_0, Int32.sub_zero]
    have hn0 : ¬ (0 : Int32) < nI 0 := by decide
    rw [if_neg hn0, if_neg hn0]
    simp only [z0, z1, upd_idl]
    split <;> rfl
  · have hp : (0 : Int32) < nI u := by rw [show (0 : Int32) = nI 0 from rfl]; exact nI_lt (by omega) (by omega)
    rw [if_neg (show ¬ ¬ (0 : Int32) < nI u from fun q => q hp), if_pos hp, if_pos hp, hO]
    by_cases hc : 0 ≤ z (hz i 1) ∧ ¬ z (hz i 1) = z (hz i 2)
    · rw [if_pos hc, if_pos (decide_eq_true hc)]
      refine Prod.ext rfl ?_
      dsimp only
      rw [upd_c (a := hz i 1) (b := 18 + g) n2, upd_n n2.symm, upd_c (a := hz i 1) (b := hz i 5) n4, upd_n n4.symm]
    · rw [if_neg hc, if_neg (by rw [decide_eq_true_iff]; exact hc)]
      refine Prod.ext rfl ?_
      dsimp only
      rw [upd_c (a := hz i 1) (b := 14 + g) n3, upd_n n3.symm, upd_c (a := hz i 1) (b := hz i 4) n5, upd_n n5.symm]
set_option maxHeartbeats 4000000 in
set_option maxRecDepth 100000 in
theorem c_X5_bursts (l : Launch) (U : xU) (μ0 : xH) (ma : Nat → Nat) (m : xV) (hM0 : FRep U μ0 ma 5 FM m) (p : Int32) (pn : Nat) (hp : p = nI pn) (hpn : pn < 4) (hG : isG (m (hz pn 2)) = true) (h7 : xz (m 7)) : CtFK l U yX5_bursts cX5_bursts 5 none ({ frames := 1, cells := 0, slots := 0, locals := 23 } : Room) [.ref (ma 0), .int p] μ0 ma 5 FM (gBurst m pn) := by
  refine Ct.of [some (.ref (ma 0)), some (.int p), none, none, none] (by decide +kernel) rfl (Nat.le_of_ble_eq_true rfl) (fun K Q X hnm hQ => ?_)
  have hM := FR.rf hM0
  refine aw_aload_n X dX5_bursts_0 rfl ?_
  refine aw_iload_n X dX5_bursts_1 rfl ?_
  refine aw_iconst X (2) dX5_bursts_2 rfl ?_
  refine aw_cVFF (As := [.int _, .int _]) X hM (c_X5_hoseOf (kl K) U _ ma _ hM.1 _ _ pn 2 hp rfl (by omega) (by decide)) s_X5_63 k_X5_hoseOf (by decide) ⟨rfl, rfl⟩ ⟨Nat.zero_le _, Nat.zero_le _⟩ rfl (by exact Nat.le_of_ble_eq_true rfl) rfl dX5_bursts_3 ?_
  refine aw_istore_n X dX5_bursts_6 rfl (by decide) ?_
  refine aw_aload_n X dX5_bursts_7 rfl ?_
  refine aw_fgetA X hM 0 (t := 0) (b := 0) (n := 80) rfl f_X5_7 dX5_bursts_8 ?_
  refine aw_iconst X (3) dX5_bursts_11 rfl ?_
  refine aw_fiald X hM 0 (b := 0) (n := 80) rfl 3 (xin_d rfl) (by decide) dX5_bursts_12 ?_
  refine aw_aload_n X dX5_bursts_13 rfl ?_
  refine aw_iconst X (0) dX5_bursts_14 rfl ?_
  refine aw_iload_n X dX5_bursts_15 rfl ?_
  refine aw_cVFF (As := [.int _, .int _]) X hM (c_X5_ofTanker (kl K) U _ ma _ hM.1 _ _ 0 (tn (m (hz pn 2))) rfl (isG_hv hG) (by decide) (Nat.lt_trans (isG_tn hG) (by decide))) s_X5_45 k_X5_ofTanker (by decide) ⟨rfl, rfl⟩ ⟨Nat.zero_le _, Nat.zero_le _⟩ rfl (by exact Nat.le_of_ble_eq_true rfl) rfl dX5_bursts_16 ?_
  refine aw_cSF (As := [.int _, .int _]) X (c_X5_least (kl K) U _ _ _) s_X5_70 k_X5_least (by decide) ⟨rfl, rfl⟩ ⟨Nat.zero_le _, Nat.zero_le _⟩ rfl (by exact Nat.le_of_ble_eq_true rfl) dX5_bursts_19 ?_
  refine aw_istore_n X dX5_bursts_22 rfl (by decide) ?_
  refine aw_aload_n X dX5_bursts_23 rfl ?_
  refine aw_fgetA X hM 0 (t := 0) (b := 0) (n := 80) rfl f_X5_7 dX5_bursts_24 ?_
  refine aw_bipush X (7) dX5_bursts_27 rfl ?_
  refine aw_fiald X hM 0 (b := 0) (n := 80) rfl 7 (xin_d rfl) (by decide) dX5_bursts_29 ?_
  refine aw_iconst X (1) dX5_bursts_30 rfl ?_
  refine aw_icmp_ne (tgt := 52) X dX5_bursts_31 (by decide) (fun c31_1 => ?_) (fun c31_1 => ?_)
  · skip
    refine aw_iconst X (0) dX5_bursts_52 rfl ?_
    refine aw_istore X dX5_bursts_53 rfl (by decide) ?_
    refine aw_aload_n X dX5_bursts_55 rfl ?_
    refine aw_iconst X (0) dX5_bursts_56 rfl ?_
    refine aw_iload_n X dX5_bursts_57 rfl ?_
    refine aw_aload_n X dX5_bursts_58 rfl ?_
    refine aw_iconst X (0) dX5_bursts_59 rfl ?_
    refine aw_iload_n X dX5_bursts_60 rfl ?_
    refine aw_cVFF (As := [.int _, .int _]) X hM (c_X5_ofTanker (kl K) U _ ma _ hM.1 _ _ 0 (tn (m (hz pn 2))) rfl (isG_hv hG) (by decide) (Nat.lt_trans (isG_tn hG) (by decide))) s_X5_45 k_X5_ofTanker (by decide) ⟨rfl, rfl⟩ ⟨Nat.zero_le _, Nat.zero_le _⟩ rfl (by exact Nat.le_of_ble_eq_true rfl) rfl dX5_bursts_61 ?_
    refine aw_iload_n X dX5_bursts_64 rfl ?_
    refine aw_isub X dX5_bursts_65 ?_
    refine aw_cVFK (As := [.int _, .int _, .int _]) X hM (c_X5_setTanker (kl K) U _ ma _ hM.1 _ _ _ 0 (tn (m (hz pn 2))) rfl (isG_hv hG) (by decide) (Nat.lt_trans (isG_tn hG) (by decide))) s_X5_73 k_X5_setTanker (by decide) ⟨rfl, rfl⟩ ⟨Nat.zero_le _, Nat.zero_le _⟩ rfl (by exact Nat.le_of_ble_eq_true rfl) rfl dX5_bursts_66 (fun μ z_2 ez_2 hM => ?_)
    refine aw_aload_n X dX5_bursts_69 rfl ?_
    refine aw_fgetA X hM 0 (t := 0) (b := 0) (n := 80) rfl f_X5_7 dX5_bursts_70 ?_
    refine aw_bipush X (22) dX5_bursts_73 rfl ?_
    refine aw_iload_n X dX5_bursts_75 rfl ?_
    refine aw_iadd X dX5_bursts_76 ?_
    refine aw_top (nI (22 + tn (m (hz pn 2)))) (ixg hG _ _ rfl) ?_
    have hgb76 : tn (m (hz pn 2)) < 4 := isG_tn hG
    refine aw_dup2 X dX5_bursts_77 rfl rfl ?_
    refine aw_fiald X hM 0 (b := 0) (n := 80) rfl (22 + tn (m (hz pn 2))) (vp_in_nI (by omega) (by decide)) (by rw [nI_clamp (by omega), Nat.zero_add]) dX5_bursts_78 ?_
    refine aw_iload_n X dX5_bursts_79 rfl ?_
    refine aw_iadd X dX5_bursts_80 ?_
    refine aw_fiast X FM_a hM 0 (b := 0) (n := 80) rfl (22 + tn (m (hz pn 2))) (vp_in_nI (by omega) (by decide)) (by rw [nI_clamp (by omega), Nat.zero_add]) dX5_bursts_81 (fun μ z_3 ez_3 hM => ?_)
    refine aw_aload_n X dX5_bursts_82 rfl ?_
    refine aw_fgetA X hM 0 (t := 0) (b := 0) (n := 80) rfl f_X5_7 dX5_bursts_83 ?_
    refine aw_bipush X (8) dX5_bursts_86 rfl ?_
    refine aw_dup2 X dX5_bursts_88 rfl rfl ?_
    refine aw_fiald X hM 0 (b := 0) (n := 80) rfl 8 (xin_d rfl) (by decide) dX5_bursts_89 ?_
    refine aw_iload X dX5_bursts_90 rfl ?_
    refine aw_iadd X dX5_bursts_92 ?_
    refine aw_fiast X FM_a hM 0 (b := 0) (n := 80) rfl 8 (xin_d rfl) (by decide) dX5_bursts_93 (fun μ z_4 ez_4 hM => ?_)
    refine aw_aload_n X dX5_bursts_94 rfl ?_
    refine aw_fgetA X hM 0 (t := 0) (b := 0) (n := 80) rfl f_X5_7 dX5_bursts_95 ?_
    refine aw_bipush X (9) dX5_bursts_98 rfl ?_
    refine aw_dup2 X dX5_bursts_100 rfl rfl ?_
    refine aw_fiald X hM 0 (b := 0) (n := 80) rfl 9 (xin_d rfl) (by decide) dX5_bursts_101 ?_
    refine aw_iload_n X dX5_bursts_102 rfl ?_
    refine aw_iload X dX5_bursts_103 rfl ?_
    refine aw_isub X dX5_bursts_105 ?_
    refine aw_iadd X dX5_bursts_106 ?_
    refine aw_fiast X FM_a hM 0 (b := 0) (n := 80) rfl 9 (xin_d rfl) (by decide) dX5_bursts_107 (fun μ z_5 ez_5 hM => ?_)
    refine aw_aload_n X dX5_bursts_108 rfl ?_
    refine aw_iload_n X dX5_bursts_109 rfl ?_
    refine aw_iconst X (2) dX5_bursts_110 rfl ?_
    refine aw_ldc X dX5_bursts_111 a_X5_36 ?_
    refine aw_cVFK (As := [.int _, .int _, .int _]) X hM (c_X5_setHose (kl K) U _ ma _ hM.1 _ _ _ pn 2 hp rfl (by omega) (by decide)) s_X5_32 k_X5_setHose (by decide) ⟨rfl, rfl⟩ ⟨Nat.zero_le _, Nat.zero_le _⟩ rfl (by exact Nat.le_of_ble_eq_true rfl) rfl dX5_bursts_113 (fun μ z_6 ez_6 hM => ?_)
    refine aw_aload_n X dX5_bursts_116 rfl ?_
    refine aw_iload_n X dX5_bursts_117 rfl ?_
    refine aw_iconst X (3) dX5_bursts_118 rfl ?_
    refine aw_iconst X (1) dX5_bursts_119 rfl ?_
    refine aw_cVFK (As := [.int _, .int _, .int _]) X hM (c_X5_setHose (kl K) U _ ma _ hM.1 _ _ _ pn 3 hp rfl (by omega) (by decide)) s_X5_32 k_X5_setHose (by decide) ⟨rfl, rfl⟩ ⟨Nat.zero_le _, Nat.zero_le _⟩ rfl (by exact Nat.le_of_ble_eq_true rfl) rfl dX5_bursts_120 (fun μ z_7 ez_7 hM => ?_)
    refine aw_vret X hQ dX5_bursts_123 ⟨rfl, hM.to ?_⟩
    rw [← mBurst_eq hpn hG h7]
    subst ez_2 ez_3 ez_4 ez_5 ez_6 ez_7; simp [mBurst, c31_1]
  · skip
    refine aw_iload_n X dX5_bursts_34 rfl ?_
    refine aw_sipush X (200) dX5_bursts_35 rfl ?_
    refine aw_aload_n X dX5_bursts_38 rfl ?_
    refine aw_fgetA X hM 0 (t := 0) (b := 0) (n := 80) rfl f_X5_7 dX5_bursts_39 ?_
    refine aw_bipush X (8) dX5_bursts_42 rfl ?_
    refine aw_fiald X hM 0 (b := 0) (n := 80) rfl 8 (xin_d rfl) (by decide) dX5_bursts_44 ?_
    refine aw_isub X dX5_bursts_45 ?_
    refine aw_cSF (As := [.int _, .int _]) X (c_X5_least (kl K) U _ _ _) s_X5_70 k_X5_least (by decide) ⟨rfl, rfl⟩ ⟨Nat.zero_le _, Nat.zero_le _⟩ rfl (by exact Nat.le_of_ble_eq_true rfl) dX5_bursts_46 ?_
    refine aw_goto (tgt := 53) X dX5_bursts_49 (by decide) ?_
    refine aw_istore X dX5_bursts_53 rfl (by decide) ?_
    refine aw_aload_n X dX5_bursts_55 rfl ?_
    refine aw_iconst X (0) dX5_bursts_56 rfl ?_
    refine aw_iload_n X dX5_bursts_57 rfl ?_
    refine aw_aload_n X dX5_bursts_58 rfl ?_
    refine aw_iconst X (0) dX5_bursts_59 rfl ?_
    refine aw_iload_n X dX5_bursts_60 rfl ?_
    refine aw_cVFF (As := [.int _, .int _]) X hM (c_X5_ofTanker (kl K) U _ ma _ hM.1 _ _ 0 (tn (m (hz pn 2))) rfl (isG_hv hG) (by decide) (Nat.lt_trans (isG_tn hG) (by decide))) s_X5_45 k_X5_ofTanker (by decide) ⟨rfl, rfl⟩ ⟨Nat.zero_le _, Nat.zero_le _⟩ rfl (by exact Nat.le_of_ble_eq_true rfl) rfl dX5_bursts_61 ?_
    refine aw_iload_n X dX5_bursts_64 rfl ?_
    refine aw_isub X dX5_bursts_65 ?_
    refine aw_cVFK (As := [.int _, .int _, .int _]) X hM (c_X5_setTanker (kl K) U _ ma _ hM.1 _ _ _ 0 (tn (m (hz pn 2))) rfl (isG_hv hG) (by decide) (Nat.lt_trans (isG_tn hG) (by decide))) s_X5_73 k_X5_setTanker (by decide) ⟨rfl, rfl⟩ ⟨Nat.zero_le _, Nat.zero_le _⟩ rfl (by exact Nat.le_of_ble_eq_true rfl) rfl dX5_bursts_66 (fun μ z_2 ez_2 hM => ?_)
    refine aw_aload_n X dX5_bursts_69 rfl ?_
    refine aw_fgetA X hM 0 (t := 0) (b := 0) (n := 80) rfl f_X5_7 dX5_bursts_70 ?_
    refine aw_bipush X (22) dX5_bursts_73 rfl ?_
    refine aw_iload_n X dX5_bursts_75 rfl ?_
    refine aw_iadd X dX5_bursts_76 ?_
    refine aw_top (nI (22 + tn (m (hz pn 2)))) (ixg hG _ _ rfl) ?_
    have hgb76 : tn (m (hz pn 2)) < 4 := isG_tn hG
    refine aw_dup2 X dX5_bursts_77 rfl rfl ?_
    refine aw_fiald X hM 0 (b := 0) (n := 80) rfl (22 + tn (m (hz pn 2))) (vp_in_nI (by omega) (by decide)) (by rw [nI_clamp (by omega), Nat.zero_add]) dX5_bursts_78 ?_
    refine aw_iload_n X dX5_bursts_79 rfl ?_
    refine aw_iadd X dX5_bursts_80 ?_
    refine aw_fiast X FM_a hM 0 (b := 0) (n := 80) rfl (22 + tn (m (hz pn 2))) (vp_in_nI (by omega) (by decide)) (by rw [nI_clamp (by omega), Nat.zero_add]) dX5_bursts_81 (fun μ z_3 ez_3 hM => ?_)
    refine aw_aload_n X dX5_bursts_82 rfl ?_
    refine aw_fgetA X hM 0 (t := 0) (b := 0) (n := 80) rfl f_X5_7 dX5_bursts_83 ?_
    refine aw_bipush X (8) dX5_bursts_86 rfl ?_
    refine aw_dup2 X dX5_bursts_88 rfl rfl ?_
    refine aw_fiald X hM 0 (b := 0) (n := 80) rfl 8 (xin_d rfl) (by decide) dX5_bursts_89 ?_
    refine aw_iload X dX5_bursts_90 rfl ?_
    refine aw_iadd X dX5_bursts_92 ?_
    refine aw_fiast X FM_a hM 0 (b := 0) (n := 80) rfl 8 (xin_d rfl) (by decide) dX5_bursts_93 (fun μ z_4 ez_4 hM => ?_)
    refine aw_aload_n X dX5_bursts_94 rfl ?_
    refine aw_fgetA X hM 0 (t := 0) (b := 0) (n := 80) rfl f_X5_7 dX5_bursts_95 ?_
    refine aw_bipush X (9) dX5_bursts_98 rfl ?_
    refine aw_dup2 X dX5_bursts_100 rfl rfl ?_
    refine aw_fiald X hM 0 (b := 0) (n := 80) rfl 9 (xin_d rfl) (by decide) dX5_bursts_101 ?_
    refine aw_iload_n X dX5_bursts_102 rfl ?_
    refine aw_iload X dX5_bursts_103 rfl ?_
    refine aw_isub X dX5_bursts_105 ?_
    refine aw_iadd X dX5_bursts_106 ?_
    refine aw_fiast X FM_a hM 0 (b := 0) (n := 80) rfl 9 (xin_d rfl) (by decide) dX5_bursts_107 (fun μ z_5 ez_5 hM => ?_)
    refine aw_aload_n X dX5_bursts_108 rfl ?_
    refine aw_iload_n X dX5_bursts_109 rfl ?_
    refine aw_iconst X (2) dX5_bursts_110 rfl ?_
    refine aw_ldc X dX5_bursts_111 a_X5_36 ?_
    refine aw_cVFK (As := [.int _, .int _, .int _]) X hM (c_X5_setHose (kl K) U _ ma _ hM.1 _ _ _ pn 2 hp rfl (by omega) (by decide)) s_X5_32 k_X5_setHose (by decide) ⟨rfl, rfl⟩ ⟨Nat.zero_le _, Nat.zero_le _⟩ rfl (by exact Nat.le_of_ble_eq_true rfl) rfl dX5_bursts_113 (fun μ z_6 ez_6 hM => ?_)
    refine aw_aload_n X dX5_bursts_116 rfl ?_
    refine aw_iload_n X dX5_bursts_117 rfl ?_
    refine aw_iconst X (3) dX5_bursts_118 rfl ?_
    refine aw_iconst X (1) dX5_bursts_119 rfl ?_
    refine aw_cVFK (As := [.int _, .int _, .int _]) X hM (c_X5_setHose (kl K) U _ ma _ hM.1 _ _ _ pn 3 hp rfl (by omega) (by decide)) s_X5_32 k_X5_setHose (by decide) ⟨rfl, rfl⟩ ⟨Nat.zero_le _, Nat.zero_le _⟩ rfl (by exact Nat.le_of_ble_eq_true rfl) rfl dX5_bursts_120 (fun μ z_7 ez_7 hM => ?_)
    refine aw_vret X hQ dX5_bursts_123 ⟨rfl, hM.to ?_⟩
    rw [← mBurst_eq hpn hG h7]
    subst ez_2 ez_3 ez_4 ez_5 ez_6 ez_7; simp [mBurst, c31_1]

set_option maxHeartbeats 4000000 in
set_option maxRecDepth 100000 in
theorem c_X5_moves (l : Launch) (U : xU) (μ0 : xH) (ma : Nat → Nat) (m : xV) (hM0 : FRep U μ0 ma 5 FM m) (p : Int32) (pn : Nat) (hp : p = nI pn) (hpn : pn < 4) (hG : isG (m (hz pn 2)) = true) (hiv : IV m) : CtFR l U yX5_moves cX5_moves 5 (some .int) ({ frames := 1, cells := 0, slots := 0, locals := 23 } : Room) [.ref (ma 0), .int p] μ0 ma 5 FM (gMove m pn).1 (gMove m pn).2 := by
  refine Ct.of [some (.ref (ma 0)), some (.int p), none, none, none] (by decide +kernel) rfl (Nat.le_of_ble_eq_true rfl) (fun K Q X hnm hQ => ?_)
  have hM := FR.rf hM0
  refine aw_aload_n X dX5_moves_0 rfl ?_
  refine aw_iload_n X dX5_moves_1 rfl ?_
  refine aw_iconst X (2) dX5_moves_2 rfl ?_
  refine aw_cVFF (As := [.int _, .int _]) X hM (c_X5_hoseOf (kl K) U _ ma _ hM.1 _ _ pn 2 hp rfl (by omega) (by decide)) s_X5_63 k_X5_hoseOf (by decide) ⟨rfl, rfl⟩ ⟨Nat.zero_le _, Nat.zero_le _⟩ rfl (by exact Nat.le_of_ble_eq_true rfl) rfl dX5_moves_3 ?_
  refine aw_istore_n X dX5_moves_6 rfl (by decide) ?_
  refine aw_aload_n X dX5_moves_7 rfl ?_
  refine aw_fgetA X hM 0 (t := 0) (b := 0) (n := 80) rfl f_X5_7 dX5_moves_8 ?_
  refine aw_iconst X (3) dX5_moves_11 rfl ?_
  refine aw_fiald X hM 0 (b := 0) (n := 80) rfl 3 (xin_d rfl) (by decide) dX5_moves_12 ?_
  refine aw_aload_n X dX5_moves_13 rfl ?_
  refine aw_iconst X (0) dX5_moves_14 rfl ?_
  refine aw_iload_n X dX5_moves_15 rfl ?_
  refine aw_cVFF (As := [.int _, .int _]) X hM (c_X5_ofTanker (kl K) U _ ma _ hM.1 _ _ 0 (tn (m (hz pn 2))) rfl (isG_hv hG) (by decide) (Nat.lt_trans (isG_tn hG) (by decide))) s_X5_45 k_X5_ofTanker (by decide) ⟨rfl, rfl⟩ ⟨Nat.zero_le _, Nat.zero_le _⟩ rfl (by exact Nat.le_of_ble_eq_true rfl) rfl dX5_moves_16 ?_
  refine aw_cSF (As := [.int _, .int _]) X (c_X5_least (kl K) U _ _ _) s_X5_70 k_X5_least (by decide) ⟨rfl, rfl⟩ ⟨Nat.zero_le _, Nat.zero_le _⟩ rfl (by exact Nat.le_of_ble_eq_true rfl) dX5_moves_19 ?_
  refine aw_sipush X (1000) dX5_moves_22 rfl ?_
  refine aw_aload_n X dX5_moves_25 rfl ?_
  refine aw_fgetA X hM 0 (t := 0) (b := 0) (n := 80) rfl f_X5_7 dX5_moves_26 ?_
  refine aw_bipush X (14) dX5_moves_29 rfl ?_
  refine aw_iload_n X dX5_moves_31 rfl ?_
  refine aw_iadd X dX5_moves_32 ?_
  refine aw_top (nI (14 + tn (m (hz pn 2)))) (ixg hG _ _ rfl) ?_
  have hgb32 : tn (m (hz pn 2)) < 4 := isG_tn hG
  refine aw_fiald X hM 0 (b := 0) (n := 80) rfl (14 + tn (m (hz pn 2))) (vp_in_nI (by omega) (by decide)) (by rw [nI_clamp (by omega), Nat.zero_add]) dX5_moves_33 ?_
  refine aw_isub X dX5_moves_34 ?_
  refine aw_cSF (As := [.int _, .int _]) X (c_X5_least (kl K) U _ _ _) s_X5_70 k_X5_least (by decide) ⟨rfl, rfl⟩ ⟨Nat.zero_le _, Nat.zero_le _⟩ rfl (by exact Nat.le_of_ble_eq_true rfl) dX5_moves_35 ?_
  refine aw_istore_n X dX5_moves_38 rfl (by decide) ?_
  refine aw_aload_n X dX5_moves_39 rfl ?_
  refine aw_iload_n X dX5_moves_40 rfl ?_
  refine aw_iconst X (1) dX5_moves_41 rfl ?_
  refine aw_cVFF (As := [.int _, .int _]) X hM (c_X5_hoseOf (kl K) U _ ma _ hM.1 _ _ pn 1 hp rfl (by omega) (by decide)) s_X5_63 k_X5_hoseOf (by decide) ⟨rfl, rfl⟩ ⟨Nat.zero_le _, Nat.zero_le _⟩ rfl (by exact Nat.le_of_ble_eq_true rfl) rfl dX5_moves_42 ?_
  refine aw_if_lt (tgt := 62) X dX5_moves_45 (by decide) (fun c45_1 => ?_) (fun c45_1 => ?_)
  · skip
    refine aw_iconst X (0) dX5_moves_62 rfl ?_
    refine aw_istore X dX5_moves_63 rfl (by decide) ?_
    refine aw_aload_n X dX5_moves_65 rfl ?_
    refine aw_iconst X (0) dX5_moves_66 rfl ?_
    refine aw_iload_n X dX5_moves_67 rfl ?_
    refine aw_aload_n X dX5_moves_68 rfl ?_
    refine aw_iconst X (0) dX5_moves_69 rfl ?_
    refine aw_iload_n X dX5_moves_70 rfl ?_
    refine aw_cVFF (As := [.int _, .int _]) X hM (c_X5_ofTanker (kl K) U _ ma _ hM.1 _ _ 0 (tn (m (hz pn 2))) rfl (isG_hv hG) (by decide) (Nat.lt_trans (isG_tn hG) (by decide))) s_X5_45 k_X5_ofTanker (by decide) ⟨rfl, rfl⟩ ⟨Nat.zero_le _, Nat.zero_le _⟩ rfl (by exact Nat.le_of_ble_eq_true rfl) rfl dX5_moves_71 ?_
    refine aw_iload_n X dX5_moves_74 rfl ?_
    refine aw_isub X dX5_moves_75 ?_
    refine aw_cVFK (As := [.int _, .int _, .int _]) X hM (c_X5_setTanker (kl K) U _ ma _ hM.1 _ _ _ 0 (tn (m (hz pn 2))) rfl (isG_hv hG) (by decide) (Nat.lt_trans (isG_tn hG) (by decide))) s_X5_73 k_X5_setTanker (by decide) ⟨rfl, rfl⟩ ⟨Nat.zero_le _, Nat.zero_le _⟩ rfl (by exact Nat.le_of_ble_eq_true rfl) rfl dX5_moves_76 (fun μ z_2 ez_2 hM => ?_)
    refine aw_iload X dX5_moves_79 rfl ?_
    refine aw_if_eq_t (tgt := 114) X dX5_moves_81 (by decide) (by decide) ?_
    refine aw_aload_n X dX5_moves_114 rfl ?_
    refine aw_fgetA X hM 0 (t := 0) (b := 0) (n := 80) rfl f_X5_7 dX5_moves_115 ?_
    refine aw_bipush X (14) dX5_moves_118 rfl ?_
    refine aw_iload_n X dX5_moves_120 rfl ?_
    refine aw_iadd X dX5_moves_121 ?_
    refine aw_top (nI (14 + tn (m (hz pn 2)))) (ixg hG _ _ rfl) ?_
    have hgb121 : tn (m (hz pn 2)) < 4 := isG_tn hG
    refine aw_dup2 X dX5_moves_122 rfl rfl ?_
    refine aw_fiald X hM 0 (b := 0) (n := 80) rfl (14 + tn (m (hz pn 2))) (vp_in_nI (by omega) (by decide)) (by rw [nI_clamp (by omega), Nat.zero_add]) dX5_moves_123 ?_
    refine aw_iload_n X dX5_moves_124 rfl ?_
    refine aw_iadd X dX5_moves_125 ?_
    refine aw_fiast X FM_a hM 0 (b := 0) (n := 80) rfl (14 + tn (m (hz pn 2))) (vp_in_nI (by omega) (by decide)) (by rw [nI_clamp (by omega), Nat.zero_add]) dX5_moves_126 (fun μ z_3 ez_3 hM => ?_)
    refine aw_aload_n X dX5_moves_127 rfl ?_
    refine aw_iload_n X dX5_moves_128 rfl ?_
    refine aw_iconst X (4) dX5_moves_129 rfl ?_
    refine aw_aload_n X dX5_moves_130 rfl ?_
    refine aw_iload_n X dX5_moves_131 rfl ?_
    refine aw_iconst X (4) dX5_moves_132 rfl ?_
    refine aw_cVFF (As := [.int _, .int _]) X hM (c_X5_hoseOf (kl K) U _ ma _ hM.1 _ _ pn 4 hp rfl (by omega) (by decide)) s_X5_63 k_X5_hoseOf (by decide) ⟨rfl, rfl⟩ ⟨Nat.zero_le _, Nat.zero_le _⟩ rfl (by exact Nat.le_of_ble_eq_true rfl) rfl dX5_moves_133 ?_
    refine aw_iload_n X dX5_moves_136 rfl ?_
    refine aw_iadd X dX5_moves_137 ?_
    refine aw_cVFK (As := [.int _, .int _, .int _]) X hM (c_X5_setHose (kl K) U _ ma _ hM.1 _ _ _ pn 4 hp rfl (by omega) (by decide)) s_X5_32 k_X5_setHose (by decide) ⟨rfl, rfl⟩ ⟨Nat.zero_le _, Nat.zero_le _⟩ rfl (by exact Nat.le_of_ble_eq_true rfl) rfl dX5_moves_138 (fun μ z_4 ez_4 hM => ?_)
    refine aw_aload_n X dX5_moves_141 rfl ?_
    refine aw_iload_n X dX5_moves_142 rfl ?_
    refine aw_iconst X (1) dX5_moves_143 rfl ?_
    refine aw_iload_n X dX5_moves_144 rfl ?_
    refine aw_if_le (tgt := 152) X dX5_moves_145 (by decide) (fun c145_5 => ?_) (fun c145_5 => ?_)
    · skip
      refine aw_aload_n X dX5_moves_152 rfl ?_
      refine aw_iload_n X dX5_moves_153 rfl ?_
      refine aw_iconst X (1) dX5_moves_154 rfl ?_
      refine aw_cVFF (As := [.int _, .int _]) X hM (c_X5_hoseOf (kl K) U _ ma _ hM.1 _ _ pn 1 hp rfl (by omega) (by decide)) s_X5_63 k_X5_hoseOf (by decide) ⟨rfl, rfl⟩ ⟨Nat.zero_le _, Nat.zero_le _⟩ rfl (by exact Nat.le_of_ble_eq_true rfl) rfl dX5_moves_155 ?_
      refine aw_cVFK (As := [.int _, .int _, .int _]) X hM (c_X5_setHose (kl K) U _ ma _ hM.1 _ _ _ pn 1 hp rfl (by omega) (by decide)) s_X5_32 k_X5_setHose (by decide) ⟨rfl, rfl⟩ ⟨Nat.zero_le _, Nat.zero_le _⟩ rfl (by exact Nat.le_of_ble_eq_true rfl) rfl dX5_moves_158 (fun μ z_6 ez_6 hM => ?_)
      refine aw_iload X dX5_moves_161 rfl ?_
      refine aw_if_eq_t (tgt := 170) X dX5_moves_163 (by decide) (by decide) ?_
      refine aw_iload_n X dX5_moves_170 rfl ?_
      refine aw_iret X hQ dX5_moves_171 ⟨congrArg (fun q => some (Value.int q)) (by rw [← mMove_eq hpn hG hiv]; simp [mMove, c45_1, Int32.not_le.mpr c45_1, c145_5, Int32.not_lt.mpr c145_5]), hM.to ?_⟩
      rw [← mMove_eq hpn hG hiv]
      subst ez_2 ez_3 ez_4 ez_6; simp [mMove, c45_1, Int32.not_le.mpr c45_1, c145_5, Int32.not_lt.mpr c145_5]
    · skip
      refine aw_iload_n X dX5_moves_148 rfl ?_
      refine aw_goto (tgt := 158) X dX5_moves_149 (by decide) ?_
      refine aw_cVFK (As := [.int _, .int _, .int _]) X hM (c_X5_setHose (kl K) U _ ma _ hM.1 _ _ _ pn 1 hp rfl (by omega) (by decide)) s_X5_32 k_X5_setHose (by decide) ⟨rfl, rfl⟩ ⟨Nat.zero_le _, Nat.zero_le _⟩ rfl (by exact Nat.le_of_ble_eq_true rfl) rfl dX5_moves_158 (fun μ z_6 ez_6 hM => ?_)
      refine aw_iload X dX5_moves_161 rfl ?_
      refine aw_if_eq_t (tgt := 170) X dX5_moves_163 (by decide) (by decide) ?_
      refine aw_iload_n X dX5_moves_170 rfl ?_
      refine aw_iret X hQ dX5_moves_171 ⟨congrArg (fun q => some (Value.int q)) (by rw [← mMove_eq hpn hG hiv]; simp [mMove, c45_1, Int32.not_le.mpr c45_1, c145_5, Int32.not_le.mp c145_5]), hM.to ?_⟩
      rw [← mMove_eq hpn hG hiv]
      subst ez_2 ez_3 ez_4 ez_6; simp [mMove, c45_1, Int32.not_le.mpr c45_1, c145_5, Int32.not_le.mp c145_5]
  · skip
    refine aw_aload_n X dX5_moves_48 rfl ?_
    refine aw_iload_n X dX5_moves_49 rfl ?_
    refine aw_iconst X (1) dX5_moves_50 rfl ?_
    refine aw_cVFF (As := [.int _, .int _]) X hM (c_X5_hoseOf (kl K) U _ ma _ hM.1 _ _ pn 1 hp rfl (by omega) (by decide)) s_X5_63 k_X5_hoseOf (by decide) ⟨rfl, rfl⟩ ⟨Nat.zero_le _, Nat.zero_le _⟩ rfl (by exact Nat.le_of_ble_eq_true rfl) rfl dX5_moves_51 ?_
    refine aw_iload_n X dX5_moves_54 rfl ?_
    refine aw_icmp_eq (tgt := 62) X dX5_moves_55 (by decide) (fun c55_2 => ?_) (fun c55_2 => ?_)
    · skip
      refine aw_iconst X (0) dX5_moves_62 rfl ?_
      refine aw_istore X dX5_moves_63 rfl (by decide) ?_
      refine aw_aload_n X dX5_moves_65 rfl ?_
      refine aw_iconst X (0) dX5_moves_66 rfl ?_
      refine aw_iload_n X dX5_moves_67 rfl ?_
      refine aw_aload_n X dX5_moves_68 rfl ?_
      refine aw_iconst X (0) dX5_moves_69 rfl ?_
      refine aw_iload_n X dX5_moves_70 rfl ?_
      refine aw_cVFF (As := [.int _, .int _]) X hM (c_X5_ofTanker (kl K) U _ ma _ hM.1 _ _ 0 (tn (m (hz pn 2))) rfl (isG_hv hG) (by decide) (Nat.lt_trans (isG_tn hG) (by decide))) s_X5_45 k_X5_ofTanker (by decide) ⟨rfl, rfl⟩ ⟨Nat.zero_le _, Nat.zero_le _⟩ rfl (by exact Nat.le_of_ble_eq_true rfl) rfl dX5_moves_71 ?_
      refine aw_iload_n X dX5_moves_74 rfl ?_
      refine aw_isub X dX5_moves_75 ?_
      refine aw_cVFK (As := [.int _, .int _, .int _]) X hM (c_X5_setTanker (kl K) U _ ma _ hM.1 _ _ _ 0 (tn (m (hz pn 2))) rfl (isG_hv hG) (by decide) (Nat.lt_trans (isG_tn hG) (by decide))) s_X5_73 k_X5_setTanker (by decide) ⟨rfl, rfl⟩ ⟨Nat.zero_le _, Nat.zero_le _⟩ rfl (by exact Nat.le_of_ble_eq_true rfl) rfl dX5_moves_76 (fun μ z_3 ez_3 hM => ?_)
      refine aw_iload X dX5_moves_79 rfl ?_
      refine aw_if_eq_t (tgt := 114) X dX5_moves_81 (by decide) (by decide) ?_
      refine aw_aload_n X dX5_moves_114 rfl ?_
      refine aw_fgetA X hM 0 (t := 0) (b := 0) (n := 80) rfl f_X5_7 dX5_moves_115 ?_
      refine aw_bipush X (14) dX5_moves_118 rfl ?_
      refine aw_iload_n X dX5_moves_120 rfl ?_
      refine aw_iadd X dX5_moves_121 ?_
      refine aw_top (nI (14 + tn (m (hz pn 2)))) (ixg hG _ _ rfl) ?_
      have hgb121 : tn (m (hz pn 2)) < 4 := isG_tn hG
      refine aw_dup2 X dX5_moves_122 rfl rfl ?_
      refine aw_fiald X hM 0 (b := 0) (n := 80) rfl (14 + tn (m (hz pn 2))) (vp_in_nI (by omega) (by decide)) (by rw [nI_clamp (by omega), Nat.zero_add]) dX5_moves_123 ?_
      refine aw_iload_n X dX5_moves_124 rfl ?_
      refine aw_iadd X dX5_moves_125 ?_
      refine aw_fiast X FM_a hM 0 (b := 0) (n := 80) rfl (14 + tn (m (hz pn 2))) (vp_in_nI (by omega) (by decide)) (by rw [nI_clamp (by omega), Nat.zero_add]) dX5_moves_126 (fun μ z_4 ez_4 hM => ?_)
      refine aw_aload_n X dX5_moves_127 rfl ?_
      refine aw_iload_n X dX5_moves_128 rfl ?_
      refine aw_iconst X (4) dX5_moves_129 rfl ?_
      refine aw_aload_n X dX5_moves_130 rfl ?_
      refine aw_iload_n X dX5_moves_131 rfl ?_
      refine aw_iconst X (4) dX5_moves_132 rfl ?_
      refine aw_cVFF (As := [.int _, .int _]) X hM (c_X5_hoseOf (kl K) U _ ma _ hM.1 _ _ pn 4 hp rfl (by omega) (by decide)) s_X5_63 k_X5_hoseOf (by decide) ⟨rfl, rfl⟩ ⟨Nat.zero_le _, Nat.zero_le _⟩ rfl (by exact Nat.le_of_ble_eq_true rfl) rfl dX5_moves_133 ?_
      refine aw_iload_n X dX5_moves_136 rfl ?_
      refine aw_iadd X dX5_moves_137 ?_
      refine aw_cVFK (As := [.int _, .int _, .int _]) X hM (c_X5_setHose (kl K) U _ ma _ hM.1 _ _ _ pn 4 hp rfl (by omega) (by decide)) s_X5_32 k_X5_setHose (by decide) ⟨rfl, rfl⟩ ⟨Nat.zero_le _, Nat.zero_le _⟩ rfl (by exact Nat.le_of_ble_eq_true rfl) rfl dX5_moves_138 (fun μ z_5 ez_5 hM => ?_)
      refine aw_aload_n X dX5_moves_141 rfl ?_
      refine aw_iload_n X dX5_moves_142 rfl ?_
      refine aw_iconst X (1) dX5_moves_143 rfl ?_
      refine aw_iload_n X dX5_moves_144 rfl ?_
      refine aw_if_le (tgt := 152) X dX5_moves_145 (by decide) (fun c145_6 => ?_) (fun c145_6 => ?_)
      · skip
        refine aw_aload_n X dX5_moves_152 rfl ?_
        refine aw_iload_n X dX5_moves_153 rfl ?_
        refine aw_iconst X (1) dX5_moves_154 rfl ?_
        refine aw_cVFF (As := [.int _, .int _]) X hM (c_X5_hoseOf (kl K) U _ ma _ hM.1 _ _ pn 1 hp rfl (by omega) (by decide)) s_X5_63 k_X5_hoseOf (by decide) ⟨rfl, rfl⟩ ⟨Nat.zero_le _, Nat.zero_le _⟩ rfl (by exact Nat.le_of_ble_eq_true rfl) rfl dX5_moves_155 ?_
        refine aw_cVFK (As := [.int _, .int _, .int _]) X hM (c_X5_setHose (kl K) U _ ma _ hM.1 _ _ _ pn 1 hp rfl (by omega) (by decide)) s_X5_32 k_X5_setHose (by decide) ⟨rfl, rfl⟩ ⟨Nat.zero_le _, Nat.zero_le _⟩ rfl (by exact Nat.le_of_ble_eq_true rfl) rfl dX5_moves_158 (fun μ z_7 ez_7 hM => ?_)
        refine aw_iload X dX5_moves_161 rfl ?_
        refine aw_if_eq_t (tgt := 170) X dX5_moves_163 (by decide) (by decide) ?_
        refine aw_iload_n X dX5_moves_170 rfl ?_
        refine aw_iret X hQ dX5_moves_171 ⟨congrArg (fun q => some (Value.int q)) (by rw [← mMove_eq hpn hG hiv]; simp [mMove, c45_1, Int32.not_lt.mp c45_1, c55_2, c145_6, Int32.not_lt.mpr c145_6]), hM.to ?_⟩
        rw [← mMove_eq hpn hG hiv]
        subst ez_3 ez_4 ez_5 ez_7; simp [mMove, c45_1, Int32.not_lt.mp c45_1, c55_2, c145_6, Int32.not_lt.mpr c145_6]
      · skip
        refine aw_iload_n X dX5_moves_148 rfl ?_
        refine aw_goto (tgt := 158) X dX5_moves_149 (by decide) ?_
        refine aw_cVFK (As := [.int _, .int _, .int _]) X hM (c_X5_setHose (kl K) U _ ma _ hM.1 _ _ _ pn 1 hp rfl (by omega) (by decide)) s_X5_32 k_X5_setHose (by decide) ⟨rfl, rfl⟩ ⟨Nat.zero_le _, Nat.zero_le _⟩ rfl (by exact Nat.le_of_ble_eq_true rfl) rfl dX5_moves_158 (fun μ z_7 ez_7 hM => ?_)
        refine aw_iload X dX5_moves_161 rfl ?_
        refine aw_if_eq_t (tgt := 170) X dX5_moves_163 (by decide) (by decide) ?_
        refine aw_iload_n X dX5_moves_170 rfl ?_
        refine aw_iret X hQ dX5_moves_171 ⟨congrArg (fun q => some (Value.int q)) (by rw [← mMove_eq hpn hG hiv]; simp [mMove, c45_1, Int32.not_lt.mp c45_1, c55_2, c145_6, Int32.not_le.mp c145_6]), hM.to ?_⟩
        rw [← mMove_eq hpn hG hiv]
        subst ez_3 ez_4 ez_5 ez_7; simp [mMove, c45_1, Int32.not_lt.mp c45_1, c55_2, c145_6, Int32.not_le.mp c145_6]
    · skip
      refine aw_iconst X (1) dX5_moves_58 rfl ?_
      refine aw_goto (tgt := 63) X dX5_moves_59 (by decide) ?_
      refine aw_istore X dX5_moves_63 rfl (by decide) ?_
      refine aw_aload_n X dX5_moves_65 rfl ?_
      refine aw_iconst X (0) dX5_moves_66 rfl ?_
      refine aw_iload_n X dX5_moves_67 rfl ?_
      refine aw_aload_n X dX5_moves_68 rfl ?_
      refine aw_iconst X (0) dX5_moves_69 rfl ?_
      refine aw_iload_n X dX5_moves_70 rfl ?_
      refine aw_cVFF (As := [.int _, .int _]) X hM (c_X5_ofTanker (kl K) U _ ma _ hM.1 _ _ 0 (tn (m (hz pn 2))) rfl (isG_hv hG) (by decide) (Nat.lt_trans (isG_tn hG) (by decide))) s_X5_45 k_X5_ofTanker (by decide) ⟨rfl, rfl⟩ ⟨Nat.zero_le _, Nat.zero_le _⟩ rfl (by exact Nat.le_of_ble_eq_true rfl) rfl dX5_moves_71 ?_
      refine aw_iload_n X dX5_moves_74 rfl ?_
      refine aw_isub X dX5_moves_75 ?_
      refine aw_cVFK (As := [.int _, .int _, .int _]) X hM (c_X5_setTanker (kl K) U _ ma _ hM.1 _ _ _ 0 (tn (m (hz pn 2))) rfl (isG_hv hG) (by decide) (Nat.lt_trans (isG_tn hG) (by decide))) s_X5_73 k_X5_setTanker (by decide) ⟨rfl, rfl⟩ ⟨Nat.zero_le _, Nat.zero_le _⟩ rfl (by exact Nat.le_of_ble_eq_true rfl) rfl dX5_moves_76 (fun μ z_3 ez_3 hM => ?_)
      refine aw_iload X dX5_moves_79 rfl ?_
      refine aw_if_eq_f (tgt := 114) X dX5_moves_81 (by decide) (by decide) ?_
      refine aw_aload_n X dX5_moves_84 rfl ?_
      refine aw_fgetA X hM 0 (t := 0) (b := 0) (n := 80) rfl f_X5_7 dX5_moves_85 ?_
      refine aw_bipush X (18) dX5_moves_88 rfl ?_
      refine aw_iload_n X dX5_moves_90 rfl ?_
      refine aw_iadd X dX5_moves_91 ?_
      refine aw_top (nI (18 + tn (m (hz pn 2)))) (ixg hG _ _ rfl) ?_
      have hgb91 : tn (m (hz pn 2)) < 4 := isG_tn hG
      refine aw_dup2 X dX5_moves_92 rfl rfl ?_
      refine aw_fiald X hM 0 (b := 0) (n := 80) rfl (18 + tn (m (hz pn 2))) (vp_in_nI (by omega) (by decide)) (by rw [nI_clamp (by omega), Nat.zero_add]) dX5_moves_93 ?_
      refine aw_iload_n X dX5_moves_94 rfl ?_
      refine aw_iadd X dX5_moves_95 ?_
      refine aw_fiast X FM_a hM 0 (b := 0) (n := 80) rfl (18 + tn (m (hz pn 2))) (vp_in_nI (by omega) (by decide)) (by rw [nI_clamp (by omega), Nat.zero_add]) dX5_moves_96 (fun μ z_4 ez_4 hM => ?_)
      refine aw_aload_n X dX5_moves_97 rfl ?_
      refine aw_iload_n X dX5_moves_98 rfl ?_
      refine aw_iconst X (5) dX5_moves_99 rfl ?_
      refine aw_aload_n X dX5_moves_100 rfl ?_
      refine aw_iload_n X dX5_moves_101 rfl ?_
      refine aw_iconst X (5) dX5_moves_102 rfl ?_
      refine aw_cVFF (As := [.int _, .int _]) X hM (c_X5_hoseOf (kl K) U _ ma _ hM.1 _ _ pn 5 hp rfl (by omega) (by decide)) s_X5_63 k_X5_hoseOf (by decide) ⟨rfl, rfl⟩ ⟨Nat.zero_le _, Nat.zero_le _⟩ rfl (by exact Nat.le_of_ble_eq_true rfl) rfl dX5_moves_103 ?_
      refine aw_iload_n X dX5_moves_106 rfl ?_
      refine aw_iadd X dX5_moves_107 ?_
      refine aw_cVFK (As := [.int _, .int _, .int _]) X hM (c_X5_setHose (kl K) U _ ma _ hM.1 _ _ _ pn 5 hp rfl (by omega) (by decide)) s_X5_32 k_X5_setHose (by decide) ⟨rfl, rfl⟩ ⟨Nat.zero_le _, Nat.zero_le _⟩ rfl (by exact Nat.le_of_ble_eq_true rfl) rfl dX5_moves_108 (fun μ z_5 ez_5 hM => ?_)
      refine aw_goto (tgt := 141) X dX5_moves_111 (by decide) ?_
      refine aw_aload_n X dX5_moves_141 rfl ?_
      refine aw_iload_n X dX5_moves_142 rfl ?_
      refine aw_iconst X (1) dX5_moves_143 rfl ?_
      refine aw_iload_n X dX5_moves_144 rfl ?_
      refine aw_if_le (tgt := 152) X dX5_moves_145 (by decide) (fun c145_6 => ?_) (fun c145_6 => ?_)
      · skip
        refine aw_aload_n X dX5_moves_152 rfl ?_
        refine aw_iload_n X dX5_moves_153 rfl ?_
        refine aw_iconst X (1) dX5_moves_154 rfl ?_
        refine aw_cVFF (As := [.int _, .int _]) X hM (c_X5_hoseOf (kl K) U _ ma _ hM.1 _ _ pn 1 hp rfl (by omega) (by decide)) s_X5_63 k_X5_hoseOf (by decide) ⟨rfl, rfl⟩ ⟨Nat.zero_le _, Nat.zero_le _⟩ rfl (by exact Nat.le_of_ble_eq_true rfl) rfl dX5_moves_155 ?_
        refine aw_cVFK (As := [.int _, .int _, .int _]) X hM (c_X5_setHose (kl K) U _ ma _ hM.1 _ _ _ pn 1 hp rfl (by omega) (by decide)) s_X5_32 k_X5_setHose (by decide) ⟨rfl, rfl⟩ ⟨Nat.zero_le _, Nat.zero_le _⟩ rfl (by exact Nat.le_of_ble_eq_true rfl) rfl dX5_moves_158 (fun μ z_7 ez_7 hM => ?_)
        refine aw_iload X dX5_moves_161 rfl ?_
        refine aw_if_eq_f (tgt := 170) X dX5_moves_163 (by decide) (by decide) ?_
        refine aw_iconst X (0) dX5_moves_166 rfl ?_
        refine aw_goto (tgt := 171) X dX5_moves_167 (by decide) ?_
        refine aw_iret X hQ dX5_moves_171 ⟨congrArg (fun q => some (Value.int q)) (by rw [← mMove_eq hpn hG hiv]; simp [mMove, c45_1, Int32.not_lt.mp c45_1, c55_2, c145_6, Int32.not_lt.mpr c145_6]), hM.to ?_⟩
        rw [← mMove_eq hpn hG hiv]
        subst ez_3 ez_4 ez_5 ez_7; simp [mMove, c45_1, Int32.not_lt.mp c45_1, c55_2, c145_6, Int32.not_lt.mpr c145_6]
      · skip
        refine aw_iload_n X dX5_moves_148 rfl ?_
        refine aw_goto (tgt := 158) X dX5_moves_149 (by decide) ?_
        refine aw_cVFK (As := [.int _, .int _, .int _]) X hM (c_X5_setHose (kl K) U _ ma _ hM.1 _ _ _ pn 1 hp rfl (by omega) (by decide)) s_X5_32 k_X5_setHose (by decide) ⟨rfl, rfl⟩ ⟨Nat.zero_le _, Nat.zero_le _⟩ rfl (by exact Nat.le_of_ble_eq_true rfl) rfl dX5_moves_158 (fun μ z_7 ez_7 hM => ?_)
        refine aw_iload X dX5_moves_161 rfl ?_
        refine aw_if_eq_f (tgt := 170) X dX5_moves_163 (by decide) (by decide) ?_
        refine aw_iconst X (0) dX5_moves_166 rfl ?_
        refine aw_goto (tgt := 171) X dX5_moves_167 (by decide) ?_
        refine aw_iret X hQ dX5_moves_171 ⟨congrArg (fun q => some (Value.int q)) (by rw [← mMove_eq hpn hG hiv]; simp [mMove, c45_1, Int32.not_lt.mp c45_1, c55_2, c145_6, Int32.not_le.mp c145_6]), hM.to ?_⟩
        rw [← mMove_eq hpn hG hiv]
        subst ez_3 ez_4 ez_5 ez_7; simp [mMove, c45_1, Int32.not_lt.mp c45_1, c55_2, c145_6, Int32.not_le.mp c145_6]
