/-! the model's reading of units and hoses -/
theorem mNr_tM {m : xV} {n a j : Nat} {most : Int32} (hn : n ≤ 60) : tM (mNr m n a most) n j = tM m n j := by
  unfold mNr
  rw [tM_up hn (by omega), tM_up hn (by omega), tM_up hn (by omega)]
theorem inB_g {x : Int32} {j : Nat} (hj : j ≤ 4) (h : inB x (nI (97 + j)) 100 = true) : ∃ g, j ≤ g ∧ g < 4 ∧ x - 97 = nI g := by
  unfold inB at h
  simp only [Bool.and_eq_true, decide_eq_true_eq] at h
  obtain ⟨k, k1, k2, e⟩ := rgN (lo := 97) (hi := 100) (by decide) (by decide) ⟨Int32.le_trans (nI_le (a := 97) (b := 97 + j) (by omega) (by omega)) h.1, h.2⟩
  rw [e] at h
  have := (nI_leI (by omega) (by omega)).mp h.1
  exact ⟨k - 97, by omega, by omega, by rw [e, show (97 : Int32) = nI 97 from rfl, pk_sub k1]⟩
def mUn (n : Nat) : Nat → Int32 → Nat → xV → Nat × xV
  | 0, _, a, z => (a, z)
  | d + 1, f, a, z =>
    if (decide (z 943 = 0) && inB (tM z n a) f 100) = true then
      let z1 := upd z 942 (nI (a + 1))
      let z2 := mNr z1 n (a + 1) 400
      mUn n d (97 + (tM z n a - 97) + 1) (mNq z1 n (a + 1) 400).2 (upd z2 (930 + tn (tM z n a - 97)) (z2 945))
    else (a, z)
def mUni (m : xV) (n a : Nat) : Nat × xV :=
  let z0 := upd (upd (upd (upd m 930 0) 931 0) 932 0) 933 0
  mUn n 4 97 a (upd z0 943 (if (decide (z0 943 = 0) && inB (tM m n a) 97 100) = true then 0 else 1))
theorem e97 (g : Nat) : (97 : Int32) + nI g + 1 = nI (97 + (g + 1)) := by
  rw [show (97 : Int32) = nI 97 from rfl, nI_add, nI_1]; rfl
set_option maxHeartbeats 400000 in
set_option maxRecDepth 100000 in
theorem c_X5_readUnits (l : Launch) (U : xU) (μ0 : xH) (ma : Nat → Nat) (m : xV) (hM0 : FRep U μ0 ma 5 FM m) (n a : Nat) (hp : patM m n a) : CtFK l U yX5_readUnits cX5_readUnits 3 none ({ frames := 3, cells := 0, slots := 0, locals := 65 } : Room) [.ref (ma 0)] μ0 ma 5 FM (mUni m n a).2 := by
  refine Ct.of [some (.ref (ma 0)), none, none] (by decide +kernel) rfl (Nat.le_of_ble_eq_true rfl) (fun K Q X hnm hQ => ?_)
  obtain ⟨μ, hμ, hM⟩ : ∃ μ : xH, μ0 = μ ∧ FR U μ0 μ ma 5 FM m := ⟨μ0, rfl, FR.rf hM0⟩
  refine aw_mu hμ ?_
  have htm : ∀ j, tM m n j = tM m n j := fun _ => rfl
  refine aw_iconst X (0) dX5_readUnits_0 rfl ?_
  refine aw_istore_n X dX5_readUnits_1 rfl (by decide) ?_
  refine aw_iload_n X dX5_readUnits_2 rfl ?_
  refine aw_iconst X (4) dX5_readUnits_3 rfl ?_
  refine aw_icmp_ge_f (tgt := 20) X dX5_readUnits_4 (by decide) (by decide) ?_
  refine aw_aload_n X dX5_readUnits_7 rfl ?_
  refine aw_fgetA X hM 14 (t := 0) (b := 930) (n := 4) rfl f_X5_29 dX5_readUnits_8 ?_
  refine aw_iload_n X dX5_readUnits_11 rfl ?_
  refine aw_iconst X (0) dX5_readUnits_12 rfl ?_
  refine aw_fiast X FM_a hM 14 (b := 930) (n := 4) rfl 930 (xin_d rfl) (by decide) dX5_readUnits_13 (fun μ z_1 ez_1 hM => ?_)
  have hpz_1 : patM z_1 n (a) := by rw [ez_1]; exact patM_up (hp) (by omega) (by omega)
  have htz_1 : ∀ j, tM z_1 n j = tM m n j := fun j => (show tM z_1 n j = tM m n j by rw [ez_1]; exact tM_up (hp).2.2.1 (by omega)).trans (htm j)
  refine aw_iinc X (1) dX5_readUnits_14 rfl rfl rfl (by decide) ?_
  refine aw_goto (tgt := 2) X dX5_readUnits_17 (by decide) ?_
  refine aw_iload_n X dX5_readUnits_2 rfl ?_
  refine aw_iconst X (4) dX5_readUnits_3 rfl ?_
  refine aw_icmp_ge_f (tgt := 20) X dX5_readUnits_4 (by decide) (by decide) ?_
  refine aw_aload_n X dX5_readUnits_7 rfl ?_
  refine aw_fgetA X hM 14 (t := 0) (b := 930) (n := 4) rfl f_X5_29 dX5_readUnits_8 ?_
  refine aw_iload_n X dX5_readUnits_11 rfl ?_
  refine aw_iconst X (0) dX5_readUnits_12 rfl ?_
  refine aw_fiast X FM_a hM 14 (b := 930) (n := 4) rfl 931 (xin_d rfl) (by decide) dX5_readUnits_13 (fun μ z_2 ez_2 hM => ?_)
  have hpz_2 : patM z_2 n (a) := by rw [ez_2]; exact patM_up (hpz_1) (by omega) (by omega)
  have htz_2 : ∀ j, tM z_2 n j = tM m n j := fun j => (show tM z_2 n j = tM z_1 n j by rw [ez_2]; exact tM_up (hpz_1).2.2.1 (by omega)).trans (htz_1 j)
  refine aw_iinc X (1) dX5_readUnits_14 rfl rfl rfl (by decide) ?_
  refine aw_goto (tgt := 2) X dX5_readUnits_17 (by decide) ?_
  refine aw_iload_n X dX5_readUnits_2 rfl ?_
  refine aw_iconst X (4) dX5_readUnits_3 rfl ?_
  refine aw_icmp_ge_f (tgt := 20) X dX5_readUnits_4 (by decide) (by decide) ?_
  refine aw_aload_n X dX5_readUnits_7 rfl ?_
  refine aw_fgetA X hM 14 (t := 0) (b := 930) (n := 4) rfl f_X5_29 dX5_readUnits_8 ?_
  refine aw_iload_n X dX5_readUnits_11 rfl ?_
  refine aw_iconst X (0) dX5_readUnits_12 rfl ?_
  refine aw_fiast X FM_a hM 14 (b := 930) (n := 4) rfl 932 (xin_d rfl) (by decide) dX5_readUnits_13 (fun μ z_3 ez_3 hM => ?_)
  have hpz_3 : patM z_3 n (a) := by rw [ez_3]; exact patM_up (hpz_2) (by omega) (by omega)
  have htz_3 : ∀ j, tM z_3 n j = tM m n j := fun j => (show tM z_3 n j = tM z_2 n j by rw [ez_3]; exact tM_up (hpz_2).2.2.1 (by omega)).trans (htz_2 j)
  refine aw_iinc X (1) dX5_readUnits_14 rfl rfl rfl (by decide) ?_
  refine aw_goto (tgt := 2) X dX5_readUnits_17 (by decide) ?_
  refine aw_iload_n X dX5_readUnits_2 rfl ?_
  refine aw_iconst X (4) dX5_readUnits_3 rfl ?_
  refine aw_icmp_ge_f (tgt := 20) X dX5_readUnits_4 (by decide) (by decide) ?_
  refine aw_aload_n X dX5_readUnits_7 rfl ?_
  refine aw_fgetA X hM 14 (t := 0) (b := 930) (n := 4) rfl f_X5_29 dX5_readUnits_8 ?_
  refine aw_iload_n X dX5_readUnits_11 rfl ?_
  refine aw_iconst X (0) dX5_readUnits_12 rfl ?_
  refine aw_fiast X FM_a hM 14 (b := 930) (n := 4) rfl 933 (xin_d rfl) (by decide) dX5_readUnits_13 (fun μ z_4 ez_4 hM => ?_)
  have hpz_4 : patM z_4 n (a) := by rw [ez_4]; exact patM_up (hpz_3) (by omega) (by omega)
  have htz_4 : ∀ j, tM z_4 n j = tM m n j := fun j => (show tM z_4 n j = tM z_3 n j by rw [ez_4]; exact tM_up (hpz_3).2.2.1 (by omega)).trans (htz_3 j)
  refine aw_iinc X (1) dX5_readUnits_14 rfl rfl rfl (by decide) ?_
  refine aw_goto (tgt := 2) X dX5_readUnits_17 (by decide) ?_
  refine aw_iload_n X dX5_readUnits_2 rfl ?_
  refine aw_iconst X (4) dX5_readUnits_3 rfl ?_
  refine aw_icmp_ge_t (tgt := 20) X dX5_readUnits_4 (by decide) (by decide) ?_
  refine aw_bipush X (97) dX5_readUnits_20 rfl ?_
  refine aw_istore_n X dX5_readUnits_22 rfl (by decide) ?_
  refine aw_aload_n X dX5_readUnits_23 rfl ?_
  refine aw_aload_n X dX5_readUnits_24 rfl ?_
  refine aw_iload_n X dX5_readUnits_25 rfl ?_
  refine aw_bipush X (100) dX5_readUnits_26 rfl ?_
  refine aw_cVFF (As := [.int _, .int _]) X hM (c_X5_isNext (kl K) U _ ma _ hM.1 _ _ n (a) hpz_4) s_X5_173 k_X5_isNext (by decide) ⟨rfl, rfl⟩ ⟨Nat.zero_le _, Nat.zero_le _⟩ rfl (by exact Nat.le_of_ble_eq_true rfl) rfl dX5_readUnits_28 ?_
  refine aw_top (bI (decide ((z_4 943) = 0) && inB (tM m n (a)) (97 : Int32) (100 : Int32))) (by rw [htz_4 _]) ?_
  refine aw_b_ne (tgt := 38) X dX5_readUnits_31 (by decide) (fun c31_5 => ?_) (fun c31_5 => ?_)
  · skip
    refine aw_iconst X (0) dX5_readUnits_38 rfl ?_
    refine aw_fputZ X FM_a hM 9 (b := 943) (n := 0) rfl ((by decide)) f_X5_163 rfl (by decide +kernel) dX5_readUnits_39 (fun μ z_6 ez_6 hM => ?_)
    have hpz_6 : patM z_6 n (a) := by rw [ez_6]; exact patM_up (hpz_4) (by omega) (by omega)
    have htz_6 : ∀ j, tM z_6 n j = tM m n j := fun j => (show tM z_6 n j = tM z_4 n j by rw [ez_6]; exact tM_up (hpz_4).2.2.1 (by omega)).trans (htz_4 j)
    have loop : ∀ (d : Nat) (j b : Nat) (μ : xH) (zc : xV), 4 ≤ j + d → j ≤ 4 → patM zc n b → (mUn n d (nI (97 + j)) b zc).2 = (mUni m n a).2 → (∀ i, tM zc n i = tM m n i) → FR U μ0 μ ma 5 FM zc →AW U K 3 0 0 Q μ 42 [some (.ref (ma 0)), some (.int (nI (97 + j))), none] [] := by
      intro d
      induction d with
      | zero =>
        intro j b μ zc hj1 hj2 hpc hR htc hM
        have hb60 := hpc.2.2
        refine aw_aload_n X dX5_readUnits_42 rfl ?_
        refine aw_iload_n X dX5_readUnits_43 rfl ?_
        refine aw_bipush X (100) dX5_readUnits_44 rfl ?_
        refine aw_cVFF (As := [.int _, .int _]) X hM (c_X5_isNext (kl K) U _ ma _ hM.1 _ _ n (b) hpc) s_X5_173 k_X5_isNext (by decide) ⟨rfl, rfl⟩ ⟨Nat.zero_le _, Nat.zero_le _⟩ rfl (by exact Nat.le_of_ble_eq_true rfl) rfl dX5_readUnits_46 ?_
        refine aw_top (bI (decide ((zc 943) = 0) && inB (tM m n (b)) (nI (97 + j)) (100 : Int32))) (by rw [htc _]) ?_
        refine aw_b_eq (tgt := 97) X dX5_readUnits_49 (by decide) (fun c49_7 => ?_) (fun c49_7 => ?_)
        · skip
          exact aw_vret X hQ dX5_readUnits_97 ⟨rfl, hM.to (by rw [← hR]; rfl)⟩
        · skip
          obtain ⟨g, hg1, hg2, eg⟩ := inB_g hj2 (show inB (tM m n b) (nI (97 + j)) 100 = true by have q := c49_7; simp only [Bool.and_eq_true] at q; exact q.2)
          have hlt : b < n := tM_lt (m := m) (fun e => by rw [e] at eg; exact absurd eg (by rcases (show g = 0 ∨ g = 1 ∨ g = 2 ∨ g = 3 by omega) with rfl | rfl | rfl | rfl <;> decide))
          refine aw_aload_n X dX5_readUnits_52 rfl ?_
          refine aw_cVFF (As := []) X hM (c_X5_sign (kl K) U _ ma _ hM.1 n (b) hpc) s_X5_167 k_X5_sign (by decide) ⟨rfl, rfl⟩ ⟨Nat.zero_le _, Nat.zero_le _⟩ rfl (by exact Nat.le_of_ble_eq_true rfl) rfl dX5_readUnits_53 ?_
          refine aw_top ((tM m n (b))) (htc _) ?_
          refine aw_bipush X (97) dX5_readUnits_56 rfl ?_
          refine aw_isub X dX5_readUnits_58 ?_
          refine aw_top (nI g) eg ?_
          refine aw_istore_n X dX5_readUnits_59 rfl (by decide) ?_
          refine aw_aload_n X dX5_readUnits_60 rfl ?_
          refine aw_dup X dX5_readUnits_61 rfl ?_
          refine aw_fgetI X hM 8 (t := 0) (b := 942) (n := 0) rfl f_X5_160 dX5_readUnits_62 ?_
          refine aw_iconst X (1) dX5_readUnits_65 rfl ?_
          refine aw_iadd X dX5_readUnits_66 ?_
          refine aw_top (nI (b + 1)) (by rw [(hpc).2.1]; exact nI_1 _) ?_
          refine aw_fput X FM_a hM 8 (b := 942) (n := 0) rfl f_X5_160 rfl (by decide +kernel) dX5_readUnits_67 (fun μ z_8 ez_8 hM => ?_)
          have hpz_8 : patM z_8 n (b + 1) := by rw [ez_8]; exact patM_at (hpc) (by omega)
          have htz_8 : ∀ j, tM z_8 n j = tM m n j := fun j => (show tM z_8 n j = tM zc n j by rw [ez_8]; exact tM_up (hpc).2.2.1 (by omega)).trans (htc j)
          refine aw_aload_n X dX5_readUnits_70 rfl ?_
          refine aw_sipush X (400) dX5_readUnits_71 rfl ?_
          refine aw_cVFK (As := [.int _]) X hM (c_X5_readNumber (kl K) U _ ma _ hM.1 n (b + 1) hpz_8 (400 : Int32)) s_X5_176 k_X5_readNumber (by decide) ⟨rfl, rfl⟩ ⟨Nat.zero_le _, Nat.zero_le _⟩ rfl (by exact Nat.le_of_ble_eq_true rfl) rfl dX5_readUnits_74 (fun μ z_9 ez_9 hM => ?_)
          have hlez_9 := mNq_le (m := z_8) (most := (400 : Int32)) (hpz_8).2.2.2
          have hpz_9 : patM z_9 n (mNq z_8 n (b + 1) (400 : Int32)).2 := by rw [ez_9]; exact mNr_pat (hpz_8)
          have htz_9 : ∀ j, tM z_9 n j = tM m n j := fun j => (show tM z_9 n j = tM z_8 n j by rw [ez_9]; exact mNr_tM (hpz_8).2.2.1).trans (htz_8 j)
          refine aw_aload_n X dX5_readUnits_77 rfl ?_
          refine aw_fgetA X hM 14 (t := 0) (b := 930) (n := 4) rfl f_X5_29 dX5_readUnits_78 ?_
          refine aw_iload_n X dX5_readUnits_81 rfl ?_
          refine aw_aload_n X dX5_readUnits_82 rfl ?_
          refine aw_fgetI X hM 11 (t := 0) (b := 945) (n := 0) rfl f_X5_170 dX5_readUnits_83 ?_
          refine aw_fiast X FM_a hM 14 (b := 930) (n := 4) rfl (930 + g) (vp_in_nI (by omega) (by decide)) (by rw [nI_clamp (by omega)]) dX5_readUnits_86 (fun μ z_10 ez_10 hM => ?_)
          have hpz_10 : patM z_10 n ((mNq z_8 n (b + 1) (400 : Int32)).2) := by rw [ez_10]; exact patM_up (hpz_9) (by omega) (by omega)
          have htz_10 : ∀ j, tM z_10 n j = tM m n j := fun j => (show tM z_10 n j = tM z_9 n j by rw [ez_10]; exact tM_up (hpz_9).2.2.1 (by omega)).trans (htz_9 j)
          refine aw_bipush X (97) dX5_readUnits_87 rfl ?_
          refine aw_iload_n X dX5_readUnits_89 rfl ?_
          refine aw_iadd X dX5_readUnits_90 ?_
          refine aw_top (nI (97 + g)) (ixn _ rfl) ?_
          refine aw_iconst X (1) dX5_readUnits_91 rfl ?_
          refine aw_iadd X dX5_readUnits_92 ?_
          refine aw_top (nI (97 + (g + 1))) (nI_1 _) ?_
          refine aw_istore_n X dX5_readUnits_93 rfl (by decide) ?_
          refine aw_goto (tgt := 42) X dX5_readUnits_94 (by decide) ?_
          exact absurd hg2 (by omega)
      | succ d ih =>
        intro j b μ zc hj1 hj2 hpc hR htc hM
        have hb60 := hpc.2.2
        refine aw_aload_n X dX5_readUnits_42 rfl ?_
        refine aw_iload_n X dX5_readUnits_43 rfl ?_
        refine aw_bipush X (100) dX5_readUnits_44 rfl ?_
        refine aw_cVFF (As := [.int _, .int _]) X hM (c_X5_isNext (kl K) U _ ma _ hM.1 _ _ n (b) hpc) s_X5_173 k_X5_isNext (by decide) ⟨rfl, rfl⟩ ⟨Nat.zero_le _, Nat.zero_le _⟩ rfl (by exact Nat.le_of_ble_eq_true rfl) rfl dX5_readUnits_46 ?_
        refine aw_top (bI (decide ((zc 943) = 0) && inB (tM m n (b)) (nI (97 + j)) (100 : Int32))) (by rw [htc _]) ?_
        refine aw_b_eq (tgt := 97) X dX5_readUnits_49 (by decide) (fun c49_7 => ?_) (fun c49_7 => ?_)
        · skip
          exact aw_vret X hQ dX5_readUnits_97 ⟨rfl, hM.to (by rw [← hR, mUn, if_neg (by rw [htc, c49_7]; decide)])⟩
        · skip
          obtain ⟨g, hg1, hg2, eg⟩ := inB_g hj2 (show inB (tM m n b) (nI (97 + j)) 100 = true by have q := c49_7; simp only [Bool.and_eq_true] at q; exact q.2)
          have hlt : b < n := tM_lt (m := m) (fun e => by rw [e] at eg; exact absurd eg (by rcases (show g = 0 ∨ g = 1 ∨ g = 2 ∨ g = 3 by omega) with rfl | rfl | rfl | rfl <;> decide))
          refine aw_aload_n X dX5_readUnits_52 rfl ?_
          refine aw_cVFF (As := []) X hM (c_X5_sign (kl K) U _ ma _ hM.1 n (b) hpc) s_X5_167 k_X5_sign (by decide) ⟨rfl, rfl⟩ ⟨Nat.zero_le _, Nat.zero_le _⟩ rfl (by exact Nat.le_of_ble_eq_true rfl) rfl dX5_readUnits_53 ?_
          refine aw_top ((tM m n (b))) (htc _) ?_
          refine aw_bipush X (97) dX5_readUnits_56 rfl ?_
          refine aw_isub X dX5_readUnits_58 ?_
          refine aw_top (nI g) eg ?_
          refine aw_istore_n X dX5_readUnits_59 rfl (by decide) ?_
          refine aw_aload_n X dX5_readUnits_60 rfl ?_
          refine aw_dup X dX5_readUnits_61 rfl ?_
          refine aw_fgetI X hM 8 (t := 0) (b := 942) (n := 0) rfl f_X5_160 dX5_readUnits_62 ?_
          refine aw_iconst X (1) dX5_readUnits_65 rfl ?_
          refine aw_iadd X dX5_readUnits_66 ?_
          refine aw_top (nI (b + 1)) (by rw [(hpc).2.1]; exact nI_1 _) ?_
          refine aw_fput X FM_a hM 8 (b := 942) (n := 0) rfl f_X5_160 rfl (by decide +kernel) dX5_readUnits_67 (fun μ z_8 ez_8 hM => ?_)
          have hpz_8 : patM z_8 n (b + 1) := by rw [ez_8]; exact patM_at (hpc) (by omega)
          have htz_8 : ∀ j, tM z_8 n j = tM m n j := fun j => (show tM z_8 n j = tM zc n j by rw [ez_8]; exact tM_up (hpc).2.2.1 (by omega)).trans (htc j)
          refine aw_aload_n X dX5_readUnits_70 rfl ?_
          refine aw_sipush X (400) dX5_readUnits_71 rfl ?_
          refine aw_cVFK (As := [.int _]) X hM (c_X5_readNumber (kl K) U _ ma _ hM.1 n (b + 1) hpz_8 (400 : Int32)) s_X5_176 k_X5_readNumber (by decide) ⟨rfl, rfl⟩ ⟨Nat.zero_le _, Nat.zero_le _⟩ rfl (by exact Nat.le_of_ble_eq_true rfl) rfl dX5_readUnits_74 (fun μ z_9 ez_9 hM => ?_)
          have hlez_9 := mNq_le (m := z_8) (most := (400 : Int32)) (hpz_8).2.2.2
          have hpz_9 : patM z_9 n (mNq z_8 n (b + 1) (400 : Int32)).2 := by rw [ez_9]; exact mNr_pat (hpz_8)
          have htz_9 : ∀ j, tM z_9 n j = tM m n j := fun j => (show tM z_9 n j = tM z_8 n j by rw [ez_9]; exact mNr_tM (hpz_8).2.2.1).trans (htz_8 j)
          refine aw_aload_n X dX5_readUnits_77 rfl ?_
          refine aw_fgetA X hM 14 (t := 0) (b := 930) (n := 4) rfl f_X5_29 dX5_readUnits_78 ?_
          refine aw_iload_n X dX5_readUnits_81 rfl ?_
          refine aw_aload_n X dX5_readUnits_82 rfl ?_
          refine aw_fgetI X hM 11 (t := 0) (b := 945) (n := 0) rfl f_X5_170 dX5_readUnits_83 ?_
          refine aw_fiast X FM_a hM 14 (b := 930) (n := 4) rfl (930 + g) (vp_in_nI (by omega) (by decide)) (by rw [nI_clamp (by omega)]) dX5_readUnits_86 (fun μ z_10 ez_10 hM => ?_)
          have hpz_10 : patM z_10 n ((mNq z_8 n (b + 1) (400 : Int32)).2) := by rw [ez_10]; exact patM_up (hpz_9) (by omega) (by omega)
          have htz_10 : ∀ j, tM z_10 n j = tM m n j := fun j => (show tM z_10 n j = tM z_9 n j by rw [ez_10]; exact tM_up (hpz_9).2.2.1 (by omega)).trans (htz_9 j)
          refine aw_bipush X (97) dX5_readUnits_87 rfl ?_
          refine aw_iload_n X dX5_readUnits_89 rfl ?_
          refine aw_iadd X dX5_readUnits_90 ?_
          refine aw_top (nI (97 + g)) (ixn _ rfl) ?_
          refine aw_iconst X (1) dX5_readUnits_91 rfl ?_
          refine aw_iadd X dX5_readUnits_92 ?_
          refine aw_top (nI (97 + (g + 1))) (nI_1 _) ?_
          refine aw_istore_n X dX5_readUnits_93 rfl (by decide) ?_
          refine aw_goto (tgt := 42) X dX5_readUnits_94 (by decide) ?_
          rw [mUn, if_pos (by rw [htc]; exact c49_7)] at hR
          dsimp only at hR
          rw [htc, eg, e97, show tn (nI g) = g from nI_clamp (by omega)] at hR
          refine aw_sub [some (.ref (ma 0)), some (.int (nI (97 + (g + 1)))), none] ⟨rfl, rfl, trivial⟩ ?_
          exact ih (g + 1) _ μ _ (by omega) (by omega) (hpz_10) (by rw [ez_10, ez_9, ez_8]; exact hR) (htz_10) hM
    refine aw_sub [some (.ref (ma 0)), some (.int (nI (97 + 0))), none] ⟨rfl, rfl, trivial⟩ ?_
    exact loop 4 0 a μ _ (by omega) (by omega) (hpz_6) (by rw [ez_6, mUni, ← ez_1, ← ez_2, ← ez_3, ← ez_4, if_pos c31_5]; rfl) (htz_6) hM
  · skip
    refine aw_iconst X (1) dX5_readUnits_34 rfl ?_
    refine aw_goto (tgt := 39) X dX5_readUnits_35 (by decide) ?_
    refine aw_fputZ X FM_a hM 9 (b := 943) (n := 0) rfl ((by decide)) f_X5_163 rfl (by decide +kernel) dX5_readUnits_39 (fun μ z_6 ez_6 hM => ?_)
    have hpz_6 : patM z_6 n (a) := by rw [ez_6]; exact patM_up (hpz_4) (by omega) (by omega)
    have htz_6 : ∀ j, tM z_6 n j = tM m n j := fun j => (show tM z_6 n j = tM z_4 n j by rw [ez_6]; exact tM_up (hpz_4).2.2.1 (by omega)).trans (htz_4 j)
    have loop : ∀ (d : Nat) (j b : Nat) (μ : xH) (zc : xV), 4 ≤ j + d → j ≤ 4 → patM zc n b → (mUn n d (nI (97 + j)) b zc).2 = (mUni m n a).2 → (∀ i, tM zc n i = tM m n i) → FR U μ0 μ ma 5 FM zc →AW U K 3 0 0 Q μ 42 [some (.ref (ma 0)), some (.int (nI (97 + j))), none] [] := by
      intro d
      induction d with
      | zero =>
        intro j b μ zc hj1 hj2 hpc hR htc hM
        have hb60 := hpc.2.2
        refine aw_aload_n X dX5_readUnits_42 rfl ?_
        refine aw_iload_n X dX5_readUnits_43 rfl ?_
        refine aw_bipush X (100) dX5_readUnits_44 rfl ?_
        refine aw_cVFF (As := [.int _, .int _]) X hM (c_X5_isNext (kl K) U _ ma _ hM.1 _ _ n (b) hpc) s_X5_173 k_X5_isNext (by decide) ⟨rfl, rfl⟩ ⟨Nat.zero_le _, Nat.zero_le _⟩ rfl (by exact Nat.le_of_ble_eq_true rfl) rfl dX5_readUnits_46 ?_
        refine aw_top (bI (decide ((zc 943) = 0) && inB (tM m n (b)) (nI (97 + j)) (100 : Int32))) (by rw [htc _]) ?_
        refine aw_b_eq (tgt := 97) X dX5_readUnits_49 (by decide) (fun c49_7 => ?_) (fun c49_7 => ?_)
        · skip
          exact aw_vret X hQ dX5_readUnits_97 ⟨rfl, hM.to (by rw [← hR]; rfl)⟩
        · skip
          obtain ⟨g, hg1, hg2, eg⟩ := inB_g hj2 (show inB (tM m n b) (nI (97 + j)) 100 = true by have q := c49_7; simp only [Bool.and_eq_true] at q; exact q.2)
          have hlt : b < n := tM_lt (m := m) (fun e => by rw [e] at eg; exact absurd eg (by rcases (show g = 0 ∨ g = 1 ∨ g = 2 ∨ g = 3 by omega) with rfl | rfl | rfl | rfl <;> decide))
          refine aw_aload_n X dX5_readUnits_52 rfl ?_
          refine aw_cVFF (As := []) X hM (c_X5_sign (kl K) U _ ma _ hM.1 n (b) hpc) s_X5_167 k_X5_sign (by decide) ⟨rfl, rfl⟩ ⟨Nat.zero_le _, Nat.zero_le _⟩ rfl (by exact Nat.le_of_ble_eq_true rfl) rfl dX5_readUnits_53 ?_
          refine aw_top ((tM m n (b))) (htc _) ?_
          refine aw_bipush X (97) dX5_readUnits_56 rfl ?_
          refine aw_isub X dX5_readUnits_58 ?_
          refine aw_top (nI g) eg ?_
          refine aw_istore_n X dX5_readUnits_59 rfl (by decide) ?_
          refine aw_aload_n X dX5_readUnits_60 rfl ?_
          refine aw_dup X dX5_readUnits_61 rfl ?_
          refine aw_fgetI X hM 8 (t := 0) (b := 942) (n := 0) rfl f_X5_160 dX5_readUnits_62 ?_
          refine aw_iconst X (1) dX5_readUnits_65 rfl ?_
          refine aw_iadd X dX5_readUnits_66 ?_
          refine aw_top (nI (b + 1)) (by rw [(hpc).2.1]; exact nI_1 _) ?_
          refine aw_fput X FM_a hM 8 (b := 942) (n := 0) rfl f_X5_160 rfl (by decide +kernel) dX5_readUnits_67 (fun μ z_8 ez_8 hM => ?_)
          have hpz_8 : patM z_8 n (b + 1) := by rw [ez_8]; exact patM_at (hpc) (by omega)
          have htz_8 : ∀ j, tM z_8 n j = tM m n j := fun j => (show tM z_8 n j = tM zc n j by rw [ez_8]; exact tM_up (hpc).2.2.1 (by omega)).trans (htc j)
          refine aw_aload_n X dX5_readUnits_70 rfl ?_
          refine aw_sipush X (400) dX5_readUnits_71 rfl ?_
          refine aw_cVFK (As := [.int _]) X hM (c_X5_readNumber (kl K) U _ ma _ hM.1 n (b + 1) hpz_8 (400 : Int32)) s_X5_176 k_X5_readNumber (by decide) ⟨rfl, rfl⟩ ⟨Nat.zero_le _, Nat.zero_le _⟩ rfl (by exact Nat.le_of_ble_eq_true rfl) rfl dX5_readUnits_74 (fun μ z_9 ez_9 hM => ?_)
          have hlez_9 := mNq_le (m := z_8) (most := (400 : Int32)) (hpz_8).2.2.2
          have hpz_9 : patM z_9 n (mNq z_8 n (b + 1) (400 : Int32)).2 := by rw [ez_9]; exact mNr_pat (hpz_8)
          have htz_9 : ∀ j, tM z_9 n j = tM m n j := fun j => (show tM z_9 n j = tM z_8 n j by rw [ez_9]; exact mNr_tM (hpz_8).2.2.1).trans (htz_8 j)
          refine aw_aload_n X dX5_readUnits_77 rfl ?_
          refine aw_fgetA X hM 14 (t := 0) (b := 930) (n := 4) rfl f_X5_29 dX5_readUnits_78 ?_
          refine aw_iload_n X dX5_readUnits_81 rfl ?_
          refine aw_aload_n X dX5_readUnits_82 rfl ?_
          refine aw_fgetI X hM 11 (t := 0) (b := 945) (n := 0) rfl f_X5_170 dX5_readUnits_83 ?_
          refine aw_fiast X FM_a hM 14 (b := 930) (n := 4) rfl (930 + g) (vp_in_nI (by omega) (by decide)) (by rw [nI_clamp (by omega)]) dX5_readUnits_86 (fun μ z_10 ez_10 hM => ?_)
          have hpz_10 : patM z_10 n ((mNq z_8 n (b + 1) (400 : Int32)).2) := by rw [ez_10]; exact patM_up (hpz_9) (by omega) (by omega)
          have htz_10 : ∀ j, tM z_10 n j = tM m n j := fun j => (show tM z_10 n j = tM z_9 n j by rw [ez_10]; exact tM_up (hpz_9).2.2.1 (by omega)).trans (htz_9 j)
          refine aw_bipush X (97) dX5_readUnits_87 rfl ?_
          refine aw_iload_n X dX5_readUnits_89 rfl ?_
          refine aw_iadd X dX5_readUnits_90 ?_
          refine aw_top (nI (97 + g)) (ixn _ rfl) ?_
          refine aw_iconst X (1) dX5_readUnits_91 rfl ?_
          refine aw_iadd X dX5_readUnits_92 ?_
          refine aw_top (nI (97 + (g + 1))) (nI_1 _) ?_
          refine aw_istore_n X dX5_readUnits_93 rfl (by decide) ?_
          refine aw_goto (tgt := 42) X dX5_readUnits_94 (by decide) ?_
          exact absurd hg2 (by omega)
      | succ d ih =>
        intro j b μ zc hj1 hj2 hpc hR htc hM
        have hb60 := hpc.2.2
        refine aw_aload_n X dX5_readUnits_42 rfl ?_
        refine aw_iload_n X dX5_readUnits_43 rfl ?_
        refine aw_bipush X (100) dX5_readUnits_44 rfl ?_
        refine aw_cVFF (As := [.int _, .int _]) X hM (c_X5_isNext (kl K) U _ ma _ hM.1 _ _ n (b) hpc) s_X5_173 k_X5_isNext (by decide) ⟨rfl, rfl⟩ ⟨Nat.zero_le _, Nat.zero_le _⟩ rfl (by exact Nat.le_of_ble_eq_true rfl) rfl dX5_readUnits_46 ?_
        refine aw_top (bI (decide ((zc 943) = 0) && inB (tM m n (b)) (nI (97 + j)) (100 : Int32))) (by rw [htc _]) ?_
        refine aw_b_eq (tgt := 97) X dX5_readUnits_49 (by decide) (fun c49_7 => ?_) (fun c49_7 => ?_)
        · skip
          exact aw_vret X hQ dX5_readUnits_97 ⟨rfl, hM.to (by rw [← hR, mUn, if_neg (by rw [htc, c49_7]; decide)])⟩
        · skip
          obtain ⟨g, hg1, hg2, eg⟩ := inB_g hj2 (show inB (tM m n b) (nI (97 + j)) 100 = true by have q := c49_7; simp only [Bool.and_eq_true] at q; exact q.2)
          have hlt : b < n := tM_lt (m := m) (fun e => by rw [e] at eg; exact absurd eg (by rcases (show g = 0 ∨ g = 1 ∨ g = 2 ∨ g = 3 by omega) with rfl | rfl | rfl | rfl <;> decide))
          refine aw_aload_n X dX5_readUnits_52 rfl ?_
          refine aw_cVFF (As := []) X hM (c_X5_sign (kl K) U _ ma _ hM.1 n (b) hpc) s_X5_167 k_X5_sign (by decide) ⟨rfl, rfl⟩ ⟨Nat.zero_le _, Nat.zero_le _⟩ rfl (by exact Nat.le_of_ble_eq_true rfl) rfl dX5_readUnits_53 ?_
          refine aw_top ((tM m n (b))) (htc _) ?_
          refine aw_bipush X (97) dX5_readUnits_56 rfl ?_
          refine aw_isub X dX5_readUnits_58 ?_
          refine aw_top (nI g) eg ?_
          refine aw_istore_n X dX5_readUnits_59 rfl (by decide) ?_
          refine aw_aload_n X dX5_readUnits_60 rfl ?_
          refine aw_dup X dX5_readUnits_61 rfl ?_
          refine aw_fgetI X hM 8 (t := 0) (b := 942) (n := 0) rfl f_X5_160 dX5_readUnits_62 ?_
          refine aw_iconst X (1) dX5_readUnits_65 rfl ?_
          refine aw_iadd X dX5_readUnits_66 ?_
          refine aw_top (nI (b + 1)) (by rw [(hpc).2.1]; exact nI_1 _) ?_
          refine aw_fput X FM_a hM 8 (b := 942) (n := 0) rfl f_X5_160 rfl (by decide +kernel) dX5_readUnits_67 (fun μ z_8 ez_8 hM => ?_)
          have hpz_8 : patM z_8 n (b + 1) := by rw [ez_8]; exact patM_at (hpc) (by omega)
          have htz_8 : ∀ j, tM z_8 n j = tM m n j := fun j => (show tM z_8 n j = tM zc n j by rw [ez_8]; exact tM_up (hpc).2.2.1 (by omega)).trans (htc j)
          refine aw_aload_n X dX5_readUnits_70 rfl ?_
          refine aw_sipush X (400) dX5_readUnits_71 rfl ?_
          refine aw_cVFK (As := [.int _]) X hM (c_X5_readNumber (kl K) U _ ma _ hM.1 n (b + 1) hpz_8 (400 : Int32)) s_X5_176 k_X5_readNumber (by decide) ⟨rfl, rfl⟩ ⟨Nat.zero_le _, Nat.zero_le _⟩ rfl (by exact Nat.le_of_ble_eq_true rfl) rfl dX5_readUnits_74 (fun μ z_9 ez_9 hM => ?_)
          have hlez_9 := mNq_le (m := z_8) (most := (400 : Int32)) (hpz_8).2.2.2
          have hpz_9 : patM z_9 n (mNq z_8 n (b + 1) (400 : Int32)).2 := by rw [ez_9]; exact mNr_pat (hpz_8)
          have htz_9 : ∀ j, tM z_9 n j = tM m n j := fun j => (show tM z_9 n j = tM z_8 n j by rw [ez_9]; exact mNr_tM (hpz_8).2.2.1).trans (htz_8 j)
          refine aw_aload_n X dX5_readUnits_77 rfl ?_
          refine aw_fgetA X hM 14 (t := 0) (b := 930) (n := 4) rfl f_X5_29 dX5_readUnits_78 ?_
          refine aw_iload_n X dX5_readUnits_81 rfl ?_
          refine aw_aload_n X dX5_readUnits_82 rfl ?_
          refine aw_fgetI X hM 11 (t := 0) (b := 945) (n := 0) rfl f_X5_170 dX5_readUnits_83 ?_
          refine aw_fiast X FM_a hM 14 (b := 930) (n := 4) rfl (930 + g) (vp_in_nI (by omega) (by decide)) (by rw [nI_clamp (by omega)]) dX5_readUnits_86 (fun μ z_10 ez_10 hM => ?_)
          have hpz_10 : patM z_10 n ((mNq z_8 n (b + 1) (400 : Int32)).2) := by rw [ez_10]; exact patM_up (hpz_9) (by omega) (by omega)
          have htz_10 : ∀ j, tM z_10 n j = tM m n j := fun j => (show tM z_10 n j = tM z_9 n j by rw [ez_10]; exact tM_up (hpz_9).2.2.1 (by omega)).trans (htz_9 j)
          refine aw_bipush X (97) dX5_readUnits_87 rfl ?_
          refine aw_iload_n X dX5_readUnits_89 rfl ?_
          refine aw_iadd X dX5_readUnits_90 ?_
          refine aw_top (nI (97 + g)) (ixn _ rfl) ?_
          refine aw_iconst X (1) dX5_readUnits_91 rfl ?_
          refine aw_iadd X dX5_readUnits_92 ?_
          refine aw_top (nI (97 + (g + 1))) (nI_1 _) ?_
          refine aw_istore_n X dX5_readUnits_93 rfl (by decide) ?_
          refine aw_goto (tgt := 42) X dX5_readUnits_94 (by decide) ?_
          rw [mUn, if_pos (by rw [htc]; exact c49_7)] at hR
          dsimp only at hR
          rw [htc, eg, e97, show tn (nI g) = g from nI_clamp (by omega)] at hR
          refine aw_sub [some (.ref (ma 0)), some (.int (nI (97 + (g + 1)))), none] ⟨rfl, rfl, trivial⟩ ?_
          exact ih (g + 1) _ μ _ (by omega) (by omega) (hpz_10) (by rw [ez_10, ez_9, ez_8]; exact hR) (htz_10) hM
    refine aw_sub [some (.ref (ma 0)), some (.int (nI (97 + 0))), none] ⟨rfl, rfl, trivial⟩ ?_
    exact loop 4 0 a μ _ (by omega) (by omega) (hpz_6) (by rw [ez_6, mUni, ← ez_1, ← ez_2, ← ez_3, ← ez_4, if_neg (by rw [c31_5]; decide)]; rfl) (htz_6) hM
