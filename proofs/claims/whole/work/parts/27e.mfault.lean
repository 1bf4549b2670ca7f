/-! where the fault is -/
theorem mHo_tM {m : xV} {n a i : Nat} (hn : n ≤ 60) : tM (mHo m n a) n i = tM m n i := by
  unfold mHo
  dsimp only
  (repeat' split) <;> (repeat rw [tM_up hn (by omega)])
theorem mHo_pat {m : xV} {n a : Nat} (h : patM m n a) (han : a < n) : ∃ b, a ≤ b ∧ b ≤ n ∧ patM (mHo m n a) n b := by
  have h3 : ∀ v w, patM (upd (upd (upd m 946 v) 942 (nI (a + 1))) 944 w) n (a + 1) := fun v w => patM_up (patM_at (patM_up h (by decide) (by decide)) (by omega)) (by decide) (by decide)
  unfold mHo
  dsimp only
  by_cases c1 : ¬ tM m n (a + 1) = 61 ∧ ¬ tM m n (a + 1) = 45 ∧ ¬ tM m n (a + 1) = 126
  · rw [if_pos c1]
    exact ⟨a + 1, by omega, by omega, patM_at (patM_up (h3 _ _) (by decide) (by decide)) (by omega)⟩
  rw [if_neg c1]
  have hlt2 : a + 1 < n := tM_lt (m := m) (fun e => c1 (by rw [e]; decide))
  have h5 : ∀ v w x, patM (upd (upd (upd (upd (upd m 946 v) 942 (nI (a + 1))) 944 w) 943 x) 942 (nI (a + 1 + 1))) n (a + 1 + 1) := fun v w x => patM_at (patM_up (h3 v w) (by decide) (by decide)) (by omega)
  by_cases c2 : ¬ tM m n (a + 1) = 61
  · rw [if_pos c2]
    exact ⟨a + 1 + 1, by omega, by omega, h5 _ _ _⟩
  rw [if_neg c2]
  by_cases c3 : isG (tM m n (a + 1 + 1) - 97) = true
  · rw [if_pos c3]
    have hlt3 : a + 1 + 1 < n := tM_lt (m := m) (fun e => by rw [e] at c3; exact absurd c3 (by decide))
    exact ⟨a + 1 + 1 + 1, by omega, by omega, patM_at (patM_up (patM_up (h5 _ _ _) (by decide) (by decide)) (by decide) (by decide)) (by omega)⟩
  · rw [if_neg c3]
    exact ⟨a + 1 + 1, by omega, by omega, patM_at (patM_up (patM_up (h5 _ _ _) (by decide) (by decide)) (by decide) (by decide)) (by omega)⟩
theorem mUn_pat {n : Nat} : ∀ (d j a : Nat) (z : xV), j ≤ 4 → patM z n a → a ≤ (mUn n d (nI (97 + j)) a z).1 ∧ (mUn n d (nI (97 + j)) a z).1 ≤ n ∧ patM (mUn n d (nI (97 + j)) a z).2 n (mUn n d (nI (97 + j)) a z).1 ∧ ∀ i, tM (mUn n d (nI (97 + j)) a z).2 n i = tM z n i := by
  intro d
  induction d with
  | zero => intro j a z hj h; exact ⟨Nat.le_refl _, h.2.2.2, h, fun _ => rfl⟩
  | succ d ih =>
    intro j a z hj h
    rw [mUn]
    by_cases c : (decide (z 943 = 0) && inB (tM z n a) (nI (97 + j)) 100) = true
    · rw [if_pos c]
      have c' : inB (tM z n a) (nI (97 + j)) 100 = true := by simp only [Bool.and_eq_true] at c; exact c.2
      obtain ⟨g, hg1, hg2, eg⟩ := inB_g hj c'
      have hlt : a < n := inB_lt (m := z) c' (by rw [show (0 : Int32) = nI 0 from rfl]; exact nI_ge (by omega) (by omega))
      dsimp only
      rw [eg, e97, show tn (nI g) = g from nI_clamp (by omega)]
      have p1 : patM (upd z 942 (nI (a + 1))) n (a + 1) := patM_at h (by omega)
      have hle := mNq_le (m := upd z 942 (nI (a + 1))) (most := 400) p1.2.2.2
      have p2 := mNr_pat (most := 400) p1
      have p3 : patM (upd (mNr (upd z 942 (nI (a + 1))) n (a + 1) 400) (930 + g) (mNr (upd z 942 (nI (a + 1))) n (a + 1) 400 945)) n (mNq (upd z 942 (nI (a + 1))) n (a + 1) 400).2 := patM_up p2 (by omega) (by omega)
      obtain ⟨i1, i2, i3, i4⟩ := ih (g + 1) _ _ (by omega) p3
      refine ⟨by omega, i2, i3, fun i => ?_⟩
      rw [i4, tM_up h.2.2.1 (by omega), mNr_tM h.2.2.1, tM_up h.2.2.1 (by omega)]
    · rw [if_neg c]
      exact ⟨Nat.le_refl _, h.2.2.2, h, fun _ => rfl⟩
theorem mUni_pat {m : xV} {n a : Nat} (h : patM m n a) : ∃ b, a ≤ b ∧ b ≤ n ∧ patM (mUni m n a).2 n b ∧ ∀ i, tM (mUni m n a).2 n i = tM m n i := by
  have p : ∀ v, patM (upd (upd (upd (upd (upd m 930 0) 931 0) 932 0) 933 0) 943 v) n a := fun v => patM_up (patM_up (patM_up (patM_up (patM_up h (by decide) (by decide)) (by decide) (by decide)) (by decide) (by decide)) (by decide) (by decide)) (by decide) (by decide)
  unfold mUni
  dsimp only
  obtain ⟨i1, i2, i3, i4⟩ := mUn_pat 4 0 a _ (by omega) (p (if (decide (upd (upd (upd (upd m 930 0) 931 0) 932 0) 933 0 943 = 0) && inB (tM m n a) 97 100) = true then 0 else 1))
  refine ⟨_, i1, i2, i3, fun i => (i4 i).trans ?_⟩
  have hn := h.2.2.1
  rw [tM_up hn (by omega), tM_up hn (by omega), tM_up hn (by omega), tM_up hn (by omega), tM_up hn (by omega)]
theorem mOrd_pat {m : xV} {n a : Nat} (h : patM m n a) : ∃ b, a ≤ b ∧ b ≤ n ∧ patM (mOrd m n a) n b ∧ ∀ i, tM (mOrd m n a) n i = tM m n i := by
  have hn := h.2.2.1
  have p1 : patM (upd m 944 (tM m n a)) n a := patM_up h (by decide) (by decide)
  unfold mOrd
  dsimp only
  by_cases c1 : (decide (m 943 = 0) && inB (tM m n a) 48 51) = true
  · rw [if_pos c1]
    have hlt : a < n := inB_lt (m := m) (by simp only [Bool.and_eq_true] at c1; exact c1.2) (by decide)
    obtain ⟨b, b1, b2, b3⟩ := mHo_pat p1 hlt
    exact ⟨b, b1, b2, b3, fun i => by rw [mHo_tM hn, tM_up hn (by omega)]⟩
  rw [if_neg c1]
  by_cases c2 : tM m n a = 43
  · rw [if_pos c2]
    have hlt : a < n := tM_lt (m := m) (by rw [c2]; decide)
    obtain ⟨b, b1, b2, b3, b4⟩ := mUni_pat (patM_at p1 (b := a + 1) (by omega))
    exact ⟨b, by omega, b2, b3, fun i => by rw [b4, tM_up hn (by omega), tM_up hn (by omega)]⟩
  rw [if_neg c2]
  by_cases c3 : tM m n a = 46
  · rw [if_pos c3]
    have hlt : a < n := tM_lt (m := m) (by rw [c3]; decide)
    have p2 := patM_at p1 (b := a + 1) (by omega)
    have hle := mNq_le (m := upd (upd m 944 (tM m n a)) 942 (nI (a + 1))) (most := 48) p2.2.2.2
    exact ⟨_, by omega, hle.2, mNr_pat p2, fun i => by rw [mNr_tM hn, tM_up hn (by omega), tM_up hn (by omega)]⟩
  · rw [if_neg c3]
    exact ⟨a, Nat.le_refl _, h.2.2.2, patM_up p1 (by decide) (by decide), fun i => by rw [tM_up hn (by omega), tM_up hn (by omega)]⟩
def mFa (n : Nat) : Nat → Nat → xV → Int32 × xV
  | 0, a, z => (nI a, z)
  | d + 1, a, z =>
    if ¬ mOrd z n a 943 = 0 then (mOrd z n a 942, mOrd z n a)
    else if mOrd z n a 942 = mOrd z n a 941 then (-100006, mOrd z n a)
    else if ¬ tM z n (tn (mOrd z n a 942)) = 59 then (mOrd z n a 942, mOrd z n a)
    else mFa n d (tn (mOrd z n a 942) + 1) (upd (mOrd z n a) 942 (nI (tn (mOrd z n a 942) + 1)))
def mFF (m : xV) (n : Nat) : Int32 × xV := mFa n (n + 1) 0 (upd (upd m 942 0) 943 0)
set_option maxHeartbeats 400000 in
set_option maxRecDepth 100000 in
theorem c_X5_findFault (l : Launch) (U : xU) (μ0 : xH) (ma : Nat → Nat) (m : xV) (hM0 : FRep U μ0 ma 5 FM m) (n : Nat) (h941 : m 941 = nI n) (hn : n ≤ 60) : CtFR l U yX5_findFault cX5_findFault 1 (some .int) ({ frames := 5, cells := 0, slots := 0, locals := 107 } : Room) [.ref (ma 0)] μ0 ma 5 FM (mFF m n).1 (mFF m n).2 := by
  refine Ct.of [some (.ref (ma 0))] (by decide +kernel) rfl (Nat.le_of_ble_eq_true rfl) (fun K Q X hnm hQ => ?_)
  obtain ⟨μ, hμ, hM⟩ : ∃ μ : xH, μ0 = μ ∧ FR U μ0 μ ma 5 FM m := ⟨μ0, rfl, FR.rf hM0⟩
  refine aw_mu hμ ?_
  refine aw_aload_n X dX5_findFault_0 rfl ?_
  refine aw_iconst X (0) dX5_findFault_1 rfl ?_
  refine aw_fput X FM_a hM 8 (b := 942) (n := 0) rfl f_X5_160 rfl (by decide +kernel) dX5_findFault_2 (fun μ z_1 ez_1 hM => ?_)
  refine aw_aload_n X dX5_findFault_5 rfl ?_
  refine aw_iconst X (0) dX5_findFault_6 rfl ?_
  refine aw_fputZ X FM_a hM 9 (b := 943) (n := 0) rfl ((by decide)) f_X5_163 rfl (by decide +kernel) dX5_findFault_7 (fun μ z_2 ez_2 hM => ?_)
  have loop : ∀ (d : Nat) (b : Nat) (μ : xH) (zc : xV), n + 1 ≤ b + d → patM zc n b → mFa n d b zc = mFF m n → (∀ i, tM zc n i = tM m n i) → FR U μ0 μ ma 5 FM zc →AW U K 1 0 0 Q μ 10 [some (.ref (ma 0))] [] := by
    intro d
    induction d with
    | zero =>
      intro b μ zc hbd hpc hR htc hM
      exact absurd hpc.2.2.2 (by omega)
    | succ d ih =>
      intro b μ zc hbd hpc hR htc hM
      have hb60 := hpc.2.2
      refine aw_aload_n X dX5_findFault_10 rfl ?_
      refine aw_cVFK (As := []) X hM (c_X5_readOrder (kl K) U _ ma _ hM.1 n (b) hpc) s_X5_194 k_X5_readOrder (by decide) ⟨rfl, rfl⟩ ⟨Nat.zero_le _, Nat.zero_le _⟩ rfl (by exact Nat.le_of_ble_eq_true rfl) rfl dX5_findFault_11 (fun μ z_3 ez_3 hM => ?_)
      obtain ⟨b1, hb1, hb2, hpz1, htz1⟩ := mOrd_pat (hpc)
      rw [← ez_3] at hpz1 htz1
      have htz_3 : ∀ j, tM z_3 n j = tM m n j := fun j => (htz1 j).trans (htc j)
      have htn : tn (z_3 942) = b1 := by rw [hpz1.2.1, tn, nI_clamp (by have := hpz1.2.2; omega)]
      refine aw_aload_n X dX5_findFault_14 rfl ?_
      refine aw_fgetI X hM 9 (t := 1) (b := 943) (n := 0) rfl f_X5_163 dX5_findFault_15 ?_
      refine aw_if_eq (tgt := 26) X dX5_findFault_18 (by decide) (fun c18_4 => ?_) (fun c18_4 => ?_)
      · skip
        refine aw_aload_n X dX5_findFault_26 rfl ?_
        refine aw_fgetI X hM 8 (t := 0) (b := 942) (n := 0) rfl f_X5_160 dX5_findFault_27 ?_
        refine aw_aload_n X dX5_findFault_30 rfl ?_
        refine aw_fgetI X hM 7 (t := 0) (b := 941) (n := 0) rfl f_X5_143 dX5_findFault_31 ?_
        refine aw_icmp_ne (tgt := 40) X dX5_findFault_34 (by decide) (fun c34_5 => ?_) (fun c34_5 => ?_)
        · skip
          refine aw_aload_n X dX5_findFault_40 rfl ?_
          refine aw_cVFF (As := []) X hM (c_X5_sign (kl K) U _ ma _ hM.1 n (b1) hpz1) s_X5_167 k_X5_sign (by decide) ⟨rfl, rfl⟩ ⟨Nat.zero_le _, Nat.zero_le _⟩ rfl (by exact Nat.le_of_ble_eq_true rfl) rfl dX5_findFault_41 ?_
          refine aw_top ((tM m n (b1))) (htz_3 _) ?_
          refine aw_bipush X (59) dX5_findFault_44 rfl ?_
          refine aw_icmp_eq (tgt := 54) X dX5_findFault_46 (by decide) (fun c46_6 => ?_) (fun c46_6 => ?_)
          · skip
            have hlt1 : b1 < n := tM_lt (m := m) (by rw [c46_6]; decide)
            refine aw_aload_n X dX5_findFault_54 rfl ?_
            refine aw_dup X dX5_findFault_55 rfl ?_
            refine aw_fgetI X hM 8 (t := 0) (b := 942) (n := 0) rfl f_X5_160 dX5_findFault_56 ?_
            refine aw_iconst X (1) dX5_findFault_59 rfl ?_
            refine aw_iadd X dX5_findFault_60 ?_
            refine aw_top (nI (b1 + 1)) (by rw [(hpz1).2.1]; exact nI_1 _) ?_
            refine aw_fput X FM_a hM 8 (b := 942) (n := 0) rfl f_X5_160 rfl (by decide +kernel) dX5_findFault_61 (fun μ z_7 ez_7 hM => ?_)
            have hpz_7 : patM z_7 n (b1 + 1) := by rw [ez_7]; exact patM_at (hpz1) (by omega)
            have htz_7 : ∀ j, tM z_7 n j = tM m n j := fun j => (show tM z_7 n j = tM z_3 n j by rw [ez_7]; exact tM_up (hpz1).2.2.1 (by omega)).trans (htz_3 j)
            refine aw_goto (tgt := 10) X dX5_findFault_64 (by decide) ?_
            rw [mFa, ← ez_3, if_neg (fun q => q c18_4), if_neg c34_5, htn, htc, if_neg (fun q => q c46_6)] at hR
            exact ih (b1 + 1) μ _ (by omega) (hpz_7) (by rw [ez_7]; exact hR) (htz_7) hM
          · skip
            refine aw_aload_n X dX5_findFault_49 rfl ?_
            refine aw_fgetI X hM 8 (t := 0) (b := 942) (n := 0) rfl f_X5_160 dX5_findFault_50 ?_
            rw [mFa, ← ez_3, if_neg (fun q => q c18_4), if_neg c34_5, htn, htc, if_pos c46_6] at hR
            exact aw_iret X hQ dX5_findFault_53 ⟨congrArg (fun q => some (Value.int q)) (by rw [← hR]), hM.to (by rw [← hR])⟩
        · skip
          refine aw_ldc X dX5_findFault_37 a_X5_36 ?_
          rw [mFa, ← ez_3, if_neg (fun q => q c18_4), if_pos c34_5] at hR
          exact aw_iret X hQ dX5_findFault_39 ⟨congrArg (fun q => some (Value.int q)) (by rw [← hR]), hM.to (by rw [← hR])⟩
      · skip
        refine aw_aload_n X dX5_findFault_21 rfl ?_
        refine aw_fgetI X hM 8 (t := 0) (b := 942) (n := 0) rfl f_X5_160 dX5_findFault_22 ?_
        rw [mFa, ← ez_3, if_pos c18_4] at hR
        exact aw_iret X hQ dX5_findFault_25 ⟨congrArg (fun q => some (Value.int q)) (by rw [← hR]), hM.to (by rw [← hR])⟩
  have hn60 := hn
  exact loop (n + 1) 0 μ _ (by omega) (by rw [ez_2, ez_1]; exact patM_up ⟨by rw [upd_n (by decide)]; exact h941, upd_s, hn, by omega⟩ (by decide) (by decide)) (by rw [ez_2, ez_1]; rfl) (fun i => by rw [ez_2, ez_1, tM_up hn (by omega), tM_up hn (by omega)]) hM

set_option maxHeartbeats 400000 in
set_option maxRecDepth 100000 in
theorem c_X5_fault (l : Launch) (U : xU) (μ0 : xH) (ma : Nat → Nat) (m : xV) (hM0 : FRep U μ0 ma 5 FM m) (n : Nat) (h941 : m 941 = nI n) (hn : n ≤ 60) : CtFR l U yX5_fault cX5_fault 1 (some .int) ({ frames := 6, cells := 0, slots := 0, locals := 127 } : Room) [.ref (ma 0)] μ0 ma 5 FM (mFF m n).1 (mFF m n).2 := by
  refine Ct.of [some (.ref (ma 0))] (by decide +kernel) rfl (Nat.le_of_ble_eq_true rfl) (fun K Q X hnm hQ => ?_)
  have hM := FR.rf hM0
  refine aw_aload_n X dX5_fault_0 rfl ?_
  refine aw_cVFR (As := []) X hM (c_X5_findFault (kl K) U _ ma _ hM.1 n h941 hn) s_X5_197 k_X5_findFault (by decide) ⟨rfl, rfl⟩ ⟨Nat.zero_le _, Nat.zero_le _⟩ rfl (by exact Nat.le_of_ble_eq_true rfl) rfl dX5_fault_1 (fun μ z_1 ez_1 hM => ?_)
  exact aw_iret X hQ dX5_fault_4 ⟨rfl, hM.to ez_1⟩
