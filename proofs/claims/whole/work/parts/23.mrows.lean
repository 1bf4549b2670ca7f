/-! rows that are copied within the model -/
def xcp (m : xV) (a b k : Nat) : xV := fun j => if a ≤ j ∧ j < a + k then m (b + (j - a)) else m j
theorem xcp_0 {m : xV} {a b : Nat} : m = xcp m a b 0 := by
  funext j
  unfold xcp
  rw [if_neg (by omega)]
theorem xcp_o {m : xV} {a b k j : Nat} (h : j < a ∨ a + k ≤ j) : xcp m a b k j = m j := if_neg (by omega)
theorem xcp_i {m : xV} {a b k j : Nat} (h : j < k) : xcp m a b k (a + j) = m (b + j) := by
  unfold xcp
  rw [if_pos (by omega), Nat.add_sub_cancel_left]
theorem xcp_st {m : xV} {a b k i j : Nat} (hi : i = a + k) (hj : j = b + k) (h : a ≤ b ∨ b + k < a) : upd (xcp m a b k) i (xcp m a b k j) = xcp m a b (k + 1) := by
  subst hi; subst hj
  rw [xcp_o (by omega)]
  funext q
  by_cases e : q = a + k
  · subst e; rw [upd_s, xcp_i (by omega)]
  · rw [upd_n e]
    unfold xcp
    by_cases c : a ≤ q ∧ q < a + k
    · rw [if_pos c, if_pos (by omega)]
    · rw [if_neg c, if_neg (by omega)]
def mRecL (m : xV) (kn : Nat) : xV := upd (xcp m (200 + 80 * kn) 0 80) 940 (nI (kn + 1))
def mRec (m : xV) (kn : Nat) : xV := if kn = 6 then mRecL (upd (xcp m 200 280 400) 940 (nI 5)) 5 else mRecL m kn
theorem mRec_lt {m : xV} {kn j : Nat} (hk : kn ≤ 6) (hj : j < 200 ∨ (680 ≤ j ∧ j ≠ 940)) : mRec m kn j = m j := by
  unfold mRec
  split
  · rw [mRecL, upd_n (by omega), xcp_o (by omega), upd_n (by omega), xcp_o (by omega)]
  · rw [mRecL, upd_n (by omega), xcp_o (by omega)]
set_option maxHeartbeats 4000000 in
set_option maxRecDepth 100000 in
theorem c_X5_record (l : Launch) (U : xU) (μ0 : xH) (ma : Nat → Nat) (m : xV) (hM0 : FRep U μ0 ma 5 FM m) (kn : Nat) (hkn : kn ≤ 6) (hk9 : m 940 = nI kn) : CtFK l U yX5_record cX5_record 2 none ({ frames := 0, cells := 0, slots := 0, locals := 0 } : Room) [.ref (ma 0)] μ0 ma 5 FM (mRec m kn) := by
  refine Ct.of [some (.ref (ma 0)), none] (by decide +kernel) rfl (Nat.le_of_ble_eq_true rfl) (fun K Q X hnm hQ => ?_)
  obtain ⟨μ, hμ, hM⟩ : ∃ μ : xH, μ0 = μ ∧ FR U μ0 μ ma 5 FM m := ⟨μ0, rfl, FR.rf hM0⟩
  refine aw_mu hμ ?_
  refine aw_aload_n X dX5_record_0 rfl ?_
  refine aw_fgetI X hM 3 (t := 0) (b := 940) (n := 0) rfl f_X5_37 dX5_record_1 ?_
  refine aw_bipush X (6) dX5_record_4 rfl ?_
  by_cases ek : kn = 6
  · subst ek
    refine aw_icmp_ne_f (tgt := 49) X dX5_record_6 (by decide) (by rw [hk9]; decide) ?_
    refine aw_iconst X (0) dX5_record_9 rfl ?_
    refine aw_istore_n X dX5_record_10 rfl (by decide) ?_
    have loop : ∀ (d k : Nat) (μ : xH) (zc : xV) , k + d = 400 → zc = xcp m 200 280 k → FR U μ0 μ ma 5 FM zc → AW U K 2 0 0 Q μ 11 [some (.ref (ma 0)), some (.int (nI k))] [] := by
      intro d
      induction d with
      | zero =>
        intro k μ zc hk ezc hM
        have hk : k = 400 := by omega
        subst hk
        refine aw_iload_n X dX5_record_11 rfl ?_
        refine aw_sipush X (400) dX5_record_12 rfl ?_
        refine aw_icmp_ge_t (tgt := 39) X dX5_record_15 (by decide) (by decide) ?_
        refine aw_aload_n X dX5_record_39 rfl ?_
        refine aw_dup X dX5_record_40 rfl ?_
        refine aw_fgetI X hM 3 (t := 0) (b := 940) (n := 0) rfl f_X5_37 dX5_record_41 ?_
        refine aw_top (nI 6) (by rw [ezc, xcp_o (by omega)]; exact hk9) ?_
        refine aw_iconst X (1) dX5_record_44 rfl ?_
        refine aw_isub X dX5_record_45 ?_
        refine aw_top (nI 5) (by decide) ?_
        refine aw_fput X FM_a hM 3 (b := 940) (n := 0) rfl f_X5_37 rfl (by decide +kernel) dX5_record_46 (fun μ z_1 ez_1 hM => ?_)
        refine aw_iconst X (0) dX5_record_49 rfl ?_
        refine aw_istore_n X dX5_record_50 rfl (by decide) ?_
        have hb9 : z_1 = upd (xcp m 200 280 400) 940 (nI 5) := by rw [ez_1, ezc]
        have hk2 : z_1 940 = nI 5 := by rw [hb9, upd_s]
        have loop : ∀ (d k : Nat) (μ : xH) (zc : xV) , k + d = 80 → zc = xcp z_1 (200 + 80 * 5) 0 k → FR U μ0 μ ma 5 FM zc → AW U K 2 0 0 Q μ 51 [some (.ref (ma 0)), some (.int (nI k))] [] := by
          intro d
          induction d with
          | zero =>
            intro k μ zc hk ezc hM
            have hk : k = 80 := by omega
            subst hk
            refine aw_iload_n X dX5_record_51 rfl ?_
            refine aw_bipush X (80) dX5_record_52 rfl ?_
            refine aw_icmp_ge_t (tgt := 83) X dX5_record_54 (by decide) (by decide) ?_
            refine aw_aload_n X dX5_record_83 rfl ?_
            refine aw_dup X dX5_record_84 rfl ?_
            refine aw_fgetI X hM 3 (t := 0) (b := 940) (n := 0) rfl f_X5_37 dX5_record_85 ?_
            refine aw_top (nI 5) (by rw [ezc, xcp_o (by omega)]; exact hk2) ?_
            refine aw_iconst X (1) dX5_record_88 rfl ?_
            refine aw_iadd X dX5_record_89 ?_
            refine aw_top (nI (5 + 1)) (nI_1 _) ?_
            refine aw_fput X FM_a hM 3 (b := 940) (n := 0) rfl f_X5_37 rfl (by decide +kernel) dX5_record_90 (fun μ z_2 ez_2 hM => ?_)
            exact aw_vret X hQ dX5_record_93 ⟨rfl, hM.to (by rw [ez_2, ezc, hb9, mRec, if_pos rfl]; rfl)⟩
          | succ d ih =>
            intro k μ zc hk ezc hM
            refine aw_iload_n X dX5_record_51 rfl ?_
            refine aw_bipush X (80) dX5_record_52 rfl ?_
            refine aw_icmp_ge_f (tgt := 83) X dX5_record_54 (by decide) (xn_le (N := 80) (by omega) (by decide) rfl) ?_
            refine aw_aload_n X dX5_record_57 rfl ?_
            refine aw_fgetA X hM 2 (t := 0) (b := 200) (n := 480) rfl f_X5_16 dX5_record_58 ?_
            refine aw_bipush X (80) dX5_record_61 rfl ?_
            refine aw_aload_n X dX5_record_63 rfl ?_
            refine aw_fgetI X hM 3 (t := 0) (b := 940) (n := 0) rfl f_X5_37 dX5_record_64 ?_
            refine aw_top (nI 5) (by rw [ezc, xcp_o (by omega)]; exact hk2) ?_
            refine aw_imul X dX5_record_67 ?_
            refine aw_top (nI (80 * 5)) (ixm _ rfl) ?_
            refine aw_iload_n X dX5_record_68 rfl ?_
            refine aw_iadd X dX5_record_69 ?_
            refine aw_top (nI (80 * 5 + k)) (ixn _ rfl) ?_
            refine aw_aload_n X dX5_record_70 rfl ?_
            refine aw_fgetA X hM 0 (t := 0) (b := 0) (n := 80) rfl f_X5_7 dX5_record_71 ?_
            refine aw_iload_n X dX5_record_74 rfl ?_
            refine aw_fiald X hM 0 (b := 0) (n := 80) rfl (k) (vp_in_nI (by omega) (by decide)) (by rw [nI_clamp (by omega), Nat.zero_add]) dX5_record_75 ?_
            refine aw_fiast X FM_a hM 2 (b := 200) (n := 480) rfl (200 + (80 * 5 + k)) (vp_in_nI (by omega) (by decide)) (by rw [nI_clamp (by omega)]) dX5_record_76 (fun μ z_2 ez_2 hM => ?_)
            refine aw_iinc X (1) dX5_record_77 rfl rfl rfl (by decide) ?_
            refine aw_goto (tgt := 51) X dX5_record_80 (by decide) ?_
            refine aw_sub [some (.ref (ma 0)), some (.int (nI (k + 1)))] ⟨rfl, congrArg (fun q => some (Value.int q)) (nI_1 k), trivial⟩ ?_
            exact ih (k + 1) μ _ (by omega) (by subst ezc ez_2; exact xcp_st (by omega) (by omega) (by omega)) hM
        refine aw_sub [some (.ref (ma 0)), some (.int (nI 0))] ⟨rfl, rfl, trivial⟩ ?_
        exact loop (80) 0 μ _ (by omega) xcp_0 hM
      | succ d ih =>
        intro k μ zc hk ezc hM
        refine aw_iload_n X dX5_record_11 rfl ?_
        refine aw_sipush X (400) dX5_record_12 rfl ?_
        refine aw_icmp_ge_f (tgt := 39) X dX5_record_15 (by decide) (xn_le (N := 400) (by omega) (by decide) rfl) ?_
        refine aw_aload_n X dX5_record_18 rfl ?_
        refine aw_fgetA X hM 2 (t := 0) (b := 200) (n := 480) rfl f_X5_16 dX5_record_19 ?_
        refine aw_iload_n X dX5_record_22 rfl ?_
        refine aw_aload_n X dX5_record_23 rfl ?_
        refine aw_fgetA X hM 2 (t := 0) (b := 200) (n := 480) rfl f_X5_16 dX5_record_24 ?_
        refine aw_bipush X (80) dX5_record_27 rfl ?_
        refine aw_iload_n X dX5_record_29 rfl ?_
        refine aw_iadd X dX5_record_30 ?_
        refine aw_top (nI (80 + k)) (ixn _ rfl) ?_
        refine aw_fiald X hM 2 (b := 200) (n := 480) rfl (200 + (80 + k)) (vp_in_nI (by omega) (by decide)) (by rw [nI_clamp (by omega)]) dX5_record_31 ?_
        refine aw_fiast X FM_a hM 2 (b := 200) (n := 480) rfl (200 + k) (vp_in_nI (by omega) (by decide)) (by rw [nI_clamp (by omega)]) dX5_record_32 (fun μ z_1 ez_1 hM => ?_)
        refine aw_iinc X (1) dX5_record_33 rfl rfl rfl (by decide) ?_
        refine aw_goto (tgt := 11) X dX5_record_36 (by decide) ?_
        refine aw_sub [some (.ref (ma 0)), some (.int (nI (k + 1)))] ⟨rfl, congrArg (fun q => some (Value.int q)) (nI_1 k), trivial⟩ ?_
        exact ih (k + 1) μ _ (by omega) (by subst ezc ez_1; exact xcp_st (by omega) (by omega) (by omega)) hM
    refine aw_sub [some (.ref (ma 0)), some (.int (nI 0))] ⟨rfl, rfl, trivial⟩ ?_
    exact loop (400) 0 μ _ (by omega) xcp_0 hM
  · skip
    refine aw_icmp_ne_t (tgt := 49) X dX5_record_6 (by decide) (by rw [hk9]; exact fun q => ek ((nI_eq (by omega) (by decide)).mp q)) ?_
    have hkl : kn ≤ 5 := by omega
    refine aw_iconst X (0) dX5_record_49 rfl ?_
    refine aw_istore_n X dX5_record_50 rfl (by decide) ?_
    have hk2 : m 940 = nI kn := hk9
    have loop : ∀ (d k : Nat) (μ : xH) (zc : xV) , k + d = 80 → zc = xcp m (200 + 80 * kn) 0 k → FR U μ0 μ ma 5 FM zc → AW U K 2 0 0 Q μ 51 [some (.ref (ma 0)), some (.int (nI k))] [] := by
      intro d
      induction d with
      | zero =>
        intro k μ zc hk ezc hM
        have hk : k = 80 := by omega
        subst hk
        refine aw_iload_n X dX5_record_51 rfl ?_
        refine aw_bipush X (80) dX5_record_52 rfl ?_
        refine aw_icmp_ge_t (tgt := 83) X dX5_record_54 (by decide) (by decide) ?_
        refine aw_aload_n X dX5_record_83 rfl ?_
        refine aw_dup X dX5_record_84 rfl ?_
        refine aw_fgetI X hM 3 (t := 0) (b := 940) (n := 0) rfl f_X5_37 dX5_record_85 ?_
        refine aw_top (nI kn) (by rw [ezc, xcp_o (by omega)]; exact hk2) ?_
        refine aw_iconst X (1) dX5_record_88 rfl ?_
        refine aw_iadd X dX5_record_89 ?_
        refine aw_top (nI (kn + 1)) (nI_1 _) ?_
        refine aw_fput X FM_a hM 3 (b := 940) (n := 0) rfl f_X5_37 rfl (by decide +kernel) dX5_record_90 (fun μ z_1 ez_1 hM => ?_)
        exact aw_vret X hQ dX5_record_93 ⟨rfl, hM.to (by rw [ez_1, ezc, mRec, if_neg ek]; rfl)⟩
      | succ d ih =>
        intro k μ zc hk ezc hM
        refine aw_iload_n X dX5_record_51 rfl ?_
        refine aw_bipush X (80) dX5_record_52 rfl ?_
        refine aw_icmp_ge_f (tgt := 83) X dX5_record_54 (by decide) (xn_le (N := 80) (by omega) (by decide) rfl) ?_
        refine aw_aload_n X dX5_record_57 rfl ?_
        refine aw_fgetA X hM 2 (t := 0) (b := 200) (n := 480) rfl f_X5_16 dX5_record_58 ?_
        refine aw_bipush X (80) dX5_record_61 rfl ?_
        refine aw_aload_n X dX5_record_63 rfl ?_
        refine aw_fgetI X hM 3 (t := 0) (b := 940) (n := 0) rfl f_X5_37 dX5_record_64 ?_
        refine aw_top (nI kn) (by rw [ezc, xcp_o (by omega)]; exact hk2) ?_
        refine aw_imul X dX5_record_67 ?_
        refine aw_top (nI (80 * kn)) (ixm _ rfl) ?_
        refine aw_iload_n X dX5_record_68 rfl ?_
        refine aw_iadd X dX5_record_69 ?_
        refine aw_top (nI (80 * kn + k)) (ixn _ rfl) ?_
        refine aw_aload_n X dX5_record_70 rfl ?_
        refine aw_fgetA X hM 0 (t := 0) (b := 0) (n := 80) rfl f_X5_7 dX5_record_71 ?_
        refine aw_iload_n X dX5_record_74 rfl ?_
        refine aw_fiald X hM 0 (b := 0) (n := 80) rfl (k) (vp_in_nI (by omega) (by decide)) (by rw [nI_clamp (by omega), Nat.zero_add]) dX5_record_75 ?_
        refine aw_fiast X FM_a hM 2 (b := 200) (n := 480) rfl (200 + (80 * kn + k)) (vp_in_nI (by omega) (by decide)) (by rw [nI_clamp (by omega)]) dX5_record_76 (fun μ z_1 ez_1 hM => ?_)
        refine aw_iinc X (1) dX5_record_77 rfl rfl rfl (by decide) ?_
        refine aw_goto (tgt := 51) X dX5_record_80 (by decide) ?_
        refine aw_sub [some (.ref (ma 0)), some (.int (nI (k + 1)))] ⟨rfl, congrArg (fun q => some (Value.int q)) (nI_1 k), trivial⟩ ?_
        exact ih (k + 1) μ _ (by omega) (by subst ezc ez_1; exact xcp_st (by omega) (by omega) (by omega)) hM
    refine aw_sub [some (.ref (ma 0)), some (.int (nI 0))] ⟨rfl, rfl, trivial⟩ ?_
    exact loop (80) 0 μ _ (by omega) xcp_0 hM

set_option maxHeartbeats 4000000 in
set_option maxRecDepth 100000 in
theorem c_X5_keepRow (l : Launch) (U : xU) (μ0 : xH) (ma : Nat → Nat) (m : xV) (hM0 : FRep U μ0 ma 5 FM m) : CtFK l U yX5_keepRow cX5_keepRow 2 none ({ frames := 0, cells := 0, slots := 0, locals := 0 } : Room) [.ref (ma 0)] μ0 ma 5 FM (xcp m 100 0 80) := by
  refine Ct.of [some (.ref (ma 0)), none] (by decide +kernel) rfl (Nat.le_of_ble_eq_true rfl) (fun K Q X hnm hQ => ?_)
  obtain ⟨μ, hμ, hM⟩ : ∃ μ : xH, μ0 = μ ∧ FR U μ0 μ ma 5 FM m := ⟨μ0, rfl, FR.rf hM0⟩
  refine aw_mu hμ ?_
  refine aw_iconst X (0) dX5_keepRow_0 rfl ?_
  refine aw_istore_n X dX5_keepRow_1 rfl (by decide) ?_
  have loop : ∀ (d k : Nat) (μ : xH) (zc : xV) , k + d = 80 → zc = xcp m 100 0 k → FR U μ0 μ ma 5 FM zc → AW U K 2 0 0 Q μ 2 [some (.ref (ma 0)), some (.int (nI k))] [] := by
    intro d
    induction d with
    | zero =>
      intro k μ zc hk ezc hM
      have hk : k = 80 := by omega
      subst hk
      refine aw_iload_n X dX5_keepRow_2 rfl ?_
      refine aw_bipush X (80) dX5_keepRow_3 rfl ?_
      refine aw_icmp_ge_t (tgt := 26) X dX5_keepRow_5 (by decide) (by decide) ?_
      exact aw_vret X hQ dX5_keepRow_26 ⟨rfl, hM.to ezc⟩
    | succ d ih =>
      intro k μ zc hk ezc hM
      refine aw_iload_n X dX5_keepRow_2 rfl ?_
      refine aw_bipush X (80) dX5_keepRow_3 rfl ?_
      refine aw_icmp_ge_f (tgt := 26) X dX5_keepRow_5 (by decide) (xn_le (N := 80) (by omega) (by decide) rfl) ?_
      refine aw_aload_n X dX5_keepRow_8 rfl ?_
      refine aw_fgetA X hM 1 (t := 0) (b := 100) (n := 80) rfl f_X5_13 dX5_keepRow_9 ?_
      refine aw_iload_n X dX5_keepRow_12 rfl ?_
      refine aw_aload_n X dX5_keepRow_13 rfl ?_
      refine aw_fgetA X hM 0 (t := 0) (b := 0) (n := 80) rfl f_X5_7 dX5_keepRow_14 ?_
      refine aw_iload_n X dX5_keepRow_17 rfl ?_
      refine aw_fiald X hM 0 (b := 0) (n := 80) rfl (k) (vp_in_nI (by omega) (by decide)) (by rw [nI_clamp (by omega), Nat.zero_add]) dX5_keepRow_18 ?_
      refine aw_fiast X FM_a hM 1 (b := 100) (n := 80) rfl (100 + k) (vp_in_nI (by omega) (by decide)) (by rw [nI_clamp (by omega)]) dX5_keepRow_19 (fun μ z_1 ez_1 hM => ?_)
      refine aw_iinc X (1) dX5_keepRow_20 rfl rfl rfl (by decide) ?_
      refine aw_goto (tgt := 2) X dX5_keepRow_23 (by decide) ?_
      refine aw_sub [some (.ref (ma 0)), some (.int (nI (k + 1)))] ⟨rfl, congrArg (fun q => some (Value.int q)) (nI_1 k), trivial⟩ ?_
      exact ih (k + 1) μ _ (by omega) (by subst ezc ez_1; exact xcp_st (by omega) (by omega) (by omega)) hM
  refine aw_sub [some (.ref (ma 0)), some (.int (nI 0))] ⟨rfl, rfl, trivial⟩ ?_
  exact loop (80) 0 μ _ (by omega) xcp_0 hM

set_option maxHeartbeats 4000000 in
set_option maxRecDepth 100000 in
theorem c_X5_putBack (l : Launch) (U : xU) (μ0 : xH) (ma : Nat → Nat) (m : xV) (hM0 : FRep U μ0 ma 5 FM m) : CtFK l U yX5_putBack cX5_putBack 2 none ({ frames := 0, cells := 0, slots := 0, locals := 0 } : Room) [.ref (ma 0)] μ0 ma 5 FM (xcp m 0 100 80) := by
  refine Ct.of [some (.ref (ma 0)), none] (by decide +kernel) rfl (Nat.le_of_ble_eq_true rfl) (fun K Q X hnm hQ => ?_)
  obtain ⟨μ, hμ, hM⟩ : ∃ μ : xH, μ0 = μ ∧ FR U μ0 μ ma 5 FM m := ⟨μ0, rfl, FR.rf hM0⟩
  refine aw_mu hμ ?_
  refine aw_iconst X (0) dX5_putBack_0 rfl ?_
  refine aw_istore_n X dX5_putBack_1 rfl (by decide) ?_
  have loop : ∀ (d k : Nat) (μ : xH) (zc : xV) , k + d = 80 → zc = xcp m 0 100 k → FR U μ0 μ ma 5 FM zc → AW U K 2 0 0 Q μ 2 [some (.ref (ma 0)), some (.int (nI k))] [] := by
    intro d
    induction d with
    | zero =>
      intro k μ zc hk ezc hM
      have hk : k = 80 := by omega
      subst hk
      refine aw_iload_n X dX5_putBack_2 rfl ?_
      refine aw_bipush X (80) dX5_putBack_3 rfl ?_
      refine aw_icmp_ge_t (tgt := 26) X dX5_putBack_5 (by decide) (by decide) ?_
      exact aw_vret X hQ dX5_putBack_26 ⟨rfl, hM.to ezc⟩
    | succ d ih =>
      intro k μ zc hk ezc hM
      refine aw_iload_n X dX5_putBack_2 rfl ?_
      refine aw_bipush X (80) dX5_putBack_3 rfl ?_
      refine aw_icmp_ge_f (tgt := 26) X dX5_putBack_5 (by decide) (xn_le (N := 80) (by omega) (by decide) rfl) ?_
      refine aw_aload_n X dX5_putBack_8 rfl ?_
      refine aw_fgetA X hM 0 (t := 0) (b := 0) (n := 80) rfl f_X5_7 dX5_putBack_9 ?_
      refine aw_iload_n X dX5_putBack_12 rfl ?_
      refine aw_aload_n X dX5_putBack_13 rfl ?_
      refine aw_fgetA X hM 1 (t := 0) (b := 100) (n := 80) rfl f_X5_13 dX5_putBack_14 ?_
      refine aw_iload_n X dX5_putBack_17 rfl ?_
      refine aw_fiald X hM 1 (b := 100) (n := 80) rfl (100 + k) (vp_in_nI (by omega) (by decide)) (by rw [nI_clamp (by omega)]) dX5_putBack_18 ?_
      refine aw_fiast X FM_a hM 0 (b := 0) (n := 80) rfl (k) (vp_in_nI (by omega) (by decide)) (by rw [nI_clamp (by omega), Nat.zero_add]) dX5_putBack_19 (fun μ z_1 ez_1 hM => ?_)
      refine aw_iinc X (1) dX5_putBack_20 rfl rfl rfl (by decide) ?_
      refine aw_goto (tgt := 2) X dX5_putBack_23 (by decide) ?_
      refine aw_sub [some (.ref (ma 0)), some (.int (nI (k + 1)))] ⟨rfl, congrArg (fun q => some (Value.int q)) (nI_1 k), trivial⟩ ?_
      exact ih (k + 1) μ _ (by omega) (by subst ezc ez_1; exact xcp_st (by omega) (by omega) (by omega)) hM
  refine aw_sub [some (.ref (ma 0)), some (.int (nI 0))] ⟨rfl, rfl, trivial⟩ ?_
  exact loop (80) 0 μ _ (by omega) xcp_0 hM

def mUndo (m : xV) (kn : Nat) : Int32 × xV := if kn = 0 then (-100005, m) else (nI (kn - 1), xcp (upd m 940 (nI (kn - 1))) 0 (200 + 80 * (kn - 1)) 80)
set_option maxHeartbeats 4000000 in
set_option maxRecDepth 100000 in
theorem c_X5_undo (l : Launch) (U : xU) (μ0 : xH) (ma : Nat → Nat) (m : xV) (hM0 : FRep U μ0 ma 5 FM m) (kn : Nat) (hkn : kn ≤ 6) (hk9 : m 940 = nI kn) : CtFR l U yX5_undo cX5_undo 2 (some .int) ({ frames := 0, cells := 0, slots := 0, locals := 0 } : Room) [.ref (ma 0)] μ0 ma 5 FM (mUndo m kn).1 (mUndo m kn).2 := by
  refine Ct.of [some (.ref (ma 0)), none] (by decide +kernel) rfl (Nat.le_of_ble_eq_true rfl) (fun K Q X hnm hQ => ?_)
  obtain ⟨μ, hμ, hM⟩ : ∃ μ : xH, μ0 = μ ∧ FR U μ0 μ ma 5 FM m := ⟨μ0, rfl, FR.rf hM0⟩
  refine aw_mu hμ ?_
  refine aw_aload_n X dX5_undo_0 rfl ?_
  refine aw_fgetI X hM 3 (t := 0) (b := 940) (n := 0) rfl f_X5_37 dX5_undo_1 ?_
  by_cases ek : kn = 0
  · refine aw_if_ne_f (tgt := 10) X dX5_undo_4 (by decide) (by rw [hk9, ek]; decide) ?_
    refine aw_ldc X dX5_undo_7 a_X5_108 ?_
    exact aw_iret X hQ dX5_undo_9 ⟨congrArg (fun q => some (Value.int q)) (by rw [mUndo, if_pos ek]), hM.to (by rw [mUndo, if_pos ek])⟩
  · refine aw_if_ne_t (tgt := 10) X dX5_undo_4 (by decide) (by rw [hk9]; exact nI_ne0 (by omega) (by omega)) ?_
    obtain ⟨kp, rfl⟩ : ∃ kp, kn = kp + 1 := ⟨kn - 1, by omega⟩
    refine aw_aload_n X dX5_undo_10 rfl ?_
    refine aw_dup X dX5_undo_11 rfl ?_
    refine aw_fgetI X hM 3 (t := 0) (b := 940) (n := 0) rfl f_X5_37 dX5_undo_12 ?_
    refine aw_iconst X (1) dX5_undo_15 rfl ?_
    refine aw_isub X dX5_undo_16 ?_
    refine aw_top (nI kp) (by rw [hk9]; exact nI_pred kp) ?_
    refine aw_fput X FM_a hM 3 (b := 940) (n := 0) rfl f_X5_37 rfl (by decide +kernel) dX5_undo_17 (fun μ z_1 ez_1 hM => ?_)
    refine aw_iconst X (0) dX5_undo_20 rfl ?_
    refine aw_istore_n X dX5_undo_21 rfl (by decide) ?_
    have hk2 : z_1 940 = nI kp := by rw [ez_1, upd_s]
    have loop : ∀ (d k : Nat) (μ : xH) (zc : xV) , k + d = 80 → zc = xcp z_1 0 (200 + 80 * kp) k → FR U μ0 μ ma 5 FM zc → AW U K 2 0 0 Q μ 22 [some (.ref (ma 0)), some (.int (nI k))] [] := by
      intro d
      induction d with
      | zero =>
        intro k μ zc hk ezc hM
        have hk : k = 80 := by omega
        subst hk
        refine aw_iload_n X dX5_undo_22 rfl ?_
        refine aw_bipush X (80) dX5_undo_23 rfl ?_
        refine aw_icmp_ge_t (tgt := 54) X dX5_undo_25 (by decide) (by decide) ?_
        refine aw_aload_n X dX5_undo_54 rfl ?_
        refine aw_fgetI X hM 3 (t := 0) (b := 940) (n := 0) rfl f_X5_37 dX5_undo_55 ?_
        exact aw_iret X hQ dX5_undo_58 ⟨congrArg (fun q => some (Value.int q)) (by rw [ezc, xcp_o (by omega), hk2, mUndo, if_neg ek]; rfl), hM.to (by rw [ezc, ez_1, mUndo, if_neg ek]; rfl)⟩
      | succ d ih =>
        intro k μ zc hk ezc hM
        refine aw_iload_n X dX5_undo_22 rfl ?_
        refine aw_bipush X (80) dX5_undo_23 rfl ?_
        refine aw_icmp_ge_f (tgt := 54) X dX5_undo_25 (by decide) (xn_le (N := 80) (by omega) (by decide) rfl) ?_
        refine aw_aload_n X dX5_undo_28 rfl ?_
        refine aw_fgetA X hM 0 (t := 0) (b := 0) (n := 80) rfl f_X5_7 dX5_undo_29 ?_
        refine aw_iload_n X dX5_undo_32 rfl ?_
        refine aw_aload_n X dX5_undo_33 rfl ?_
        refine aw_fgetA X hM 2 (t := 0) (b := 200) (n := 480) rfl f_X5_16 dX5_undo_34 ?_
        refine aw_bipush X (80) dX5_undo_37 rfl ?_
        refine aw_aload_n X dX5_undo_39 rfl ?_
        refine aw_fgetI X hM 3 (t := 0) (b := 940) (n := 0) rfl f_X5_37 dX5_undo_40 ?_
        refine aw_top (nI kp) (by rw [ezc, xcp_o (by omega)]; exact hk2) ?_
        refine aw_imul X dX5_undo_43 ?_
        refine aw_top (nI (80 * kp)) (ixm _ rfl) ?_
        refine aw_iload_n X dX5_undo_44 rfl ?_
        refine aw_iadd X dX5_undo_45 ?_
        refine aw_top (nI (80 * kp + k)) (ixn _ rfl) ?_
        refine aw_fiald X hM 2 (b := 200) (n := 480) rfl (200 + (80 * kp + k)) (vp_in_nI (by omega) (by decide)) (by rw [nI_clamp (by omega)]) dX5_undo_46 ?_
        refine aw_fiast X FM_a hM 0 (b := 0) (n := 80) rfl (k) (vp_in_nI (by omega) (by decide)) (by rw [nI_clamp (by omega), Nat.zero_add]) dX5_undo_47 (fun μ z_2 ez_2 hM => ?_)
        refine aw_iinc X (1) dX5_undo_48 rfl rfl rfl (by decide) ?_
        refine aw_goto (tgt := 22) X dX5_undo_51 (by decide) ?_
        refine aw_sub [some (.ref (ma 0)), some (.int (nI (k + 1)))] ⟨rfl, congrArg (fun q => some (Value.int q)) (nI_1 k), trivial⟩ ?_
        exact ih (k + 1) μ _ (by omega) (by subst ezc ez_2; exact xcp_st (by omega) (by omega) (by omega)) hM
    refine aw_sub [some (.ref (ma 0)), some (.int (nI 0))] ⟨rfl, rfl, trivial⟩ ?_
    exact loop (80) 0 μ _ (by omega) xcp_0 hM

theorem isS_in {x : Int32} (h : (decide (0 ≤ x) && decide (x ≤ 1)) = true) : ∃ s, s < 2 ∧ x = nI s := by
  simp only [Bool.and_eq_true, decide_eq_true_eq] at h
  obtain ⟨j, hj, e⟩ := rgN (lo := 0) (hi := 1) (by decide) (by decide) h
  exact ⟨j, by omega, e.2⟩
theorem isS_eq (x : Int32) : (decide (0 ≤ x) && decide (x ≤ 1)) = isS x := by
  unfold isS
  have : x ≤ 1 ↔ x < 2 := by
    rw [i_le, i_lt]
    have e3 : (1 : Int32).toInt = 1 := rfl
    have e4 : (2 : Int32).toInt = 2 := rfl
    rw [e3, e4]
    exact ⟨fun h => by omega, fun h => by omega⟩
  rw [decide_eq_decide.mpr this]
theorem isS_tn {x : Int32} (h : isS x = true) : ∃ s, s < 2 ∧ x = nI s ∧ tn x = s := by
  rw [← isS_eq] at h
  obtain ⟨s, hs, e⟩ := isS_in h
  exact ⟨s, hs, e, by rw [e, tn, nI_clamp (by omega)]⟩
def mSave (m : xV) (s : Int32) : Int32 × xV := if isS s = false then (-100002, m) else (m 6, upd (xcp m (700 + 80 * tn s) 0 80) (860 + tn s) 1)
def mRest (m : xV) (kn : Nat) (s : Int32) : Int32 × xV := if isS s = false then (-100002, m) else if m (860 + tn s) = 0 then (-100005, m) else (m (700 + 80 * tn s + 6), xcp (mRec m kn) 0 (700 + 80 * tn s) 80)
set_option maxHeartbeats 4000000 in
set_option maxRecDepth 100000 in
theorem c_X5_save (l : Launch) (U : xU) (μ0 : xH) (ma : Nat → Nat) (m : xV) (hM0 : FRep U μ0 ma 5 FM m) (s : Int32) : CtFR l U yX5_save cX5_save 3 (some .int) ({ frames := 1, cells := 0, slots := 0, locals := 22 } : Room) [.ref (ma 0), .int s] μ0 ma 5 FM (mSave m s).1 (mSave m s).2 := by
  refine Ct.of [some (.ref (ma 0)), some (.int s), none] (by decide +kernel) rfl (Nat.le_of_ble_eq_true rfl) (fun K Q X hnm hQ => ?_)
  obtain ⟨μ, hμ, hM⟩ : ∃ μ : xH, μ0 = μ ∧ FR U μ0 μ ma 5 FM m := ⟨μ0, rfl, FR.rf hM0⟩
  refine aw_mu hμ ?_
  refine aw_iload_n X dX5_save_0 rfl ?_
  refine aw_iconst X (0) dX5_save_1 rfl ?_
  refine aw_iconst X (1) dX5_save_2 rfl ?_
  refine aw_cSF (As := [.int _, .int _, .int _]) X (c_X5_in (kl K) U _ _ _ _) s_X5_59 k_X5_in (by decide) ⟨rfl, rfl⟩ ⟨Nat.zero_le _, Nat.zero_le _⟩ rfl (by exact Nat.le_of_ble_eq_true rfl) dX5_save_3 ?_
  refine aw_top (bI (isS s)) (congrArg bI (isS_eq s)) ?_
  refine aw_b_ne (tgt := 12) X dX5_save_6 (by decide) (fun c6_1 => ?_) (fun c6_1 => ?_)
  · skip
    obtain ⟨sn, hsn, es, ets⟩ := isS_tn c6_1
    refine aw_iconst X (0) dX5_save_12 rfl ?_
    refine aw_istore_n X dX5_save_13 rfl (by decide) ?_
    subst es
    have loop : ∀ (d k : Nat) (μ : xH) (zc : xV) , k + d = 80 → zc = xcp m (700 + 80 * sn) 0 k → FR U μ0 μ ma 5 FM zc → AW U K 3 0 0 Q μ 14 [some (.ref (ma 0)), some (.int (nI sn)), some (.int (nI k))] [] := by
      intro d
      induction d with
      | zero =>
        intro k μ zc hk ezc hM
        have hk : k = 80 := by omega
        subst hk
        refine aw_iload_n X dX5_save_14 rfl ?_
        refine aw_bipush X (80) dX5_save_15 rfl ?_
        refine aw_icmp_ge_t (tgt := 43) X dX5_save_17 (by decide) (by decide) ?_
        refine aw_aload_n X dX5_save_43 rfl ?_
        refine aw_fgetA X hM 5 (t := 1) (b := 860) (n := 2) rfl f_X5_22 dX5_save_44 ?_
        refine aw_iload_n X dX5_save_47 rfl ?_
        refine aw_iconst X (1) dX5_save_48 rfl ?_
        refine aw_fzast X FM_a hM 5 (b := 860) (n := 2) rfl (860 + sn) (by decide) (vp_in_nI (by omega) (by decide)) (by rw [nI_clamp (by omega)]) dX5_save_49 (fun μ z_2 ez_2 hM => ?_)
        refine aw_aload_n X dX5_save_50 rfl ?_
        refine aw_fgetA X hM 0 (t := 0) (b := 0) (n := 80) rfl f_X5_7 dX5_save_51 ?_
        refine aw_bipush X (6) dX5_save_54 rfl ?_
        refine aw_fiald X hM 0 (b := 0) (n := 80) rfl 6 (xin_d rfl) (by decide) dX5_save_56 ?_
        exact aw_iret X hQ dX5_save_57 ⟨congrArg (fun q => some (Value.int q)) (by rw [mSave, if_neg (by rw [c6_1]; decide), ez_2, upd_n (by omega), ezc, xcp_o (by omega)]), hM.to (by rw [mSave, if_neg (by rw [c6_1]; decide), ets, ez_2, ezc])⟩
      | succ d ih =>
        intro k μ zc hk ezc hM
        refine aw_iload_n X dX5_save_14 rfl ?_
        refine aw_bipush X (80) dX5_save_15 rfl ?_
        refine aw_icmp_ge_f (tgt := 43) X dX5_save_17 (by decide) (xn_le (N := 80) (by omega) (by decide) rfl) ?_
        refine aw_aload_n X dX5_save_20 rfl ?_
        refine aw_fgetA X hM 4 (t := 0) (b := 700) (n := 160) rfl f_X5_19 dX5_save_21 ?_
        refine aw_bipush X (80) dX5_save_24 rfl ?_
        refine aw_iload_n X dX5_save_26 rfl ?_
        refine aw_imul X dX5_save_27 ?_
        refine aw_top (nI (80 * sn)) (ixm _ rfl) ?_
        refine aw_iload_n X dX5_save_28 rfl ?_
        refine aw_iadd X dX5_save_29 ?_
        refine aw_top (nI (80 * sn + k)) (ixn _ rfl) ?_
        refine aw_aload_n X dX5_save_30 rfl ?_
        refine aw_fgetA X hM 0 (t := 0) (b := 0) (n := 80) rfl f_X5_7 dX5_save_31 ?_
        refine aw_iload_n X dX5_save_34 rfl ?_
        refine aw_fiald X hM 0 (b := 0) (n := 80) rfl (k) (vp_in_nI (by omega) (by decide)) (by rw [nI_clamp (by omega), Nat.zero_add]) dX5_save_35 ?_
        refine aw_fiast X FM_a hM 4 (b := 700) (n := 160) rfl (700 + (80 * sn + k)) (vp_in_nI (by omega) (by decide)) (by rw [nI_clamp (by omega)]) dX5_save_36 (fun μ z_2 ez_2 hM => ?_)
        refine aw_iinc X (1) dX5_save_37 rfl rfl rfl (by decide) ?_
        refine aw_goto (tgt := 14) X dX5_save_40 (by decide) ?_
        refine aw_sub [some (.ref (ma 0)), some (.int (nI sn)), some (.int (nI (k + 1)))] ⟨rfl, rfl, congrArg (fun q => some (Value.int q)) (nI_1 k), trivial⟩ ?_
        exact ih (k + 1) μ _ (by omega) (by subst ezc ez_2; exact xcp_st (by omega) (by omega) (by omega)) hM
    refine aw_sub [some (.ref (ma 0)), some (.int (nI sn)), some (.int (nI 0))] ⟨rfl, rfl, rfl, trivial⟩ ?_
    exact loop (80) 0 μ _ (by omega) xcp_0 hM
  · skip
    refine aw_ldc X dX5_save_9 a_X5_99 ?_
    exact aw_iret X hQ dX5_save_11 ⟨congrArg (fun q => some (Value.int q)) (by rw [mSave, if_pos c6_1]), hM.to (by rw [mSave, if_pos c6_1])⟩

set_option maxHeartbeats 4000000 in
set_option maxRecDepth 100000 in
theorem c_X5_restore (l : Launch) (U : xU) (μ0 : xH) (ma : Nat → Nat) (m : xV) (hM0 : FRep U μ0 ma 5 FM m) (kn : Nat) (hkn : kn ≤ 6) (hk9 : m 940 = nI kn) (s : Int32) : CtFR l U yX5_restore cX5_restore 3 (some .int) ({ frames := 1, cells := 0, slots := 0, locals := 22 } : Room) [.ref (ma 0), .int s] μ0 ma 5 FM (mRest m kn s).1 (mRest m kn s).2 := by
  refine Ct.of [some (.ref (ma 0)), some (.int s), none] (by decide +kernel) rfl (Nat.le_of_ble_eq_true rfl) (fun K Q X hnm hQ => ?_)
  obtain ⟨μ, hμ, hM⟩ : ∃ μ : xH, μ0 = μ ∧ FR U μ0 μ ma 5 FM m := ⟨μ0, rfl, FR.rf hM0⟩
  refine aw_mu hμ ?_
  refine aw_iload_n X dX5_restore_0 rfl ?_
  refine aw_iconst X (0) dX5_restore_1 rfl ?_
  refine aw_iconst X (1) dX5_restore_2 rfl ?_
  refine aw_cSF (As := [.int _, .int _, .int _]) X (c_X5_in (kl K) U _ _ _ _) s_X5_59 k_X5_in (by decide) ⟨rfl, rfl⟩ ⟨Nat.zero_le _, Nat.zero_le _⟩ rfl (by exact Nat.le_of_ble_eq_true rfl) dX5_restore_3 ?_
  refine aw_top (bI (isS s)) (congrArg bI (isS_eq s)) ?_
  refine aw_b_ne (tgt := 12) X dX5_restore_6 (by decide) (fun c6_1 => ?_) (fun c6_1 => ?_)
  · skip
    obtain ⟨sn, hsn, es, ets⟩ := isS_tn c6_1
    subst es
    refine aw_aload_n X dX5_restore_12 rfl ?_
    refine aw_fgetA X hM 5 (t := 1) (b := 860) (n := 2) rfl f_X5_22 dX5_restore_13 ?_
    refine aw_iload_n X dX5_restore_16 rfl ?_
    refine aw_fzald X hM 5 (b := 860) (n := 2) rfl (860 + sn) (vp_in_nI (by omega) (by decide)) (by rw [nI_clamp (by omega)]) dX5_restore_17 ?_
    refine aw_if_ne (tgt := 24) X dX5_restore_18 (by decide) (fun c18_2 => ?_) (fun c18_2 => ?_)
    · skip
      refine aw_aload_n X dX5_restore_24 rfl ?_
      refine aw_cVFK (As := []) X hM (c_X5_record (kl K) U _ ma _ hM.1 kn hkn hk9) s_X5_100 k_X5_record (by decide) ⟨rfl, rfl⟩ ⟨Nat.zero_le _, Nat.zero_le _⟩ rfl (by exact Nat.le_of_ble_eq_true rfl) rfl dX5_restore_25 (fun μ z_3 ez_3 hM => ?_)
      refine aw_iconst X (0) dX5_restore_28 rfl ?_
      refine aw_istore_n X dX5_restore_29 rfl (by decide) ?_
      have loop : ∀ (d k : Nat) (μ : xH) (zc : xV) , k + d = 80 → zc = xcp z_3 0 (700 + 80 * sn) k → FR U μ0 μ ma 5 FM zc → AW U K 3 0 0 Q μ 30 [some (.ref (ma 0)), some (.int (nI sn)), some (.int (nI k))] [] := by
        intro d
        induction d with
        | zero =>
          intro k μ zc hk ezc hM
          have hk : k = 80 := by omega
          subst hk
          refine aw_iload_n X dX5_restore_30 rfl ?_
          refine aw_bipush X (80) dX5_restore_31 rfl ?_
          refine aw_icmp_ge_t (tgt := 59) X dX5_restore_33 (by decide) (by decide) ?_
          refine aw_aload_n X dX5_restore_59 rfl ?_
          refine aw_fgetA X hM 0 (t := 0) (b := 0) (n := 80) rfl f_X5_7 dX5_restore_60 ?_
          refine aw_bipush X (6) dX5_restore_63 rfl ?_
          refine aw_fiald X hM 0 (b := 0) (n := 80) rfl 6 (xin_d rfl) (by decide) dX5_restore_65 ?_
          exact aw_iret X hQ dX5_restore_66 ⟨congrArg (fun q => some (Value.int q)) (by rw [mRest, if_neg (by rw [c6_1]; decide), ets, if_neg c18_2, ezc]; show xcp z_3 0 (700 + 80 * sn) 80 (0 + 6) = _; rw [xcp_i (by omega), ez_3, mRec_lt hkn (by omega)]), hM.to (by rw [mRest, if_neg (by rw [c6_1]; decide), ets, if_neg c18_2, ezc, ez_3])⟩
        | succ d ih =>
          intro k μ zc hk ezc hM
          refine aw_iload_n X dX5_restore_30 rfl ?_
          refine aw_bipush X (80) dX5_restore_31 rfl ?_
          refine aw_icmp_ge_f (tgt := 59) X dX5_restore_33 (by decide) (xn_le (N := 80) (by omega) (by decide) rfl) ?_
          refine aw_aload_n X dX5_restore_36 rfl ?_
          refine aw_fgetA X hM 0 (t := 0) (b := 0) (n := 80) rfl f_X5_7 dX5_restore_37 ?_
          refine aw_iload_n X dX5_restore_40 rfl ?_
          refine aw_aload_n X dX5_restore_41 rfl ?_
          refine aw_fgetA X hM 4 (t := 0) (b := 700) (n := 160) rfl f_X5_19 dX5_restore_42 ?_
          refine aw_bipush X (80) dX5_restore_45 rfl ?_
          refine aw_iload_n X dX5_restore_47 rfl ?_
          refine aw_imul X dX5_restore_48 ?_
          refine aw_top (nI (80 * sn)) (ixm _ rfl) ?_
          refine aw_iload_n X dX5_restore_49 rfl ?_
          refine aw_iadd X dX5_restore_50 ?_
          refine aw_top (nI (80 * sn + k)) (ixn _ rfl) ?_
          refine aw_fiald X hM 4 (b := 700) (n := 160) rfl (700 + (80 * sn + k)) (vp_in_nI (by omega) (by decide)) (by rw [nI_clamp (by omega)]) dX5_restore_51 ?_
          refine aw_fiast X FM_a hM 0 (b := 0) (n := 80) rfl (k) (vp_in_nI (by omega) (by decide)) (by rw [nI_clamp (by omega), Nat.zero_add]) dX5_restore_52 (fun μ z_4 ez_4 hM => ?_)
          refine aw_iinc X (1) dX5_restore_53 rfl rfl rfl (by decide) ?_
          refine aw_goto (tgt := 30) X dX5_restore_56 (by decide) ?_
          refine aw_sub [some (.ref (ma 0)), some (.int (nI sn)), some (.int (nI (k + 1)))] ⟨rfl, rfl, congrArg (fun q => some (Value.int q)) (nI_1 k), trivial⟩ ?_
          exact ih (k + 1) μ _ (by omega) (by subst ezc ez_4; exact xcp_st (by omega) (by omega) (by omega)) hM
      refine aw_sub [some (.ref (ma 0)), some (.int (nI sn)), some (.int (nI 0))] ⟨rfl, rfl, rfl, trivial⟩ ?_
      exact loop (80) 0 μ _ (by omega) xcp_0 hM
    · skip
      refine aw_ldc X dX5_restore_21 a_X5_108 ?_
      exact aw_iret X hQ dX5_restore_23 ⟨congrArg (fun q => some (Value.int q)) (by rw [mRest, if_neg (by rw [c6_1]; decide), ets, if_pos c18_2]), hM.to (by rw [mRest, if_neg (by rw [c6_1]; decide), ets, if_pos c18_2])⟩
  · skip
    refine aw_ldc X dX5_restore_9 a_X5_99 ?_
    exact aw_iret X hQ dX5_restore_11 ⟨congrArg (fun q => some (Value.int q)) (by rw [mRest, if_pos c6_1]), hM.to (by rw [mRest, if_pos c6_1])⟩
