set_option maxHeartbeats 4000000 in
set_option maxRecDepth 100000 in
theorem c_X2_next (l : Launch) (U : xU) (μ0 : xH) (pa : Nat → Nat) (p : xV) (hP0 : FRep U μ0 pa 2 FP p) (n a : Nat) (hpat : pat p n a) : CtF l U yX2_next cX2_next 1 (some .char) ({ frames := 0, cells := 0, slots := 0, locals := 0 } : Room) [.ref (pa 0)] μ0 (ch p n a) := by
  refine Ct.of [some (.ref (pa 0))] (by decide +kernel) rfl (Nat.le_of_ble_eq_true rfl) (fun K Q X hnm hQ => ?_)
  have hP := FR.rf hP0
  obtain ⟨h60, h61, hn60, han⟩ := hpat
  refine aw_aload_n X dX2_next_0 rfl ?_
  refine aw_fgetI X hP 2 (t := 0) (b := 61) (n := 0) rfl f_X2_19 dX2_next_1 ?_
  refine aw_if_lt_f (tgt := 42) X dX2_next_4 (by decide) (by rw [h61]; exact nI_pos (by omega)) ?_
  refine aw_aload_n X dX2_next_7 rfl ?_
  refine aw_fgetI X hP 2 (t := 0) (b := 61) (n := 0) rfl f_X2_19 dX2_next_8 ?_
  refine aw_aload_n X dX2_next_11 rfl ?_
  refine aw_fgetI X hP 1 (t := 0) (b := 60) (n := 0) rfl f_X2_15 dX2_next_12 ?_
  refine aw_icmp_ge (tgt := 42) X dX2_next_15 (by decide) (fun c15_1 => ?_) (fun c15_1 => ?_)
  · skip
    refine aw_iconst X (0) dX2_next_42 rfl ?_
    exact aw_zret X rfl hQ dX2_next_43 ⟨congrArg (fun q => some (Value.int q)) ((if_neg (fun h => by rw [h60, h61] at c15_1; exact nI_ge h (by omega) c15_1)).symm), rfl⟩
  · skip
    have hlt : a < n := Nat.not_le.mp (fun h => c15_1 (by rw [h60, h61]; exact nI_le h (by omega)))
    have hc : ch p n a = p (0 + a) := by rw [ch, if_pos hlt, Nat.zero_add]
    refine aw_aload_n X dX2_next_18 rfl ?_
    refine aw_fgetI X hP 2 (t := 0) (b := 61) (n := 0) rfl f_X2_19 dX2_next_19 ?_
    refine aw_aload_n X dX2_next_22 rfl ?_
    refine aw_fgetA X hP 0 (t := 2) (b := 0) (n := 60) rfl f_X2_9 dX2_next_23 ?_
    refine aw_flen X hP 0 (t := 2) (b := 0) (n := 60) rfl rfl (v := 60) rfl dX2_next_26 ?_
    refine aw_icmp_ge_f (tgt := 42) X dX2_next_27 (by decide) (by rw [h61]; exact xn_le (N := 60) (by omega) (by decide) rfl) ?_
    refine aw_aload_n X dX2_next_30 rfl ?_
    refine aw_fgetA X hP 0 (t := 2) (b := 0) (n := 60) rfl f_X2_9 dX2_next_31 ?_
    refine aw_aload_n X dX2_next_34 rfl ?_
    refine aw_fgetI X hP 2 (t := 0) (b := 61) (n := 0) rfl f_X2_19 dX2_next_35 ?_
    refine aw_fcald X hP 0 (b := 0) (n := 60) rfl (0 + a) (by rw [h61]; exact vp_in_nI (by omega) (by decide)) (by rw [h61, nI_clamp (by omega)]) dX2_next_38 ?_
    refine aw_goto (tgt := 43) X dX2_next_39 (by decide) ?_
    exact aw_zret X (hc ▸ ((hP.gc (k := 0) (t := 2) (b := 0) (n := 60) rfl (j := a) (by omega)).2 rfl)) hQ dX2_next_43 ⟨congrArg (fun q => some (Value.int q)) hc.symm, rfl⟩

set_option maxHeartbeats 4000000 in
set_option maxRecDepth 100000 in
theorem c_X2_readNumber (l : Launch) (U : xU) (μ0 : xH) (pa : Nat → Nat) (p : xV) (hP0 : FRep U μ0 pa 2 FP p) (n a0 : Nat) (hpat : pat p n a0) (most : Int32) : CtFR l U yX2_readNumber cX2_readNumber 5 (some .int) ({ frames := 1, cells := 0, slots := 0, locals := 20 } : Room) [.ref (pa 0), .int most] μ0 pa 2 FP (rNum p n most (n - a0) a0 0).1 (upd p 61 (nI (rNum p n most (n - a0) a0 0).2)) := by
  refine Ct.of [some (.ref (pa 0)), some (.int most), none, none, none] (by decide +kernel) rfl (Nat.le_of_ble_eq_true rfl) (fun K Q X hnm hQ => ?_)
  obtain ⟨μ, hμ, hP⟩ : ∃ μ : xH, μ0 = μ ∧ FR U μ0 μ pa 2 FP p := ⟨μ0, rfl, FR.rf hP0⟩
  refine aw_mu hμ ?_
  have hn60 := hpat.2.2.1
  have han := hpat.2.2.2
  refine aw_iconst X (0) dX2_readNumber_0 rfl ?_
  refine aw_istore_n X dX2_readNumber_1 rfl (by decide) ?_
  have loop : ∀ (d : Nat) (a : Nat) (num : Int32) (μ : xH) (pc : xV), a + d = n → pc = upd p 61 (nI a) → rNum p n most d a num = rNum p n most (n - a0) a0 0 → FR U μ0 μ pa 2 FP pc →AW U K 5 0 0 Q μ 2 [some (.ref (pa 0)), some (.int most), some (.int num), none, none] [] := by
    intro d
    induction d with
    | zero =>
      intro a num μ pc had ezc hr hP
      have h60 : pc 60 = nI n := by rw [ezc, upd_n (by decide)]; exact hpat.1
      have h61 : pc 61 = nI a := by rw [ezc]; exact upd_s
      refine aw_aload_n X dX2_readNumber_2 rfl ?_
      refine aw_fgetI X hP 2 (t := 0) (b := 61) (n := 0) rfl f_X2_19 dX2_readNumber_3 ?_
      refine aw_aload_n X dX2_readNumber_6 rfl ?_
      refine aw_fgetI X hP 1 (t := 0) (b := 60) (n := 0) rfl f_X2_15 dX2_readNumber_7 ?_
      refine aw_icmp_ge_t (tgt := 71) X dX2_readNumber_10 (by decide) (by rw [h60, h61]; exact nI_le (by omega) (by omega)) ?_
      refine aw_iload_n X dX2_readNumber_71 rfl ?_
      rw [rNum] at hr
      exact aw_iret X hQ dX2_readNumber_72 ⟨congrArg (fun q => some (Value.int q)) (by rw [← hr]), hP.to (by rw [← hr, ezc])⟩
    | succ d ih =>
      intro a num μ pc had ezc hr hP
      have h60 : pc 60 = nI n := by rw [ezc, upd_n (by decide)]; exact hpat.1
      have h61 : pc 61 = nI a := by rw [ezc]; exact upd_s
      refine aw_aload_n X dX2_readNumber_2 rfl ?_
      refine aw_fgetI X hP 2 (t := 0) (b := 61) (n := 0) rfl f_X2_19 dX2_readNumber_3 ?_
      refine aw_aload_n X dX2_readNumber_6 rfl ?_
      refine aw_fgetI X hP 1 (t := 0) (b := 60) (n := 0) rfl f_X2_15 dX2_readNumber_7 ?_
      refine aw_icmp_ge_f (tgt := 71) X dX2_readNumber_10 (by decide) (by rw [h60, h61]; exact nI_ge (by omega) (by omega)) ?_
      refine aw_aload_n X dX2_readNumber_13 rfl ?_
      refine aw_cVFF (As := []) X hP (c_X2_next (kl K) U _ pa _ hP.1 n (a) ⟨h60, h61, hpat.2.2.1, by omega⟩) s_X2_55 k_X2_next (by decide) ⟨rfl, rfl⟩ ⟨Nat.zero_le _, Nat.zero_le _⟩ rfl (by exact Nat.le_of_ble_eq_true rfl) rfl dX2_readNumber_14 ?_
      refine aw_top (ch p n a) (by rw [ezc]; exact ch_up hpat.2.2.1 (by decide)) ?_
      refine aw_bipush X (48) dX2_readNumber_17 rfl ?_
      refine aw_isub X dX2_readNumber_19 ?_
      refine aw_istore_n X dX2_readNumber_20 rfl (by decide) ?_
      refine aw_iload_n X dX2_readNumber_21 rfl ?_
      refine aw_if_lt (tgt := 71) X dX2_readNumber_22 (by decide) (fun c22_1 => ?_) (fun c22_1 => ?_)
      · skip
        refine aw_iload_n X dX2_readNumber_71 rfl ?_
        rw [rNum, if_pos (Or.inl c22_1)] at hr
        exact aw_iret X hQ dX2_readNumber_72 ⟨congrArg (fun q => some (Value.int q)) (by rw [← hr]), hP.to (by rw [← hr, ezc])⟩
      · skip
        refine aw_iload_n X dX2_readNumber_25 rfl ?_
        refine aw_bipush X (9) dX2_readNumber_26 rfl ?_
        refine aw_icmp_le (tgt := 34) X dX2_readNumber_28 (by decide) (fun c28_2 => ?_) (fun c28_2 => ?_)
        · skip
          refine aw_bipush X (10) dX2_readNumber_34 rfl ?_
          refine aw_iload_n X dX2_readNumber_36 rfl ?_
          refine aw_imul X dX2_readNumber_37 ?_
          refine aw_iload_n X dX2_readNumber_38 rfl ?_
          refine aw_iadd X dX2_readNumber_39 ?_
          refine aw_istore X dX2_readNumber_40 rfl (by decide) ?_
          refine aw_iload X dX2_readNumber_42 rfl ?_
          refine aw_if_eq (tgt := 53) X dX2_readNumber_44 (by decide) (fun c44_3 => ?_) (fun c44_3 => ?_)
          · skip
            refine aw_iconst X (0) dX2_readNumber_53 rfl ?_
            rw [rNum, if_neg (fun q => q.elim c22_1 (Int32.not_lt.mpr c28_2)), if_pos (Or.inl c44_3)] at hr
            exact aw_iret X hQ dX2_readNumber_54 ⟨congrArg (fun q => some (Value.int q)) (by rw [← hr]), hP.to (by rw [← hr, ezc])⟩
          · skip
            refine aw_iload X dX2_readNumber_47 rfl ?_
            refine aw_iload_n X dX2_readNumber_49 rfl ?_
            refine aw_icmp_le (tgt := 55) X dX2_readNumber_50 (by decide) (fun c50_4 => ?_) (fun c50_4 => ?_)
            · skip
              refine aw_iload X dX2_readNumber_55 rfl ?_
              refine aw_istore_n X dX2_readNumber_57 rfl (by decide) ?_
              refine aw_aload_n X dX2_readNumber_58 rfl ?_
              refine aw_dup X dX2_readNumber_59 rfl ?_
              refine aw_fgetI X hP 2 (t := 0) (b := 61) (n := 0) rfl f_X2_19 dX2_readNumber_60 ?_
              refine aw_iconst X (1) dX2_readNumber_63 rfl ?_
              refine aw_iadd X dX2_readNumber_64 ?_
              refine aw_fput X FP_a hP 2 (b := 61) (n := 0) rfl f_X2_19 rfl (by decide +kernel) dX2_readNumber_65 (fun μ z_5 ez_5 hP => ?_)
              refine aw_goto (tgt := 2) X dX2_readNumber_68 (by decide) ?_
              refine aw_sub [some (.ref (pa 0)), some (.int most), some (.int (10 * num + (ch p n a - 48))), none, none] ⟨rfl, rfl, rfl, trivial⟩ ?_
              refine ih (a + 1) _ μ z_5 (by omega) (by subst ezc ez_5; exact upd_upd.trans (by rw [upd_s, nI_1])) ?_ hP
              rw [rNum, if_neg, if_neg] at hr
              · exact hr
              · rintro (q | q)
                · exact c44_3 q
                · exact (Int32.not_lt.mpr c50_4) q
              · rintro (q | q)
                · exact c22_1 q
                · exact (Int32.not_lt.mpr c28_2) q
            · skip
              refine aw_iconst X (0) dX2_readNumber_53 rfl ?_
              rw [rNum, if_neg (fun q => q.elim c22_1 (Int32.not_lt.mpr c28_2)), if_pos (Or.inr (Int32.not_le.mp c50_4))] at hr
              exact aw_iret X hQ dX2_readNumber_54 ⟨congrArg (fun q => some (Value.int q)) (by rw [← hr]), hP.to (by rw [← hr, ezc])⟩
        · skip
          refine aw_goto (tgt := 71) X dX2_readNumber_31 (by decide) ?_
          refine aw_iload_n X dX2_readNumber_71 rfl ?_
          rw [rNum, if_pos (Or.inr (Int32.not_le.mp c28_2))] at hr
          exact aw_iret X hQ dX2_readNumber_72 ⟨congrArg (fun q => some (Value.int q)) (by rw [← hr]), hP.to (by rw [← hr, ezc])⟩
  refine aw_sub [some (.ref (pa 0)), some (.int most), some (.int 0), none, none] ⟨rfl, rfl, rfl, trivial⟩ ?_
  exact loop (n - a0) a0 0 μ p (by omega) (upd_id hpat.2.1) rfl hP

set_option maxHeartbeats 4000000 in
set_option maxRecDepth 100000 in
theorem c_X2_readUnits (l : Launch) (U : xU) (μ0 : xH) (pa : Nat → Nat) (p : xV) (hP0 : FRep U μ0 pa 2 FP p) (n a0 : Nat) (hpat : pat p n a0) : CtFR l U yX2_readUnits cX2_readUnits 3 (some .boolean) ({ frames := 2, cells := 0, slots := 0, locals := 44 } : Room) [.ref (pa 0)] μ0 pa 2 FP (bI (pUn n 4 0 a0 p false).1) (pUn n 4 0 a0 p false).2.2 := by
  refine Ct.of [some (.ref (pa 0)), none, none] (by decide +kernel) rfl (Nat.le_of_ble_eq_true rfl) (fun K Q X hnm hQ => ?_)
  obtain ⟨μ, hμ, hP⟩ : ∃ μ : xH, μ0 = μ ∧ FR U μ0 μ pa 2 FP p := ⟨μ0, rfl, FR.rf hP0⟩
  refine aw_mu hμ ?_
  refine aw_iconst X (0) dX2_readUnits_0 rfl ?_
  refine aw_istore_n X dX2_readUnits_1 rfl (by decide) ?_
  refine aw_iconst X (0) dX2_readUnits_2 rfl ?_
  refine aw_istore_n X dX2_readUnits_3 rfl (by decide) ?_
  have loop : ∀ (d : Nat) (i a : Nat) (any : Bool) (μ : xH) (pc : xV), i + d = 4 → pat pc n a → pUn n d i a pc any = pUn n 4 0 a0 p false → FR U μ0 μ pa 2 FP pc →AW U K 3 0 0 Q μ 4 [some (.ref (pa 0)), some (.int (bI any)), some (.int (nI i))] [] := by
    intro d
    induction d with
    | zero =>
      intro i a any μ pc hid hpc hr hP
      obtain rfl : i = 4 := by omega
      refine aw_iload_n X dX2_readUnits_4 rfl ?_
      refine aw_iconst X (4) dX2_readUnits_5 rfl ?_
      refine aw_icmp_ge_t (tgt := 72) X dX2_readUnits_6 (by decide) (by decide) ?_
      refine aw_iload_n X dX2_readUnits_72 rfl ?_
      rw [pUn] at hr
      exact aw_zret X (bI_nar _) hQ dX2_readUnits_73 ⟨congrArg (fun q => some (Value.int q)) (by rw [← hr]), hP.to (by rw [← hr])⟩
    | succ d ih =>
      intro i a any μ pc hid hpc hr hP
      have han2 := hpc.2.2.2
      refine aw_iload_n X dX2_readUnits_4 rfl ?_
      refine aw_iconst X (4) dX2_readUnits_5 rfl ?_
      refine aw_icmp_ge_f (tgt := 72) X dX2_readUnits_6 (by decide) (xn_le (N := 4) (by omega) (by decide) rfl) ?_
      refine aw_aload_n X dX2_readUnits_9 rfl ?_
      refine aw_fgetA X hP 7 (t := 0) (b := 66) (n := 4) rfl f_X2_34 dX2_readUnits_10 ?_
      refine aw_iload_n X dX2_readUnits_13 rfl ?_
      refine aw_iconst X (0) dX2_readUnits_14 rfl ?_
      refine aw_fiast X FP_a hP 7 (b := 66) (n := 4) rfl (66 + i) (vp_in_nI (by omega) (by decide)) (by rw [nI_clamp (by omega)]) dX2_readUnits_15 (fun μ z_1 ez_1 hP => ?_)
      have hpz_1 : pat z_1 n (a) := by rw [ez_1]; exact pat_up (hpc) (by omega) (by omega)
      refine aw_aload_n X dX2_readUnits_16 rfl ?_
      refine aw_cVFF (As := []) X hP (c_X2_next (kl K) U _ pa _ hP.1 n (a) hpz_1) s_X2_55 k_X2_next (by decide) ⟨rfl, rfl⟩ ⟨Nat.zero_le _, Nat.zero_le _⟩ rfl (by exact Nat.le_of_ble_eq_true rfl) rfl dX2_readUnits_17 ?_
      refine aw_top (ch pc n a) (by rw [ez_1]; exact ch_up hpat.2.2.1 (by omega)) ?_
      refine aw_bipush X (97) dX2_readUnits_20 rfl ?_
      refine aw_isub X dX2_readUnits_22 ?_
      refine aw_iload_n X dX2_readUnits_23 rfl ?_
      refine aw_icmp_eq (tgt := 30) X dX2_readUnits_24 (by decide) (fun c24_2 => ?_) (fun c24_2 => ?_)
      · skip
        have hlt : a < n := ch97 (by omega) c24_2
        refine aw_aload_n X dX2_readUnits_30 rfl ?_
        refine aw_dup X dX2_readUnits_31 rfl ?_
        refine aw_fgetI X hP 2 (t := 0) (b := 61) (n := 0) rfl f_X2_19 dX2_readUnits_32 ?_
        refine aw_iconst X (1) dX2_readUnits_35 rfl ?_
        refine aw_iadd X dX2_readUnits_36 ?_
        refine aw_fput X FP_a hP 2 (b := 61) (n := 0) rfl f_X2_19 rfl (by decide +kernel) dX2_readUnits_37 (fun μ z_3 ez_3 hP => ?_)
        have ez_3b : z_3 = upd z_1 61 (nI (a + 1)) := by rw [ez_3, (hpz_1).2.1, nI_1]
        have hpz_3 : pat z_3 n (a + 1) := by rw [ez_3b]; exact pat_at (hpz_1) (by omega)
        refine aw_aload_n X dX2_readUnits_40 rfl ?_
        refine aw_fgetA X hP 7 (t := 0) (b := 66) (n := 4) rfl f_X2_34 dX2_readUnits_41 ?_
        refine aw_iload_n X dX2_readUnits_44 rfl ?_
        refine aw_aload_n X dX2_readUnits_45 rfl ?_
        refine aw_sipush X (400) dX2_readUnits_46 rfl ?_
        refine aw_cVFR (As := [.int _]) X hP (c_X2_readNumber (kl K) U _ pa _ hP.1 n (a + 1) hpz_3 _) s_X2_62 k_X2_readNumber (by decide) ⟨rfl, rfl⟩ ⟨Nat.zero_le _, Nat.zero_le _⟩ rfl (by exact Nat.le_of_ble_eq_true rfl) rfl dX2_readUnits_49 (fun μ z_4 ez_4 hP => ?_)
        have hpz_4 : pat z_4 n (rNum z_3 n 400 (n - (a + 1)) (a + 1) 0).2 := by rw [ez_4]; exact pat_at (hpz_3) (rNum_le _ _ _ (by omega)).2
        refine aw_fiast X FP_a hP 7 (b := 66) (n := 4) rfl (66 + i) (vp_in_nI (by omega) (by decide)) (by rw [nI_clamp (by omega)]) dX2_readUnits_52 (fun μ z_5 ez_5 hP => ?_)
        have hpz_5 : pat z_5 n ((rNum z_3 n 400 (n - (a + 1)) (a + 1) 0).2) := by rw [ez_5]; exact pat_up (hpz_4) (by omega) (by omega)
        refine aw_aload_n X dX2_readUnits_53 rfl ?_
        refine aw_fgetA X hP 7 (t := 0) (b := 66) (n := 4) rfl f_X2_34 dX2_readUnits_54 ?_
        refine aw_iload_n X dX2_readUnits_57 rfl ?_
        refine aw_fiald X hP 7 (b := 66) (n := 4) rfl (66 + i) (vp_in_nI (by omega) (by decide)) (by rw [nI_clamp (by omega)]) dX2_readUnits_58 ?_
        refine aw_top ((rNum z_3 n (400 : Int32) (n - (a + 1)) (a + 1) 0).1) (by rw [ez_5]; exact upd_s) ?_
        refine aw_if_ne (tgt := 64) X dX2_readUnits_59 (by decide) (fun c59_6 => ?_) (fun c59_6 => ?_)
        · skip
          refine aw_iconst X (1) dX2_readUnits_64 rfl ?_
          refine aw_istore_n X dX2_readUnits_65 rfl (by decide) ?_
          refine aw_iinc X (1) dX2_readUnits_66 rfl rfl rfl (by decide) ?_
          refine aw_goto (tgt := 4) X dX2_readUnits_69 (by decide) ?_
          refine aw_sub [some (.ref (pa 0)), some (.int (bI true)), some (.int (nI (i + 1)))] ⟨rfl, rfl, congrArg (fun q => some (Value.int q)) (nI_1 i), trivial⟩ ?_
          refine ih (i + 1) ((rNum z_3 n 400 (n - (a + 1)) (a + 1) 0).2) true μ z_5 (by omega) (hpz_5) ?_ hP
          subst ez_1 ez_3b ez_4 ez_5
          rw [pUn, if_pos c24_2] at hr
          dsimp only at hr
          rw [if_neg c59_6] at hr
          exact hr
        · skip
          refine aw_iconst X (0) dX2_readUnits_62 rfl ?_
          subst ez_1 ez_3b ez_4 ez_5
          rw [pUn, if_pos c24_2] at hr
          dsimp only at hr
          rw [if_pos c59_6] at hr
          exact aw_zret X rfl hQ dX2_readUnits_63 ⟨congrArg (fun q => some (Value.int q)) (by rw [← hr]; rfl), hP.to (by rw [← hr])⟩
      · skip
        refine aw_goto (tgt := 66) X dX2_readUnits_27 (by decide) ?_
        refine aw_iinc X (1) dX2_readUnits_66 rfl rfl rfl (by decide) ?_
        refine aw_goto (tgt := 4) X dX2_readUnits_69 (by decide) ?_
        refine aw_sub [some (.ref (pa 0)), some (.int (bI any)), some (.int (nI (i + 1)))] ⟨rfl, rfl, congrArg (fun q => some (Value.int q)) (nI_1 i), trivial⟩ ?_
        refine ih (i + 1) (a) any μ z_1 (by omega) (hpz_1) ?_ hP
        subst ez_1
        rw [pUn, if_neg c24_2] at hr
        exact hr
  refine aw_sub [some (.ref (pa 0)), some (.int (bI false)), some (.int (nI 0))] ⟨rfl, rfl, rfl, trivial⟩ ?_
  exact loop 4 0 a0 false μ p (by omega) hpat rfl hP

set_option maxHeartbeats 4000000 in
set_option maxRecDepth 100000 in
theorem c_X2_readHoseOrder (l : Launch) (U : xU) (μ0 : xH) (pa : Nat → Nat) (p : xV) (hP0 : FRep U μ0 pa 2 FP p) (n a : Nat) (hpat : pat p n a) : CtFR l U yX2_readHoseOrder cX2_readHoseOrder 1 (some .boolean) ({ frames := 1, cells := 0, slots := 0, locals := 20 } : Room) [.ref (pa 0)] μ0 pa 2 FP (bI (pHo p n a).1) (pHo p n a).2.2 := by
  refine Ct.of [some (.ref (pa 0))] (by decide +kernel) rfl (Nat.le_of_ble_eq_true rfl) (fun K Q X hnm hQ => ?_)
  have hP := FR.rf hP0
  refine aw_aload_n X dX2_readHoseOrder_0 rfl ?_
  refine aw_aload_n X dX2_readHoseOrder_1 rfl ?_
  refine aw_cVFF (As := []) X hP (c_X2_next (kl K) U _ pa _ hP.1 n (a) hpat) s_X2_55 k_X2_next (by decide) ⟨rfl, rfl⟩ ⟨Nat.zero_le _, Nat.zero_le _⟩ rfl (by exact Nat.le_of_ble_eq_true rfl) rfl dX2_readHoseOrder_2 ?_
  refine aw_fput X FP_a hP 3 (b := 62) (n := 0) rfl f_X2_22 rfl (by decide +kernel) dX2_readHoseOrder_5 (fun μ z_1 ez_1 hP => ?_)
  have hpz_1 : pat z_1 n (a) := by rw [ez_1]; exact pat_up (hpat) (by omega) (by omega)
  refine aw_aload_n X dX2_readHoseOrder_8 rfl ?_
  refine aw_fgetI X hP 3 (t := 0) (b := 62) (n := 0) rfl f_X2_22 dX2_readHoseOrder_9 ?_
  refine aw_top (ch p n a) (by subst ez_1; simp [upd]) ?_
  refine aw_bipush X (61) dX2_readHoseOrder_12 rfl ?_
  refine aw_icmp_eq (tgt := 37) X dX2_readHoseOrder_14 (by decide) (fun c14_2 => ?_) (fun c14_2 => ?_)
  · skip
    have hlt : a < n := ch_c c14_2 (by decide)
    refine aw_aload_n X dX2_readHoseOrder_37 rfl ?_
    refine aw_dup X dX2_readHoseOrder_38 rfl ?_
    refine aw_fgetI X hP 2 (t := 0) (b := 61) (n := 0) rfl f_X2_19 dX2_readHoseOrder_39 ?_
    refine aw_iconst X (1) dX2_readHoseOrder_42 rfl ?_
    refine aw_iadd X dX2_readHoseOrder_43 ?_
    refine aw_fput X FP_a hP 2 (b := 61) (n := 0) rfl f_X2_19 rfl (by decide +kernel) dX2_readHoseOrder_44 (fun μ z_3 ez_3 hP => ?_)
    have ez_3b : z_3 = upd z_1 61 (nI (a + 1)) := by rw [ez_3, (hpz_1).2.1, nI_1]
    have hpz_3 : pat z_3 n (a + 1) := by rw [ez_3b]; exact pat_at (hpz_1) (by omega)
    refine aw_aload_n X dX2_readHoseOrder_47 rfl ?_
    refine aw_fgetI X hP 3 (t := 0) (b := 62) (n := 0) rfl f_X2_22 dX2_readHoseOrder_48 ?_
    refine aw_top (ch p n a) (by subst ez_1 ez_3b; simp [upd]) ?_
    refine aw_bipush X (61) dX2_readHoseOrder_51 rfl ?_
    refine aw_icmp_eq_t (tgt := 58) X dX2_readHoseOrder_53 (by decide) c14_2 ?_
    refine aw_aload_n X dX2_readHoseOrder_58 rfl ?_
    refine aw_aload_n X dX2_readHoseOrder_59 rfl ?_
    refine aw_cVFF (As := []) X hP (c_X2_next (kl K) U _ pa _ hP.1 n (a + 1) hpz_3) s_X2_55 k_X2_next (by decide) ⟨rfl, rfl⟩ ⟨Nat.zero_le _, Nat.zero_le _⟩ rfl (by exact Nat.le_of_ble_eq_true rfl) rfl dX2_readHoseOrder_60 ?_
    refine aw_bipush X (97) dX2_readHoseOrder_63 rfl ?_
    refine aw_isub X dX2_readHoseOrder_65 ?_
    refine aw_fput X FP_a hP 5 (b := 64) (n := 0) rfl f_X2_28 rfl (by decide +kernel) dX2_readHoseOrder_66 (fun μ z_4 ez_4 hP => ?_)
    have hpz_4 : pat z_4 n (a + 1) := by rw [ez_4]; exact pat_up (hpz_3) (by omega) (by omega)
    refine aw_aload_n X dX2_readHoseOrder_69 rfl ?_
    refine aw_fgetI X hP 5 (t := 0) (b := 64) (n := 0) rfl f_X2_28 dX2_readHoseOrder_70 ?_
    refine aw_top (ch z_3 n (a + 1) - 97) (by rw [ez_4]; exact upd_s) ?_
    refine aw_cSNF (As := [.int _]) X (c_X4_isGrade (kl K) U _ _) s_X2_73 k_X4_isGrade (by decide) ⟨rfl, rfl⟩ ⟨Nat.zero_le _, Nat.zero_le _⟩ rfl (by exact Nat.le_of_ble_eq_true rfl) dX2_readHoseOrder_73 ?_
    refine aw_b_ne (tgt := 81) X dX2_readHoseOrder_76 (by decide) (fun c76_5 => ?_) (fun c76_5 => ?_)
    · skip
      have hlt2 : a + 1 < n := chG7 c76_5
      refine aw_aload_n X dX2_readHoseOrder_81 rfl ?_
      refine aw_dup X dX2_readHoseOrder_82 rfl ?_
      refine aw_fgetI X hP 2 (t := 0) (b := 61) (n := 0) rfl f_X2_19 dX2_readHoseOrder_83 ?_
      refine aw_iconst X (1) dX2_readHoseOrder_86 rfl ?_
      refine aw_iadd X dX2_readHoseOrder_87 ?_
      refine aw_fput X FP_a hP 2 (b := 61) (n := 0) rfl f_X2_19 rfl (by decide +kernel) dX2_readHoseOrder_88 (fun μ z_6 ez_6 hP => ?_)
      have ez_6b : z_6 = upd z_4 61 (nI (a + 1 + 1)) := by rw [ez_6, (hpz_4).2.1, nI_1]
      have hpz_6 : pat z_6 n (a + 1 + 1) := by rw [ez_6b]; exact pat_at (hpz_4) (by omega)
      refine aw_iconst X (1) dX2_readHoseOrder_91 rfl ?_
      exact aw_zret X rfl hQ dX2_readHoseOrder_92 ⟨congrArg (fun q => some (Value.int q)) (by subst ez_1 ez_3b ez_4 ez_6b; (try simp only [c14_2] at c76_5) <;> simp [pHo, c14_2, c76_5, bI]), hP.to (by subst ez_1 ez_3b ez_4 ez_6b; (try simp only [c14_2] at c76_5) <;> simp [pHo, c14_2, c76_5, bI])⟩
    · skip
      refine aw_iconst X (0) dX2_readHoseOrder_79 rfl ?_
      exact aw_zret X rfl hQ dX2_readHoseOrder_80 ⟨congrArg (fun q => some (Value.int q)) (by subst ez_1 ez_3b ez_4; (try simp only [c14_2] at c76_5) <;> simp [pHo, c14_2, c76_5, bI]), hP.to (by subst ez_1 ez_3b ez_4; (try simp only [c14_2] at c76_5) <;> simp [pHo, c14_2, c76_5, bI])⟩
  · skip
    refine aw_aload_n X dX2_readHoseOrder_17 rfl ?_
    refine aw_fgetI X hP 3 (t := 0) (b := 62) (n := 0) rfl f_X2_22 dX2_readHoseOrder_18 ?_
    refine aw_top (ch p n a) (by subst ez_1; simp [upd]) ?_
    refine aw_bipush X (45) dX2_readHoseOrder_21 rfl ?_
    refine aw_icmp_eq (tgt := 37) X dX2_readHoseOrder_23 (by decide) (fun c23_3 => ?_) (fun c23_3 => ?_)
    · skip
      have hlt : a < n := ch_c c23_3 (by decide)
      refine aw_aload_n X dX2_readHoseOrder_37 rfl ?_
      refine aw_dup X dX2_readHoseOrder_38 rfl ?_
      refine aw_fgetI X hP 2 (t := 0) (b := 61) (n := 0) rfl f_X2_19 dX2_readHoseOrder_39 ?_
      refine aw_iconst X (1) dX2_readHoseOrder_42 rfl ?_
      refine aw_iadd X dX2_readHoseOrder_43 ?_
      refine aw_fput X FP_a hP 2 (b := 61) (n := 0) rfl f_X2_19 rfl (by decide +kernel) dX2_readHoseOrder_44 (fun μ z_4 ez_4 hP => ?_)
      have ez_4b : z_4 = upd z_1 61 (nI (a + 1)) := by rw [ez_4, (hpz_1).2.1, nI_1]
      have hpz_4 : pat z_4 n (a + 1) := by rw [ez_4b]; exact pat_at (hpz_1) (by omega)
      refine aw_aload_n X dX2_readHoseOrder_47 rfl ?_
      refine aw_fgetI X hP 3 (t := 0) (b := 62) (n := 0) rfl f_X2_22 dX2_readHoseOrder_48 ?_
      refine aw_top (ch p n a) (by subst ez_1 ez_4b; simp [upd]) ?_
      refine aw_bipush X (61) dX2_readHoseOrder_51 rfl ?_
      refine aw_icmp_eq_f (tgt := 58) X dX2_readHoseOrder_53 (by decide) (by rw [c23_3]; decide) ?_
      refine aw_iconst X (1) dX2_readHoseOrder_56 rfl ?_
      exact aw_zret X rfl hQ dX2_readHoseOrder_57 ⟨congrArg (fun q => some (Value.int q)) (by subst ez_1 ez_4b; (try simp only [c14_2] at c23_3) <;> simp [pHo, c14_2, c23_3, bI]), hP.to (by subst ez_1 ez_4b; (try simp only [c14_2] at c23_3) <;> simp [pHo, c14_2, c23_3, bI])⟩
    · skip
      refine aw_aload_n X dX2_readHoseOrder_26 rfl ?_
      refine aw_fgetI X hP 3 (t := 0) (b := 62) (n := 0) rfl f_X2_22 dX2_readHoseOrder_27 ?_
      refine aw_top (ch p n a) (by subst ez_1; simp [upd]) ?_
      refine aw_bipush X (126) dX2_readHoseOrder_30 rfl ?_
      refine aw_icmp_eq (tgt := 37) X dX2_readHoseOrder_32 (by decide) (fun c32_4 => ?_) (fun c32_4 => ?_)
      · skip
        have hlt : a < n := ch_c c32_4 (by decide)
        refine aw_aload_n X dX2_readHoseOrder_37 rfl ?_
        refine aw_dup X dX2_readHoseOrder_38 rfl ?_
        refine aw_fgetI X hP 2 (t := 0) (b := 61) (n := 0) rfl f_X2_19 dX2_readHoseOrder_39 ?_
        refine aw_iconst X (1) dX2_readHoseOrder_42 rfl ?_
        refine aw_iadd X dX2_readHoseOrder_43 ?_
        refine aw_fput X FP_a hP 2 (b := 61) (n := 0) rfl f_X2_19 rfl (by decide +kernel) dX2_readHoseOrder_44 (fun μ z_5 ez_5 hP => ?_)
        have ez_5b : z_5 = upd z_1 61 (nI (a + 1)) := by rw [ez_5, (hpz_1).2.1, nI_1]
        have hpz_5 : pat z_5 n (a + 1) := by rw [ez_5b]; exact pat_at (hpz_1) (by omega)
        refine aw_aload_n X dX2_readHoseOrder_47 rfl ?_
        refine aw_fgetI X hP 3 (t := 0) (b := 62) (n := 0) rfl f_X2_22 dX2_readHoseOrder_48 ?_
        refine aw_top (ch p n a) (by subst ez_1 ez_5b; simp [upd]) ?_
        refine aw_bipush X (61) dX2_readHoseOrder_51 rfl ?_
        refine aw_icmp_eq_f (tgt := 58) X dX2_readHoseOrder_53 (by decide) (by rw [c32_4]; decide) ?_
        refine aw_iconst X (1) dX2_readHoseOrder_56 rfl ?_
        exact aw_zret X rfl hQ dX2_readHoseOrder_57 ⟨congrArg (fun q => some (Value.int q)) (by subst ez_1 ez_5b; (try simp only [c14_2] at c23_3) <;> (try simp only [c14_2] at c32_4) <;> (try simp only [c23_3] at c32_4) <;> simp [pHo, c14_2, c23_3, c32_4, bI]), hP.to (by subst ez_1 ez_5b; (try simp only [c14_2] at c23_3) <;> (try simp only [c14_2] at c32_4) <;> (try simp only [c23_3] at c32_4) <;> simp [pHo, c14_2, c23_3, c32_4, bI])⟩
      · skip
        refine aw_iconst X (0) dX2_readHoseOrder_35 rfl ?_
        exact aw_zret X rfl hQ dX2_readHoseOrder_36 ⟨congrArg (fun q => some (Value.int q)) (by subst ez_1; (try simp only [c14_2] at c23_3) <;> (try simp only [c14_2] at c32_4) <;> (try simp only [c23_3] at c32_4) <;> simp [pHo, c14_2, c23_3, c32_4, bI]), hP.to (by subst ez_1; (try simp only [c14_2] at c23_3) <;> (try simp only [c14_2] at c32_4) <;> (try simp only [c23_3] at c32_4) <;> simp [pHo, c14_2, c23_3, c32_4, bI])⟩

set_option maxHeartbeats 4000000 in
set_option maxRecDepth 100000 in
theorem c_X2_readOrder (l : Launch) (U : xU) (μ0 : xH) (pa : Nat → Nat) (p : xV) (hP0 : FRep U μ0 pa 2 FP p) (n a : Nat) (hpat : pat p n a) : CtFR l U yX2_readOrder cX2_readOrder 1 (some .boolean) ({ frames := 3, cells := 0, slots := 0, locals := 66 } : Room) [.ref (pa 0)] μ0 pa 2 FP (bI (pOrd p n a).1) (pOrd p n a).2.2 := by
  refine Ct.of [some (.ref (pa 0))] (by decide +kernel) rfl (Nat.le_of_ble_eq_true rfl) (fun K Q X hnm hQ => ?_)
  have hP := FR.rf hP0
  refine aw_aload_n X dX2_readOrder_0 rfl ?_
  refine aw_aload_n X dX2_readOrder_1 rfl ?_
  refine aw_cVFF (As := []) X hP (c_X2_next (kl K) U _ pa _ hP.1 n (a) hpat) s_X2_55 k_X2_next (by decide) ⟨rfl, rfl⟩ ⟨Nat.zero_le _, Nat.zero_le _⟩ rfl (by exact Nat.le_of_ble_eq_true rfl) rfl dX2_readOrder_2 ?_
  refine aw_fput X FP_a hP 3 (b := 62) (n := 0) rfl f_X2_22 rfl (by decide +kernel) dX2_readOrder_5 (fun μ z_1 ez_1 hP => ?_)
  have hpz_1 : pat z_1 n (a) := by rw [ez_1]; exact pat_up (hpat) (by omega) (by omega)
  refine aw_aload_n X dX2_readOrder_8 rfl ?_
  refine aw_fgetI X hP 3 (t := 0) (b := 62) (n := 0) rfl f_X2_22 dX2_readOrder_9 ?_
  refine aw_top (ch p n a) (by subst ez_1; simp [upd]) ?_
  refine aw_bipush X (43) dX2_readOrder_12 rfl ?_
  refine aw_icmp_ne (tgt := 32) X dX2_readOrder_14 (by decide) (fun c14_2 => ?_) (fun c14_2 => ?_)
  · skip
    refine aw_aload_n X dX2_readOrder_32 rfl ?_
    refine aw_fgetI X hP 3 (t := 0) (b := 62) (n := 0) rfl f_X2_22 dX2_readOrder_33 ?_
    refine aw_top (ch p n a) (by subst ez_1; simp [upd]) ?_
    refine aw_bipush X (46) dX2_readOrder_36 rfl ?_
    refine aw_icmp_ne (tgt := 74) X dX2_readOrder_38 (by decide) (fun c38_3 => ?_) (fun c38_3 => ?_)
    · skip
      refine aw_aload_n X dX2_readOrder_74 rfl ?_
      refine aw_aload_n X dX2_readOrder_75 rfl ?_
      refine aw_fgetI X hP 3 (t := 0) (b := 62) (n := 0) rfl f_X2_22 dX2_readOrder_76 ?_
      refine aw_top (ch p n a) (by subst ez_1; simp [upd]) ?_
      refine aw_bipush X (48) dX2_readOrder_79 rfl ?_
      refine aw_isub X dX2_readOrder_81 ?_
      refine aw_fput X FP_a hP 4 (b := 63) (n := 0) rfl f_X2_25 rfl (by decide +kernel) dX2_readOrder_82 (fun μ z_4 ez_4 hP => ?_)
      have hpz_4 : pat z_4 n (a) := by rw [ez_4]; exact pat_up (hpz_1) (by omega) (by omega)
      refine aw_aload_n X dX2_readOrder_85 rfl ?_
      refine aw_fgetI X hP 4 (t := 0) (b := 63) (n := 0) rfl f_X2_25 dX2_readOrder_86 ?_
      refine aw_top (ch p n a - 48) (by rw [ez_4]; exact upd_s) ?_
      refine aw_cSNF (As := [.int _]) X (c_X4_isHose (kl K) U _ _) s_X2_66 k_X4_isHose (by decide) ⟨rfl, rfl⟩ ⟨Nat.zero_le _, Nat.zero_le _⟩ rfl (by exact Nat.le_of_ble_eq_true rfl) dX2_readOrder_89 ?_
      refine aw_b_ne (tgt := 97) X dX2_readOrder_92 (by decide) (fun c92_5 => ?_) (fun c92_5 => ?_)
      · skip
        have hlt : a < n := chG c92_5
        refine aw_aload_n X dX2_readOrder_97 rfl ?_
        refine aw_dup X dX2_readOrder_98 rfl ?_
        refine aw_fgetI X hP 2 (t := 0) (b := 61) (n := 0) rfl f_X2_19 dX2_readOrder_99 ?_
        refine aw_iconst X (1) dX2_readOrder_102 rfl ?_
        refine aw_iadd X dX2_readOrder_103 ?_
        refine aw_fput X FP_a hP 2 (b := 61) (n := 0) rfl f_X2_19 rfl (by decide +kernel) dX2_readOrder_104 (fun μ z_6 ez_6 hP => ?_)
        have ez_6b : z_6 = upd z_4 61 (nI (a + 1)) := by rw [ez_6, (hpz_4).2.1, nI_1]
        have hpz_6 : pat z_6 n (a + 1) := by rw [ez_6b]; exact pat_at (hpz_4) (by omega)
        refine aw_aload_n X dX2_readOrder_107 rfl ?_
        refine aw_cVFR (As := []) X hP (c_X2_readHoseOrder (kl K) U _ pa _ hP.1 n (a + 1) (hpz_6)) s_X2_70 k_X2_readHoseOrder (by decide) ⟨rfl, rfl⟩ ⟨Nat.zero_le _, Nat.zero_le _⟩ rfl (by exact Nat.le_of_ble_eq_true rfl) rfl dX2_readOrder_108 (fun μ z_7 ez_7 hP => ?_)
        exact aw_zret X (bI_nar _) hQ dX2_readOrder_111 ⟨congrArg (fun q => some (Value.int q)) (by subst ez_1 ez_4 ez_6b ez_7; (try simp only [c14_2] at c38_3) <;> (try simp only [c14_2] at c92_5) <;> (try simp only [c38_3] at c92_5) <;> simp [pOrd, c14_2, c38_3, c92_5, bI]), hP.to (by subst ez_1 ez_4 ez_6b ez_7; (try simp only [c14_2] at c38_3) <;> (try simp only [c14_2] at c92_5) <;> (try simp only [c38_3] at c92_5) <;> simp [pOrd, c14_2, c38_3, c92_5, bI])⟩
      · skip
        refine aw_iconst X (0) dX2_readOrder_95 rfl ?_
        exact aw_zret X rfl hQ dX2_readOrder_96 ⟨congrArg (fun q => some (Value.int q)) (by subst ez_1 ez_4; (try simp only [c14_2] at c38_3) <;> (try simp only [c14_2] at c92_5) <;> (try simp only [c38_3] at c92_5) <;> simp [pOrd, c14_2, c38_3, c92_5, bI]), hP.to (by subst ez_1 ez_4; (try simp only [c14_2] at c38_3) <;> (try simp only [c14_2] at c92_5) <;> (try simp only [c38_3] at c92_5) <;> simp [pOrd, c14_2, c38_3, c92_5, bI])⟩
    · skip
      have hlt : a < n := ch_c c38_3 (by decide)
      refine aw_aload_n X dX2_readOrder_41 rfl ?_
      refine aw_dup X dX2_readOrder_42 rfl ?_
      refine aw_fgetI X hP 2 (t := 0) (b := 61) (n := 0) rfl f_X2_19 dX2_readOrder_43 ?_
      refine aw_iconst X (1) dX2_readOrder_46 rfl ?_
      refine aw_iadd X dX2_readOrder_47 ?_
      refine aw_fput X FP_a hP 2 (b := 61) (n := 0) rfl f_X2_19 rfl (by decide +kernel) dX2_readOrder_48 (fun μ z_4 ez_4 hP => ?_)
      have ez_4b : z_4 = upd z_1 61 (nI (a + 1)) := by rw [ez_4, (hpz_1).2.1, nI_1]
      have hpz_4 : pat z_4 n (a + 1) := by rw [ez_4b]; exact pat_at (hpz_1) (by omega)
      refine aw_aload_n X dX2_readOrder_51 rfl ?_
      refine aw_aload_n X dX2_readOrder_52 rfl ?_
      refine aw_bipush X (48) dX2_readOrder_53 rfl ?_
      refine aw_cVFR (As := [.int _]) X hP (c_X2_readNumber (kl K) U _ pa _ hP.1 n (a + 1) hpz_4 _) s_X2_62 k_X2_readNumber (by decide) ⟨rfl, rfl⟩ ⟨Nat.zero_le _, Nat.zero_le _⟩ rfl (by exact Nat.le_of_ble_eq_true rfl) rfl dX2_readOrder_55 (fun μ z_5 ez_5 hP => ?_)
      have hpz_5 : pat z_5 n (rNum z_4 n 48 (n - (a + 1)) (a + 1) 0).2 := by rw [ez_5]; exact pat_at (hpz_4) (rNum_le _ _ _ (by omega)).2
      refine aw_fput X FP_a hP 6 (b := 65) (n := 0) rfl f_X2_31 rfl (by decide +kernel) dX2_readOrder_58 (fun μ z_6 ez_6 hP => ?_)
      have hpz_6 : pat z_6 n ((rNum z_4 n 48 (n - (a + 1)) (a + 1) 0).2) := by rw [ez_6]; exact pat_up (hpz_5) (by omega) (by omega)
      refine aw_aload_n X dX2_readOrder_61 rfl ?_
      refine aw_fgetI X hP 6 (t := 0) (b := 65) (n := 0) rfl f_X2_31 dX2_readOrder_62 ?_
      refine aw_top ((rNum z_4 n (48 : Int32) (n - (a + 1)) (a + 1) 0).1) (by rw [ez_6]; exact upd_s) ?_
      refine aw_if_le (tgt := 72) X dX2_readOrder_65 (by decide) (fun c65_7 => ?_) (fun c65_7 => ?_)
      · skip
        refine aw_iconst X (0) dX2_readOrder_72 rfl ?_
        exact aw_zret X rfl hQ dX2_readOrder_73 ⟨congrArg (fun q => some (Value.int q)) (by subst ez_1 ez_4b ez_5 ez_6; (try simp only [c14_2] at c38_3) <;> (try simp only [c14_2] at c65_7) <;> (try simp only [c38_3] at c65_7) <;> simp [pOrd, c14_2, c38_3, c65_7, Int32.not_lt.mpr c65_7, bI]), hP.to (by subst ez_1 ez_4b ez_5 ez_6; (try simp only [c14_2] at c38_3) <;> (try simp only [c14_2] at c65_7) <;> (try simp only [c38_3] at c65_7) <;> simp [pOrd, c14_2, c38_3, c65_7, Int32.not_lt.mpr c65_7, bI])⟩
      · skip
        refine aw_iconst X (1) dX2_readOrder_68 rfl ?_
        refine aw_goto (tgt := 73) X dX2_readOrder_69 (by decide) ?_
        exact aw_zret X rfl hQ dX2_readOrder_73 ⟨congrArg (fun q => some (Value.int q)) (by subst ez_1 ez_4b ez_5 ez_6; (try simp only [c14_2] at c38_3) <;> (try simp only [c14_2] at c65_7) <;> (try simp only [c38_3] at c65_7) <;> simp [pOrd, c14_2, c38_3, c65_7, Int32.not_le.mp c65_7, bI]), hP.to (by subst ez_1 ez_4b ez_5 ez_6; (try simp only [c14_2] at c38_3) <;> (try simp only [c14_2] at c65_7) <;> (try simp only [c38_3] at c65_7) <;> simp [pOrd, c14_2, c38_3, c65_7, Int32.not_le.mp c65_7, bI])⟩
  · skip
    have hlt : a < n := ch_c c14_2 (by decide)
    refine aw_aload_n X dX2_readOrder_17 rfl ?_
    refine aw_dup X dX2_readOrder_18 rfl ?_
    refine aw_fgetI X hP 2 (t := 0) (b := 61) (n := 0) rfl f_X2_19 dX2_readOrder_19 ?_
    refine aw_iconst X (1) dX2_readOrder_22 rfl ?_
    refine aw_iadd X dX2_readOrder_23 ?_
    refine aw_fput X FP_a hP 2 (b := 61) (n := 0) rfl f_X2_19 rfl (by decide +kernel) dX2_readOrder_24 (fun μ z_3 ez_3 hP => ?_)
    have ez_3b : z_3 = upd z_1 61 (nI (a + 1)) := by rw [ez_3, (hpz_1).2.1, nI_1]
    have hpz_3 : pat z_3 n (a + 1) := by rw [ez_3b]; exact pat_at (hpz_1) (by omega)
    refine aw_aload_n X dX2_readOrder_27 rfl ?_
    refine aw_cVFR (As := []) X hP (c_X2_readUnits (kl K) U _ pa _ hP.1 n (a + 1) (hpz_3)) s_X2_59 k_X2_readUnits (by decide) ⟨rfl, rfl⟩ ⟨Nat.zero_le _, Nat.zero_le _⟩ rfl (by exact Nat.le_of_ble_eq_true rfl) rfl dX2_readOrder_28 (fun μ z_4 ez_4 hP => ?_)
    exact aw_zret X (bI_nar _) hQ dX2_readOrder_31 ⟨congrArg (fun q => some (Value.int q)) (by subst ez_1 ez_3b ez_4; simp [pOrd, c14_2, bI]), hP.to (by subst ez_1 ez_3b ez_4; simp [pOrd, c14_2, bI])⟩

set_option maxHeartbeats 4000000 in
set_option maxRecDepth 100000 in
theorem c_X2_firstFault (l : Launch) (U : xU) (μ0 : xH) (pa : Nat → Nat) (p : xV) (hP0 : FRep U μ0 pa 2 FP p) (n : Nat) (h60 : p 60 = nI n) (hn60 : n ≤ 60) : CtFR l U yX2_firstFault cX2_firstFault 2 (some .int) ({ frames := 4, cells := 0, slots := 0, locals := 86 } : Room) [.ref (pa 0)] μ0 pa 2 FP (pFault n (n + 1) 0 (upd p 61 (nI 0))).1 (pFault n (n + 1) 0 (upd p 61 (nI 0))).2 := by
  refine Ct.of [some (.ref (pa 0)), none] (by decide +kernel) rfl (Nat.le_of_ble_eq_true rfl) (fun K Q X hnm hQ => ?_)
  have hP := FR.rf hP0
  refine aw_aload_n X dX2_firstFault_0 rfl ?_
  refine aw_iconst X (0) dX2_firstFault_1 rfl ?_
  refine aw_fput X FP_a hP 2 (b := 61) (n := 0) rfl f_X2_19 rfl (by decide +kernel) dX2_firstFault_2 (fun μ z_1 ez_1 hP => ?_)
  refine aw_iconst X (0) dX2_firstFault_5 rfl ?_
  refine aw_istore_n X dX2_firstFault_6 rfl (by decide) ?_
  have loop : ∀ (d : Nat) (i a : Nat) (μ : xH) (pc : xV), i ≤ a → pat pc n a → n < a + d → pFault n d a pc = pFault n (n + 1) 0 (upd p 61 (nI 0)) → FR U μ0 μ pa 2 FP pc →AW U K 2 0 0 Q μ 7 [some (.ref (pa 0)), some (.int (nI i))] [] := by
    intro d
    induction d with
    | zero =>
      intro i a μ pc hia hpc hnd hr hP
      exact absurd hpc.2.2.2 (by omega)
    | succ d ih =>
      intro i a μ pc hia hpc hnd hr hP
      have han2 := hpc.2.2.2
      refine aw_iload_n X dX2_firstFault_7 rfl ?_
      refine aw_bipush X (60) dX2_firstFault_8 rfl ?_
      refine aw_icmp_gt_f (tgt := 69) X dX2_firstFault_10 (by decide) (show ¬ (nI 60 < nI i) from nI_nlt (by omega) (by decide)) ?_
      refine aw_aload_n X dX2_firstFault_13 rfl ?_
      refine aw_cVFR (As := []) X hP (c_X2_readOrder (kl K) U _ pa _ hP.1 n (a) (hpc)) s_X2_50 k_X2_readOrder (by decide) ⟨rfl, rfl⟩ ⟨Nat.zero_le _, Nat.zero_le _⟩ rfl (by exact Nat.le_of_ble_eq_true rfl) rfl dX2_firstFault_14 (fun μ z_2 ez_2 hP => ?_)
      have hpz_2 : pat z_2 n (pOrd pc n (a)).2.1 := by rw [ez_2]; exact (pOrd_pat (hpc)).1
      have hlz_2 := (pOrd_pat (hpc)).2
      refine aw_b_ne (tgt := 25) X dX2_firstFault_17 (by decide) (fun c17_3 => ?_) (fun c17_3 => ?_)
      · skip
        refine aw_aload_n X dX2_firstFault_25 rfl ?_
        refine aw_fgetI X hP 2 (t := 0) (b := 61) (n := 0) rfl f_X2_19 dX2_firstFault_26 ?_
        refine aw_top (nI (pOrd pc n (a)).2.1) ((hpz_2).2.1) ?_
        refine aw_aload_n X dX2_firstFault_29 rfl ?_
        refine aw_fgetI X hP 1 (t := 0) (b := 60) (n := 0) rfl f_X2_15 dX2_firstFault_30 ?_
        refine aw_top (nI n) ((hpz_2).1) ?_
        refine aw_icmp_lt (tgt := 39) X dX2_firstFault_33 (by decide) (fun c33_4 => ?_) (fun c33_4 => ?_)
        · skip
          have hq : (pOrd pc n (a)).2.1 < n := (nI_ltI (by have := (hpz_2).2.2.2; omega) (by omega)).mp c33_4
          refine aw_aload_n X dX2_firstFault_39 rfl ?_
          refine aw_cVFF (As := []) X hP (c_X2_next (kl K) U _ pa _ hP.1 n ((pOrd pc n (a)).2.1) hpz_2) s_X2_55 k_X2_next (by decide) ⟨rfl, rfl⟩ ⟨Nat.zero_le _, Nat.zero_le _⟩ rfl (by exact Nat.le_of_ble_eq_true rfl) rfl dX2_firstFault_40 ?_
          refine aw_bipush X (59) dX2_firstFault_43 rfl ?_
          refine aw_icmp_eq (tgt := 53) X dX2_firstFault_45 (by decide) (fun c45_5 => ?_) (fun c45_5 => ?_)
          · skip
            refine aw_aload_n X dX2_firstFault_53 rfl ?_
            refine aw_dup X dX2_firstFault_54 rfl ?_
            refine aw_fgetI X hP 2 (t := 0) (b := 61) (n := 0) rfl f_X2_19 dX2_firstFault_55 ?_
            refine aw_iconst X (1) dX2_firstFault_58 rfl ?_
            refine aw_iadd X dX2_firstFault_59 ?_
            refine aw_fput X FP_a hP 2 (b := 61) (n := 0) rfl f_X2_19 rfl (by decide +kernel) dX2_firstFault_60 (fun μ z_6 ez_6 hP => ?_)
            have ez_6b : z_6 = upd z_2 61 (nI ((pOrd pc n (a)).2.1 + 1)) := by rw [ez_6, (hpz_2).2.1, nI_1]
            have hpz_6 : pat z_6 n ((pOrd pc n (a)).2.1 + 1) := by rw [ez_6b]; exact pat_at (hpz_2) (by omega)
            refine aw_iinc X (1) dX2_firstFault_63 rfl rfl rfl (by decide) ?_
            refine aw_goto (tgt := 7) X dX2_firstFault_66 (by decide) ?_
            refine aw_sub [some (.ref (pa 0)), some (.int (nI (i + 1)))] ⟨rfl, congrArg (fun q => some (Value.int q)) (nI_1 i), trivial⟩ ?_
            refine ih (i + 1) ((pOrd pc n (a)).2.1 + 1) μ z_6 (by omega) (hpz_6) (by omega) ?_ hP
            subst ez_2 ez_6b
            rw [pFault] at hr
            rw [if_neg (by rw [c17_3]; decide), if_neg (Nat.not_le.mpr hq), if_pos c45_5] at hr
            exact hr
          · skip
            refine aw_aload_n X dX2_firstFault_48 rfl ?_
            refine aw_fgetI X hP 2 (t := 0) (b := 61) (n := 0) rfl f_X2_19 dX2_firstFault_49 ?_
            refine aw_top (nI (pOrd pc n (a)).2.1) ((hpz_2).2.1) ?_
            subst ez_2
            rw [pFault] at hr
            rw [if_neg (by rw [c17_3]; decide), if_neg (Nat.not_le.mpr hq), if_neg c45_5] at hr
            exact aw_iret X hQ dX2_firstFault_52 ⟨congrArg (fun q => some (Value.int q)) (by rw [← hr]), hP.to (by rw [← hr])⟩
        · skip
          have hq : n ≤ (pOrd pc n (a)).2.1 := Nat.not_lt.mp (fun q => c33_4 ((nI_ltI (by have := (hpz_2).2.2.2; omega) (by omega)).mpr q))
          refine aw_ldc X dX2_firstFault_36 a_X2_54 ?_
          subst ez_2
          rw [pFault] at hr
          rw [if_neg (by rw [c17_3]; decide), if_pos hq] at hr
          exact aw_iret X hQ dX2_firstFault_38 ⟨congrArg (fun q => some (Value.int q)) (by rw [← hr]), hP.to (by rw [← hr])⟩
      · skip
        refine aw_aload_n X dX2_firstFault_20 rfl ?_
        refine aw_fgetI X hP 2 (t := 0) (b := 61) (n := 0) rfl f_X2_19 dX2_firstFault_21 ?_
        refine aw_top (nI (pOrd pc n (a)).2.1) ((hpz_2).2.1) ?_
        subst ez_2
        rw [pFault] at hr
        rw [if_pos c17_3] at hr
        exact aw_iret X hQ dX2_firstFault_24 ⟨congrArg (fun q => some (Value.int q)) (by rw [← hr]), hP.to (by rw [← hr])⟩
  refine aw_sub [some (.ref (pa 0)), some (.int (nI 0))] ⟨rfl, rfl, trivial⟩ ?_
  exact loop (n + 1) 0 0 μ z_1 (Nat.le_refl 0) (by rw [ez_1]; exact ⟨by rw [upd_n (by decide)]; exact h60, upd_s, hn60, Nat.zero_le _⟩) (by omega) (by rw [ez_1]; rfl) hP

set_option maxHeartbeats 4000000 in
set_option maxRecDepth 100000 in
theorem c_X2_charactersIn (l : Launch) (U : xU) (μ : xH) (c : Int64) : CtF l U yX2_charactersIn cX2_charactersIn 7 (some .int) ({ frames := 0, cells := 0, slots := 0, locals := 0 } : Room) [.long c] μ (nI (cIn 8 c 0)) := by
  refine Ct.of [some (.long c), none, none, none, none, none, none] (by decide +kernel) rfl (Nat.le_of_ble_eq_true rfl) (fun K Q X hnm hQ => ?_)
  refine aw_lload_n X dX2_charactersIn_0 rfl ?_
  refine aw_lstore_n X dX2_charactersIn_1 rfl (by decide) ?_
  refine aw_iconst X (0) dX2_charactersIn_2 rfl ?_
  refine aw_istore X dX2_charactersIn_3 rfl (by decide) ?_
  have loop : ∀ (d : Nat) (x : Int64) (m : Nat), d + m = 8 → cIn d x m = cIn 8 c 0 → AW U K 7 0 0 Q μ 5 [none, none, some (.long x), none, some (.int (nI m)), none, none] [] := by
    intro d
    induction d with
    | zero =>
      intro x m hdm hr
      obtain rfl : m = 8 := by omega
      refine aw_lload_n X dX2_charactersIn_5 rfl ?_
      refine aw_lconst X (0) dX2_charactersIn_6 rfl ?_
      refine aw_lcmp X dX2_charactersIn_7 ?_
      refine aw_if_eq (tgt := 56) X dX2_charactersIn_8 (by decide) (fun c8_1 => ?_) (fun c8_1 => ?_)
      · skip
        have h0 : x = 0 := lgc_eq.mp c8_1
        refine aw_iload X dX2_charactersIn_56 rfl ?_
        rw [cIn] at hr
        exact aw_iret X hQ dX2_charactersIn_58 ⟨congrArg (fun q => some (Value.int q)) (by first | (rw [← hr]; done) | (rw [← hr]; rfl)), rfl⟩
      · skip
        have h0 : ¬ x = 0 := fun q => c8_1 (lgc_eq.mpr q)
        refine aw_iload X dX2_charactersIn_11 rfl ?_
        refine aw_bipush X (8) dX2_charactersIn_13 rfl ?_
        refine aw_icmp_ge_t (tgt := 56) X dX2_charactersIn_15 (by decide) (by decide) ?_
        refine aw_iload X dX2_charactersIn_56 rfl ?_
        rw [cIn] at hr
        exact aw_iret X hQ dX2_charactersIn_58 ⟨congrArg (fun q => some (Value.int q)) (by first | (rw [← hr]; done) | (rw [← hr]; rfl)), rfl⟩
    | succ d ih =>
      intro x m hdm hr
      refine aw_lload_n X dX2_charactersIn_5 rfl ?_
      refine aw_lconst X (0) dX2_charactersIn_6 rfl ?_
      refine aw_lcmp X dX2_charactersIn_7 ?_
      refine aw_if_eq (tgt := 56) X dX2_charactersIn_8 (by decide) (fun c8_1 => ?_) (fun c8_1 => ?_)
      · skip
        have h0 : x = 0 := lgc_eq.mp c8_1
        refine aw_iload X dX2_charactersIn_56 rfl ?_
        rw [cIn, if_pos h0] at hr
        exact aw_iret X hQ dX2_charactersIn_58 ⟨congrArg (fun q => some (Value.int q)) (by first | (rw [← hr]; done) | (rw [← hr]; rfl)), rfl⟩
      · skip
        have h0 : ¬ x = 0 := fun q => c8_1 (lgc_eq.mpr q)
        refine aw_iload X dX2_charactersIn_11 rfl ?_
        refine aw_bipush X (8) dX2_charactersIn_13 rfl ?_
        refine aw_icmp_ge_f (tgt := 56) X dX2_charactersIn_15 (by decide) (xn_le (N := 8) (by omega) (by decide) rfl) ?_
        refine aw_lload_n X dX2_charactersIn_18 rfl ?_
        refine aw_ldc2 X dX2_charactersIn_19 a_X2_44 ?_
        refine aw_land X dX2_charactersIn_22 ?_
        refine aw_lstore X dX2_charactersIn_23 rfl (by decide) ?_
        refine aw_lload X dX2_charactersIn_25 rfl ?_
        refine aw_ldc2 X dX2_charactersIn_27 a_X2_46 ?_
        refine aw_lcmp X dX2_charactersIn_30 ?_
        refine aw_if_lt (tgt := 43) X dX2_charactersIn_31 (by decide) (fun c31_2 => ?_) (fun c31_2 => ?_)
        · skip
          have h33 : (x &&& 255) < 33 := lgc_lt.mp c31_2
          refine aw_iconst X (0) dX2_charactersIn_43 rfl ?_
          rw [cIn, if_neg h0, if_pos (Or.inl h33)] at hr
          exact aw_iret X hQ dX2_charactersIn_44 ⟨congrArg (fun q => some (Value.int q)) (by first | (rw [← hr]; done) | (rw [← hr]; rfl)), rfl⟩
        · skip
          have h33 : ¬ (x &&& 255) < 33 := fun q => c31_2 (lgc_lt.mpr q)
          refine aw_lload X dX2_charactersIn_34 rfl ?_
          refine aw_ldc2 X dX2_charactersIn_36 a_X2_48 ?_
          refine aw_lcmp X dX2_charactersIn_39 ?_
          refine aw_if_le (tgt := 45) X dX2_charactersIn_40 (by decide) (fun c40_3 => ?_) (fun c40_3 => ?_)
          · skip
            have h126 : (x &&& 255) ≤ 126 := lgc_le.mp c40_3
            refine aw_lload_n X dX2_charactersIn_45 rfl ?_
            refine aw_bipush X (8) dX2_charactersIn_46 rfl ?_
            refine aw_lushr X dX2_charactersIn_48 ?_
            refine aw_lstore_n X dX2_charactersIn_49 rfl (by decide) ?_
            refine aw_iinc X (1) dX2_charactersIn_50 rfl rfl rfl (by decide) ?_
            refine aw_goto (tgt := 5) X dX2_charactersIn_53 (by decide) ?_
            refine aw_sub [none, none, some (.long (x.toUInt64 >>> ((8 : Int32).toInt64.toUInt64 &&& Int64.toUInt64 63)).toInt64), none, some (.int (nI (m + 1))), none, none] ⟨rfl, congrArg (fun q => some (Value.int q)) (nI_1 m), trivial⟩ ?_
            refine ih _ (m + 1) (by omega) ?_
            rw [cIn, if_neg h0, if_neg (fun q => q.elim h33 (fun q => Int64.not_lt.mpr h126 q))] at hr
            exact hr
          · skip
            have h126 : ¬ (x &&& 255) ≤ 126 := fun q => c40_3 (lgc_le.mpr q)
            refine aw_iconst X (0) dX2_charactersIn_43 rfl ?_
            rw [cIn, if_neg h0, if_pos (Or.inr (Int64.not_le.mp h126))] at hr
            exact aw_iret X hQ dX2_charactersIn_44 ⟨congrArg (fun q => some (Value.int q)) (by first | (rw [← hr]; done) | (rw [← hr]; rfl)), rfl⟩
  refine aw_sub [none, none, some (.long c), none, some (.int (nI 0)), none, none] ⟨rfl, rfl, trivial⟩ ?_
  exact loop 8 c 0 (by omega) rfl

set_option maxHeartbeats 4000000 in
set_option maxRecDepth 100000 in
theorem c_X2_append (l : Launch) (U : xU) (μ0 : xH) (pa : Nat → Nat) (p : xV) (hP0 : FRep U μ0 pa 2 FP p) (n : Nat) (h60 : p 60 = nI n) (hn60 : n ≤ 60) (c : Int64) : CtFR l U yX2_append cX2_append 5 (some .int) ({ frames := 1, cells := 0, slots := 0, locals := 26 } : Room) [.ref (pa 0), .long c] μ0 pa 2 FP (gPut p n c).1 (gPut p n c).2 := by
  refine Ct.of [some (.ref (pa 0)), some (.long c), none, none, none] (by decide +kernel) rfl (Nat.le_of_ble_eq_true rfl) (fun K Q X hnm hQ => ?_)
  obtain ⟨μ, hμ, hP⟩ : ∃ μ : xH, μ0 = μ ∧ FR U μ0 μ pa 2 FP p := ⟨μ0, rfl, FR.rf hP0⟩
  refine aw_mu hμ ?_
  have hm8 := cIn_le 8 c 0
  refine aw_lload_n X dX2_append_0 rfl ?_
  refine aw_cSF (As := [.long _]) X (c_X2_charactersIn (kl K) U _ _) s_X2_38 k_X2_charactersIn (by decide) ⟨rfl, rfl⟩ ⟨Nat.zero_le _, Nat.zero_le _⟩ rfl (by exact Nat.le_of_ble_eq_true rfl) dX2_append_1 ?_
  refine aw_istore_n X dX2_append_4 rfl (by decide) ?_
  refine aw_iload_n X dX2_append_5 rfl ?_
  refine aw_if_ne (tgt := 12) X dX2_append_6 (by decide) (fun c6_1 => ?_) (fun c6_1 => ?_)
  · skip
    have hm0 : ¬ cIn 8 c 0 = 0 := fun e => c6_1 (by rw [e]; rfl)
    refine aw_aload_n X dX2_append_12 rfl ?_
    refine aw_fgetI X hP 1 (t := 0) (b := 60) (n := 0) rfl f_X2_15 dX2_append_13 ?_
    refine aw_iload_n X dX2_append_16 rfl ?_
    refine aw_iadd X dX2_append_17 ?_
    refine aw_bipush X (60) dX2_append_18 rfl ?_
    refine aw_icmp_le (tgt := 26) X dX2_append_20 (by decide) (fun c20_2 => ?_) (fun c20_2 => ?_)
    · skip
      refine aw_aload_n X dX2_append_26 rfl ?_
      refine aw_dup X dX2_append_27 rfl ?_
      refine aw_fgetI X hP 1 (t := 0) (b := 60) (n := 0) rfl f_X2_15 dX2_append_28 ?_
      refine aw_iload_n X dX2_append_31 rfl ?_
      refine aw_iadd X dX2_append_32 ?_
      refine aw_fput X FP_a hP 1 (b := 60) (n := 0) rfl f_X2_15 rfl (by decide +kernel) dX2_append_33 (fun μ z_3 ez_3 hP => ?_)
      refine aw_iconst X (0) dX2_append_36 rfl ?_
      refine aw_istore X dX2_append_37 rfl (by decide) ?_
      have hz : z_3 = upd p 60 (nI (n + cIn 8 c 0)) := by rw [ez_3, h60, nI_add]
      have hle : n + cIn 8 c 0 ≤ 60 := by
        have h9 := c20_2
        rw [h60, nI_add, show (60 : Int32) = nI 60 from rfl, nI_leI (by omega) (by decide)] at h9
        exact h9
      have loop : ∀ (d k : Nat) (μ : xH) (zc : xV) , k + d = cIn 8 c 0 → zc = pWr c (n + cIn 8 c 0) (upd p 60 (nI (n + cIn 8 c 0))) k → FR U μ0 μ pa 2 FP zc → AW U K 5 0 0 Q μ 39 [some (.ref (pa 0)), some (.long c), none, some (.int (nI (cIn 8 c 0))), some (.int (nI k))] [] := by
        intro d
        induction d with
        | zero =>
          intro k μ zc hk ezc hP
          have hk : k = cIn 8 c 0 := by omega
          subst hk
          refine aw_iload X dX2_append_39 rfl ?_
          refine aw_iload_n X dX2_append_41 rfl ?_
          refine aw_icmp_ge_t (tgt := 78) X dX2_append_42 (by decide) (Int32.le_refl _) ?_
          refine aw_aload_n X dX2_append_78 rfl ?_
          refine aw_fgetI X hP 1 (t := 0) (b := 60) (n := 0) rfl f_X2_15 dX2_append_79 ?_
          refine aw_top (nI (n + cIn 8 c 0)) (by rw [ezc]; exact (pWr_hi (by omega)).elim (fun q => q.trans upd_s) (fun q => absurd q (by omega))) ?_
          exact aw_iret X hQ dX2_append_82 ⟨congrArg (fun q => some (Value.int q)) (by simp [gPut, hm0, Nat.not_lt.mpr hle]), hP.to (by subst ezc; simp [gPut, hm0, Nat.not_lt.mpr hle])⟩
        | succ d ih =>
          intro k μ zc hk ezc hP
          refine aw_iload X dX2_append_39 rfl ?_
          refine aw_iload_n X dX2_append_41 rfl ?_
          refine aw_icmp_ge_f (tgt := 78) X dX2_append_42 (by decide) (nI_ge (by omega) (by omega)) ?_
          refine aw_aload_n X dX2_append_45 rfl ?_
          refine aw_fgetA X hP 0 (t := 2) (b := 0) (n := 60) rfl f_X2_9 dX2_append_46 ?_
          refine aw_aload_n X dX2_append_49 rfl ?_
          refine aw_fgetI X hP 1 (t := 0) (b := 60) (n := 0) rfl f_X2_15 dX2_append_50 ?_
          refine aw_top (nI (n + cIn 8 c 0)) (by rw [ezc]; exact (pWr_hi (by omega)).elim (fun q => q.trans upd_s) (fun q => absurd q (by omega))) ?_
          refine aw_iconst X (1) dX2_append_53 rfl ?_
          refine aw_isub X dX2_append_54 ?_
          refine aw_iload X dX2_append_55 rfl ?_
          refine aw_isub X dX2_append_57 ?_
          refine aw_lload_n X dX2_append_58 rfl ?_
          refine aw_bipush X (8) dX2_append_59 rfl ?_
          refine aw_iload X dX2_append_61 rfl ?_
          refine aw_imul X dX2_append_63 ?_
          refine aw_lushr X dX2_append_64 ?_
          refine aw_ldc2 X dX2_append_65 a_X2_44 ?_
          refine aw_land X dX2_append_68 ?_
          refine aw_l2i X dX2_append_69 ?_
          refine aw_i2c X dX2_append_70 ?_
          refine aw_fcast X FP_a hP 0 (b := 0) (n := 60) rfl (n + cIn 8 c 0 - 1 - k) (pk_nc _) (by rw [show (1 : Int32) = nI 1 from rfl, pk_sub (by omega), pk_sub (by omega)]; exact vp_in_nI (by omega) (by decide)) (by rw [show (1 : Int32) = nI 1 from rfl, pk_sub (by omega), pk_sub (by omega), nI_clamp (by omega), Nat.zero_add]) dX2_append_71 (fun μ z_4 ez_4 hP => ?_)
          refine aw_iinc X (1) dX2_append_72 rfl rfl rfl (by decide) ?_
          refine aw_goto (tgt := 39) X dX2_append_75 (by decide) ?_
          refine aw_sub [some (.ref (pa 0)), some (.long c), none, some (.int (nI (cIn 8 c 0))), some (.int (nI (k + 1)))] ⟨rfl, rfl, rfl, congrArg (fun q => some (Value.int q)) (nI_1 k), trivial⟩ ?_
          exact ih (k + 1) μ _ (by omega) (by subst ezc ez_4; rfl) hP
      refine aw_sub [some (.ref (pa 0)), some (.long c), none, some (.int (nI (cIn 8 c 0))), some (.int (nI 0))] ⟨rfl, rfl, rfl, rfl, trivial⟩ ?_
      exact loop (cIn 8 c 0) 0 μ _ (by omega) hz hP
    · skip
      have hgt : 60 < n + cIn 8 c 0 := by
        have h9 := c20_2
        rw [h60, nI_add, show (60 : Int32) = nI 60 from rfl, nI_leI (by omega) (by decide)] at h9
        omega
      refine aw_ldc X dX2_append_23 a_X2_43 ?_
      exact aw_iret X hQ dX2_append_25 ⟨congrArg (fun q => some (Value.int q)) (by simp [gPut, hm0, hgt]), hP.to (by simp [gPut, hm0, hgt])⟩
  · skip
    have hm0 : cIn 8 c 0 = 0 := by
      have h9 := c6_1
      rw [show (0 : Int32) = nI 0 from rfl, nI_eq (by omega) (by decide)] at h9
      exact h9
    refine aw_ldc X dX2_append_9 a_X2_42 ?_
    exact aw_iret X hQ dX2_append_11 ⟨congrArg (fun q => some (Value.int q)) (by simp [gPut, hm0]), hP.to (by simp [gPut, hm0])⟩
