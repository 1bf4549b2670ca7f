set_option maxHeartbeats 1000000 in
set_option maxRecDepth 100000 in
theorem c_X5_put (l : Launch) (U : xU) (μ0 : xH) (ma : Nat → Nat) (m : xV) (hM0 : FRep U μ0 ma 5 FM m) (n : Nat) (h941 : m 941 = nI n) (hn : n ≤ 60) (x : Int64) : CtFR l U yX5_put cX5_put 8 (some .int) ({ frames := 1, cells := 0, slots := 0, locals := 22 } : Room) [.ref (ma 0), .long x] μ0 ma 5 FM (mPutS m n x).1 (mPutS m n x).2 := by
  refine Ct.of [some (.ref (ma 0)), some (.long x), none, none, none, none, none, none] (by decide +kernel) rfl (Nat.le_of_ble_eq_true rfl) (fun K Q X hnm hQ => ?_)
  have hM := FR.rf hM0
  refine aw_iconst X (0) dX5_put_0 rfl ?_
  refine aw_istore_n X dX5_put_1 rfl (by decide) ?_
  refine aw_iconst X (0) dX5_put_2 rfl ?_
  refine aw_istore X dX5_put_3 rfl (by decide) ?_
  refine aw_iconst X (0) dX5_put_5 rfl ?_
  refine aw_istore X dX5_put_6 rfl (by decide) ?_
  have loop : ∀ (d k : Nat) , k + d = 8 → AW U K 8 0 0 Q μ0 8 [some (.ref (ma 0)), some (.long x), none, some (.int (nI (mPn x k))), some (.int (bI (mBd x k))), some (.int (nI k)), none, none] [] := by
    intro d
    induction d with
    | zero =>
      intro k hk
      have hk : k = 8 := by omega
      subst hk
      refine aw_iload X dX5_put_8 rfl ?_
      refine aw_bipush X (8) dX5_put_10 rfl ?_
      refine aw_icmp_ge_t (tgt := 101) X dX5_put_12 (by decide) (by decide) ?_
      refine aw_iload X dX5_put_101 rfl ?_
      refine aw_b_eq (tgt := 109) X dX5_put_103 (by decide) (fun c103_1 => ?_) (fun c103_1 => ?_)
      · skip
        have hmn8 := mPn_le x 8
        refine aw_aload_n X dX5_put_109 rfl ?_
        refine aw_fgetI X hM 7 (t := 0) (b := 941) (n := 0) rfl f_X5_143 dX5_put_110 ?_
        refine aw_top (nI n) h941 ?_
        refine aw_iload_n X dX5_put_113 rfl ?_
        refine aw_iadd X dX5_put_114 ?_
        refine aw_top (nI (n + mPn x 8)) (ixn _ rfl) ?_
        refine aw_bipush X (60) dX5_put_115 rfl ?_
        refine aw_icmp_le (tgt := 123) X dX5_put_117 (by decide) (fun c117_2 => ?_) (fun c117_2 => ?_)
        · skip
          have hle : n + mPn x 8 ≤ 60 := by
            rw [show (60 : Int32) = nI 60 from rfl, nI_leI (by omega) (by decide)] at c117_2
            exact c117_2
          refine aw_iconst X (0) dX5_put_123 rfl ?_
          refine aw_istore X dX5_put_124 rfl (by decide) ?_
          have hm1 : 1 ≤ mPn x 8 := by
            have e1 : mPn x 1 = 1 := by rw [mPn, if_neg (by rw [mEnd]; simp)]; rfl
            have key : ∀ k, 1 ≤ mPn x (k + 1) := by
              intro k
              induction k with
              | zero => rw [e1]; exact Nat.le_refl _
              | succ k ih => rw [mPn]; split <;> omega
            exact key 7
          obtain ⟨μ, hμ, hM⟩ : ∃ μ : xH, μ0 = μ ∧ FR U μ0 μ ma 5 FM m := ⟨μ0, rfl, hM⟩
          refine aw_mu hμ ?_
          have loop : ∀ (d k : Nat) (μ : xH) (zc : xV) , k + d = mPn x 8 → zc = mWr x (n + mPn x 8) m k → FR U μ0 μ ma 5 FM zc → AW U K 8 0 0 Q μ 126 [some (.ref (ma 0)), some (.long x), none, some (.int (nI (mPn x 8))), none, some (.int (nI k)), none, none] [] := by
            intro d
            induction d with
            | zero =>
              intro k μ zc hk ezc hM
              have hk : k = mPn x 8 := by omega
              subst hk
              refine aw_iload X dX5_put_126 rfl ?_
              refine aw_iload_n X dX5_put_128 rfl ?_
              refine aw_icmp_ge_t (tgt := 166) X dX5_put_129 (by decide) (Int32.le_refl _) ?_
              refine aw_aload_n X dX5_put_166 rfl ?_
              refine aw_dup X dX5_put_167 rfl ?_
              refine aw_fgetI X hM 7 (t := 0) (b := 941) (n := 0) rfl f_X5_143 dX5_put_168 ?_
              refine aw_top (nI n) (by rw [ezc, mWr_o hle (by omega) (by omega)]; exact h941) ?_
              refine aw_iload_n X dX5_put_171 rfl ?_
              refine aw_iadd X dX5_put_172 ?_
              refine aw_top (nI (n + mPn x 8)) (ixn _ rfl) ?_
              refine aw_fput X FM_a hM 7 (b := 941) (n := 0) rfl f_X5_143 rfl (by decide +kernel) dX5_put_173 (fun μ z_3 ez_3 hM => ?_)
              refine aw_aload_n X dX5_put_176 rfl ?_
              refine aw_fgetI X hM 7 (t := 0) (b := 941) (n := 0) rfl f_X5_143 dX5_put_177 ?_
              exact aw_iret X hQ dX5_put_180 ⟨congrArg (fun q => some (Value.int q)) (by rw [mPutS, if_neg (by rw [c103_1]; decide), if_neg (by omega), ez_3, upd_s]), hM.to (by rw [mPutS, if_neg (by rw [c103_1]; decide), if_neg (by omega), ez_3, ezc])⟩
            | succ d ih =>
              intro k μ zc hk ezc hM
              refine aw_iload X dX5_put_126 rfl ?_
              refine aw_iload_n X dX5_put_128 rfl ?_
              refine aw_icmp_ge_f (tgt := 166) X dX5_put_129 (by decide) (nI_ge (by omega) (by omega)) ?_
              refine aw_aload_n X dX5_put_132 rfl ?_
              refine aw_fgetA X hM 6 (t := 0) (b := 870) (n := 60) rfl f_X5_26 dX5_put_133 ?_
              refine aw_aload_n X dX5_put_136 rfl ?_
              refine aw_fgetI X hM 7 (t := 0) (b := 941) (n := 0) rfl f_X5_143 dX5_put_137 ?_
              refine aw_top (nI n) (by rw [ezc, mWr_o hle (by omega) (by omega)]; exact h941) ?_
              refine aw_iload_n X dX5_put_140 rfl ?_
              refine aw_iadd X dX5_put_141 ?_
              refine aw_top (nI (n + mPn x 8)) (ixn _ rfl) ?_
              refine aw_iconst X (1) dX5_put_142 rfl ?_
              refine aw_isub X dX5_put_143 ?_
              refine aw_top (nI (n + mPn x 8 - 1)) (by rw [show (1 : Int32) = nI 1 from rfl, pk_sub (by omega)]) ?_
              refine aw_iload X dX5_put_144 rfl ?_
              refine aw_isub X dX5_put_146 ?_
              refine aw_top (nI (n + mPn x 8 - 1 - k)) (pk_sub (by omega)) ?_
              refine aw_lload_n X dX5_put_147 rfl ?_
              refine aw_bipush X (8) dX5_put_148 rfl ?_
              refine aw_iload X dX5_put_150 rfl ?_
              refine aw_imul X dX5_put_152 ?_
              refine aw_top (nI (8 * k)) (ixm _ rfl) ?_
              refine aw_lushr X dX5_put_153 ?_
              refine aw_ldc2 X dX5_put_154 a_X5_158 ?_
              refine aw_land X dX5_put_157 ?_
              refine aw_l2i X dX5_put_158 ?_
              refine aw_top (mch x k) rfl ?_
              refine aw_fiast X FM_a hM 6 (b := 870) (n := 60) rfl (870 + (n + mPn x 8 - 1 - k)) (vp_in_nI (by omega) (by decide)) (by rw [nI_clamp (by omega)]) dX5_put_159 (fun μ z_3 ez_3 hM => ?_)
              refine aw_iinc X (1) dX5_put_160 rfl rfl rfl (by decide) ?_
              refine aw_goto (tgt := 126) X dX5_put_163 (by decide) ?_
              refine aw_sub [some (.ref (ma 0)), some (.long x), none, some (.int (nI (mPn x 8))), none, some (.int (nI (k + 1))), none, none] ⟨rfl, rfl, rfl, congrArg (fun q => some (Value.int q)) (nI_1 k), trivial⟩ ?_
              exact ih (k + 1) μ _ (by omega) (by subst ezc ez_3; rfl) hM
          refine aw_sub [some (.ref (ma 0)), some (.long x), none, some (.int (nI (mPn x 8))), none, some (.int (nI 0)), none, none] ⟨rfl, rfl, rfl, rfl, trivial⟩ ?_
          exact loop (mPn x 8) 0 μ _ (by omega) rfl hM
        · skip
          have hgt : 60 < n + mPn x 8 := by
            rcases Nat.lt_or_ge 60 (n + mPn x 8) with q | q
            · exact q
            · exact absurd (nI_le q (by decide)) c117_2
          refine aw_ldc X dX5_put_120 a_X5_103 ?_
          exact aw_iret X hQ dX5_put_122 ⟨congrArg (fun q => some (Value.int q)) (by rw [mPutS, if_neg (by rw [c103_1]; decide), if_pos hgt]), hM.to (by rw [mPutS, if_neg (by rw [c103_1]; decide), if_pos hgt])⟩
      · skip
        have hmn8 := mPn_le x 8
        refine aw_ldc X dX5_put_106 a_X5_99 ?_
        exact aw_iret X hQ dX5_put_108 ⟨congrArg (fun q => some (Value.int q)) (by rw [mPutS, if_pos c103_1]), hM.to (by rw [mPutS, if_pos c103_1])⟩
    | succ d ih =>
      intro k hk
      refine aw_iload X dX5_put_8 rfl ?_
      refine aw_bipush X (8) dX5_put_10 rfl ?_
      refine aw_icmp_ge_f (tgt := 101) X dX5_put_12 (by decide) (xn_le (N := 8) (by omega) (by decide) rfl) ?_
      refine aw_lload_n X dX5_put_15 rfl ?_
      refine aw_bipush X (8) dX5_put_16 rfl ?_
      refine aw_iload X dX5_put_18 rfl ?_
      refine aw_imul X dX5_put_20 ?_
      refine aw_top (nI (8 * k)) (ixm _ rfl) ?_
      refine aw_lushr X dX5_put_21 ?_
      refine aw_ldc2 X dX5_put_22 a_X5_158 ?_
      refine aw_land X dX5_put_25 ?_
      refine aw_l2i X dX5_put_26 ?_
      refine aw_top (mch x k) rfl ?_
      refine aw_istore X dX5_put_27 rfl (by decide) ?_
      refine aw_iload X dX5_put_29 rfl ?_
      refine aw_if_le (tgt := 50) X dX5_put_31 (by decide) (fun c31_1 => ?_) (fun c31_1 => ?_)
      · skip
        have hk0 : k = 0 := by
          rcases Nat.eq_zero_or_pos k with q | q
          · exact q
          · exact absurd c31_1 (Int32.not_le.mpr (nI_lt q (by omega)))
        have he : ¬ mEnd x k = true := by rw [mEnd, hk0]; simp
        refine aw_iconst X (0) dX5_put_50 rfl ?_
        refine aw_istore X dX5_put_51 rfl (by decide) ?_
        refine aw_iload X dX5_put_53 rfl ?_
        refine aw_b_ne (tgt := 75) X dX5_put_55 (by decide) (fun c55_2 => ?_) (fun c55_2 => ?_)
        · skip
          refine aw_iconst X (1) dX5_put_75 rfl ?_
          refine aw_goto (tgt := 80) X dX5_put_76 (by decide) ?_
          refine aw_istore X dX5_put_80 rfl (by decide) ?_
          refine aw_iload_n X dX5_put_82 rfl ?_
          refine aw_iload X dX5_put_83 rfl ?_
          refine aw_if_eq_t (tgt := 92) X dX5_put_85 (by decide) (by decide) ?_
          refine aw_iconst X (1) dX5_put_92 rfl ?_
          refine aw_iadd X dX5_put_93 ?_
          refine aw_istore_n X dX5_put_94 rfl (by decide) ?_
          refine aw_iinc X (1) dX5_put_95 rfl rfl rfl (by decide) ?_
          refine aw_goto (tgt := 8) X dX5_put_98 (by decide) ?_
          refine aw_sub [some (.ref (ma 0)), some (.long x), none, some (.int (nI (mPn x (k + 1)))), some (.int (bI (mBd x (k + 1)))), some (.int (nI (k + 1))), none, none] ⟨rfl, rfl, congrArg (fun q => some (Value.int q)) (by rw [mPn, if_neg he]; exact nI_1 _), congrArg (fun q => some (Value.int q)) (by simp [mBd, he, bI, c55_2]), congrArg (fun q => some (Value.int q)) (nI_1 k), trivial⟩ ?_
          exact ih (k + 1) (by omega)
        · skip
          refine aw_iload X dX5_put_58 rfl ?_
          refine aw_if_ne_f (tgt := 79) X dX5_put_60 (by decide) (by decide) ?_
          refine aw_iload X dX5_put_63 rfl ?_
          refine aw_bipush X (33) dX5_put_65 rfl ?_
          refine aw_bipush X (126) dX5_put_67 rfl ?_
          refine aw_cSF (As := [.int _, .int _, .int _]) X (c_X5_in (kl K) U _ _ _ _) s_X5_59 k_X5_in (by decide) ⟨rfl, rfl⟩ ⟨Nat.zero_le _, Nat.zero_le _⟩ rfl (by exact Nat.le_of_ble_eq_true rfl) dX5_put_69 ?_
          refine aw_top (bI (inB (mch x k) (33 : Int32) (126 : Int32))) rfl ?_
          refine aw_b_ne (tgt := 79) X dX5_put_72 (by decide) (fun c72_3 => ?_) (fun c72_3 => ?_)
          · skip
            refine aw_iconst X (0) dX5_put_79 rfl ?_
            refine aw_istore X dX5_put_80 rfl (by decide) ?_
            refine aw_iload_n X dX5_put_82 rfl ?_
            refine aw_iload X dX5_put_83 rfl ?_
            refine aw_if_eq_t (tgt := 92) X dX5_put_85 (by decide) (by decide) ?_
            refine aw_iconst X (1) dX5_put_92 rfl ?_
            refine aw_iadd X dX5_put_93 ?_
            refine aw_istore_n X dX5_put_94 rfl (by decide) ?_
            refine aw_iinc X (1) dX5_put_95 rfl rfl rfl (by decide) ?_
            refine aw_goto (tgt := 8) X dX5_put_98 (by decide) ?_
            refine aw_sub [some (.ref (ma 0)), some (.long x), none, some (.int (nI (mPn x (k + 1)))), some (.int (bI (mBd x (k + 1)))), some (.int (nI (k + 1))), none, none] ⟨rfl, rfl, congrArg (fun q => some (Value.int q)) (by rw [mPn, if_neg he]; exact nI_1 _), congrArg (fun q => some (Value.int q)) (by simp [mBd, he, bI, c55_2, c72_3]), congrArg (fun q => some (Value.int q)) (nI_1 k), trivial⟩ ?_
            exact ih (k + 1) (by omega)
          · skip
            refine aw_iconst X (1) dX5_put_75 rfl ?_
            refine aw_goto (tgt := 80) X dX5_put_76 (by decide) ?_
            refine aw_istore X dX5_put_80 rfl (by decide) ?_
            refine aw_iload_n X dX5_put_82 rfl ?_
            refine aw_iload X dX5_put_83 rfl ?_
            refine aw_if_eq_t (tgt := 92) X dX5_put_85 (by decide) (by decide) ?_
            refine aw_iconst X (1) dX5_put_92 rfl ?_
            refine aw_iadd X dX5_put_93 ?_
            refine aw_istore_n X dX5_put_94 rfl (by decide) ?_
            refine aw_iinc X (1) dX5_put_95 rfl rfl rfl (by decide) ?_
            refine aw_goto (tgt := 8) X dX5_put_98 (by decide) ?_
            refine aw_sub [some (.ref (ma 0)), some (.long x), none, some (.int (nI (mPn x (k + 1)))), some (.int (bI (mBd x (k + 1)))), some (.int (nI (k + 1))), none, none] ⟨rfl, rfl, congrArg (fun q => some (Value.int q)) (by rw [mPn, if_neg he]; exact nI_1 _), congrArg (fun q => some (Value.int q)) (by simp [mBd, he, bI, c55_2, c72_3]), congrArg (fun q => some (Value.int q)) (nI_1 k), trivial⟩ ?_
            exact ih (k + 1) (by omega)
      · skip
        have hk0 : 0 < k := by
          rcases Nat.eq_zero_or_pos k with q | q
          · rw [q] at c31_1; exact absurd (by decide) c31_1
          · exact q
        refine aw_lload_n X dX5_put_34 rfl ?_
        refine aw_bipush X (8) dX5_put_35 rfl ?_
        refine aw_iload X dX5_put_37 rfl ?_
        refine aw_imul X dX5_put_39 ?_
        refine aw_top (nI (8 * k)) (ixm _ rfl) ?_
        refine aw_lushr X dX5_put_40 ?_
        refine aw_lconst X (0) dX5_put_41 rfl ?_
        refine aw_lcmp X dX5_put_42 ?_
        refine aw_if_ne (tgt := 50) X dX5_put_43 (by decide) (fun c43_2 => ?_) (fun c43_2 => ?_)
        · skip
          have he : ¬ mEnd x k = true := by
            rw [mEnd, Bool.and_eq_true, decide_eq_true_eq, decide_eq_true_eq]
            exact fun q => c43_2 (lgc_eq.mpr q.2)
          refine aw_iconst X (0) dX5_put_50 rfl ?_
          refine aw_istore X dX5_put_51 rfl (by decide) ?_
          refine aw_iload X dX5_put_53 rfl ?_
          refine aw_b_ne (tgt := 75) X dX5_put_55 (by decide) (fun c55_3 => ?_) (fun c55_3 => ?_)
          · skip
            refine aw_iconst X (1) dX5_put_75 rfl ?_
            refine aw_goto (tgt := 80) X dX5_put_76 (by decide) ?_
            refine aw_istore X dX5_put_80 rfl (by decide) ?_
            refine aw_iload_n X dX5_put_82 rfl ?_
            refine aw_iload X dX5_put_83 rfl ?_
            refine aw_if_eq_t (tgt := 92) X dX5_put_85 (by decide) (by decide) ?_
            refine aw_iconst X (1) dX5_put_92 rfl ?_
            refine aw_iadd X dX5_put_93 ?_
            refine aw_istore_n X dX5_put_94 rfl (by decide) ?_
            refine aw_iinc X (1) dX5_put_95 rfl rfl rfl (by decide) ?_
            refine aw_goto (tgt := 8) X dX5_put_98 (by decide) ?_
            refine aw_sub [some (.ref (ma 0)), some (.long x), none, some (.int (nI (mPn x (k + 1)))), some (.int (bI (mBd x (k + 1)))), some (.int (nI (k + 1))), none, none] ⟨rfl, rfl, congrArg (fun q => some (Value.int q)) (by rw [mPn, if_neg he]; exact nI_1 _), congrArg (fun q => some (Value.int q)) (by simp [mBd, he, bI, c55_3]), congrArg (fun q => some (Value.int q)) (nI_1 k), trivial⟩ ?_
            exact ih (k + 1) (by omega)
          · skip
            refine aw_iload X dX5_put_58 rfl ?_
            refine aw_if_ne_f (tgt := 79) X dX5_put_60 (by decide) (by decide) ?_
            refine aw_iload X dX5_put_63 rfl ?_
            refine aw_bipush X (33) dX5_put_65 rfl ?_
            refine aw_bipush X (126) dX5_put_67 rfl ?_
            refine aw_cSF (As := [.int _, .int _, .int _]) X (c_X5_in (kl K) U _ _ _ _) s_X5_59 k_X5_in (by decide) ⟨rfl, rfl⟩ ⟨Nat.zero_le _, Nat.zero_le _⟩ rfl (by exact Nat.le_of_ble_eq_true rfl) dX5_put_69 ?_
            refine aw_top (bI (inB (mch x k) (33 : Int32) (126 : Int32))) rfl ?_
            refine aw_b_ne (tgt := 79) X dX5_put_72 (by decide) (fun c72_4 => ?_) (fun c72_4 => ?_)
            · skip
              refine aw_iconst X (0) dX5_put_79 rfl ?_
              refine aw_istore X dX5_put_80 rfl (by decide) ?_
              refine aw_iload_n X dX5_put_82 rfl ?_
              refine aw_iload X dX5_put_83 rfl ?_
              refine aw_if_eq_t (tgt := 92) X dX5_put_85 (by decide) (by decide) ?_
              refine aw_iconst X (1) dX5_put_92 rfl ?_
              refine aw_iadd X dX5_put_93 ?_
              refine aw_istore_n X dX5_put_94 rfl (by decide) ?_
              refine aw_iinc X (1) dX5_put_95 rfl rfl rfl (by decide) ?_
              refine aw_goto (tgt := 8) X dX5_put_98 (by decide) ?_
              refine aw_sub [some (.ref (ma 0)), some (.long x), none, some (.int (nI (mPn x (k + 1)))), some (.int (bI (mBd x (k + 1)))), some (.int (nI (k + 1))), none, none] ⟨rfl, rfl, congrArg (fun q => some (Value.int q)) (by rw [mPn, if_neg he]; exact nI_1 _), congrArg (fun q => some (Value.int q)) (by simp [mBd, he, bI, c55_3, c72_4]), congrArg (fun q => some (Value.int q)) (nI_1 k), trivial⟩ ?_
              exact ih (k + 1) (by omega)
            · skip
              refine aw_iconst X (1) dX5_put_75 rfl ?_
              refine aw_goto (tgt := 80) X dX5_put_76 (by decide) ?_
              refine aw_istore X dX5_put_80 rfl (by decide) ?_
              refine aw_iload_n X dX5_put_82 rfl ?_
              refine aw_iload X dX5_put_83 rfl ?_
              refine aw_if_eq_t (tgt := 92) X dX5_put_85 (by decide) (by decide) ?_
              refine aw_iconst X (1) dX5_put_92 rfl ?_
              refine aw_iadd X dX5_put_93 ?_
              refine aw_istore_n X dX5_put_94 rfl (by decide) ?_
              refine aw_iinc X (1) dX5_put_95 rfl rfl rfl (by decide) ?_
              refine aw_goto (tgt := 8) X dX5_put_98 (by decide) ?_
              refine aw_sub [some (.ref (ma 0)), some (.long x), none, some (.int (nI (mPn x (k + 1)))), some (.int (bI (mBd x (k + 1)))), some (.int (nI (k + 1))), none, none] ⟨rfl, rfl, congrArg (fun q => some (Value.int q)) (by rw [mPn, if_neg he]; exact nI_1 _), congrArg (fun q => some (Value.int q)) (by simp [mBd, he, bI, c55_3, c72_4]), congrArg (fun q => some (Value.int q)) (nI_1 k), trivial⟩ ?_
              exact ih (k + 1) (by omega)
        · skip
          have he : mEnd x k = true := by
            rw [mEnd, Bool.and_eq_true, decide_eq_true_eq, decide_eq_true_eq]
            exact ⟨hk0, lgc_eq.mp c43_2⟩
          refine aw_iconst X (1) dX5_put_46 rfl ?_
          refine aw_goto (tgt := 51) X dX5_put_47 (by decide) ?_
          refine aw_istore X dX5_put_51 rfl (by decide) ?_
          refine aw_iload X dX5_put_53 rfl ?_
          refine aw_b_ne (tgt := 75) X dX5_put_55 (by decide) (fun c55_3 => ?_) (fun c55_3 => ?_)
          · skip
            refine aw_iconst X (1) dX5_put_75 rfl ?_
            refine aw_goto (tgt := 80) X dX5_put_76 (by decide) ?_
            refine aw_istore X dX5_put_80 rfl (by decide) ?_
            refine aw_iload_n X dX5_put_82 rfl ?_
            refine aw_iload X dX5_put_83 rfl ?_
            refine aw_if_eq_f (tgt := 92) X dX5_put_85 (by decide) (by decide) ?_
            refine aw_iconst X (0) dX5_put_88 rfl ?_
            refine aw_goto (tgt := 93) X dX5_put_89 (by decide) ?_
            refine aw_iadd X dX5_put_93 ?_
            refine aw_istore_n X dX5_put_94 rfl (by decide) ?_
            refine aw_iinc X (1) dX5_put_95 rfl rfl rfl (by decide) ?_
            refine aw_goto (tgt := 8) X dX5_put_98 (by decide) ?_
            refine aw_sub [some (.ref (ma 0)), some (.long x), none, some (.int (nI (mPn x (k + 1)))), some (.int (bI (mBd x (k + 1)))), some (.int (nI (k + 1))), none, none] ⟨rfl, rfl, congrArg (fun q => some (Value.int q)) (by rw [mPn, if_pos he]; exact Int32.add_zero _), congrArg (fun q => some (Value.int q)) (by simp [mBd, he, bI, c55_3]), congrArg (fun q => some (Value.int q)) (nI_1 k), trivial⟩ ?_
            exact ih (k + 1) (by omega)
          · skip
            refine aw_iload X dX5_put_58 rfl ?_
            refine aw_if_ne_t (tgt := 79) X dX5_put_60 (by decide) (by decide) ?_
            refine aw_iconst X (0) dX5_put_79 rfl ?_
            refine aw_istore X dX5_put_80 rfl (by decide) ?_
            refine aw_iload_n X dX5_put_82 rfl ?_
            refine aw_iload X dX5_put_83 rfl ?_
            refine aw_if_eq_f (tgt := 92) X dX5_put_85 (by decide) (by decide) ?_
            refine aw_iconst X (0) dX5_put_88 rfl ?_
            refine aw_goto (tgt := 93) X dX5_put_89 (by decide) ?_
            refine aw_iadd X dX5_put_93 ?_
            refine aw_istore_n X dX5_put_94 rfl (by decide) ?_
            refine aw_iinc X (1) dX5_put_95 rfl rfl rfl (by decide) ?_
            refine aw_goto (tgt := 8) X dX5_put_98 (by decide) ?_
            refine aw_sub [some (.ref (ma 0)), some (.long x), none, some (.int (nI (mPn x (k + 1)))), some (.int (bI (mBd x (k + 1)))), some (.int (nI (k + 1))), none, none] ⟨rfl, rfl, congrArg (fun q => some (Value.int q)) (by rw [mPn, if_pos he]; exact Int32.add_zero _), congrArg (fun q => some (Value.int q)) (by simp [mBd, he, bI, c55_3]), congrArg (fun q => some (Value.int q)) (nI_1 k), trivial⟩ ?_
            exact ih (k + 1) (by omega)
  refine aw_sub [some (.ref (ma 0)), some (.long x), none, some (.int (nI (mPn x 0))), some (.int (bI (mBd x 0))), some (.int (nI 0)), none, none] ⟨rfl, rfl, rfl, rfl, rfl, trivial⟩ ?_
  exact loop (8) 0 (by omega)
