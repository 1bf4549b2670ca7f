/-! the law's small methods -/
def lw (v n : Int32) : Int32 := (v &&& 2147483647) - (v &&& 2147483647) / n * n
def lSp (z : xV) : Int32 := z 18 + z 19 + z 20 + z 21
def lAt (z : xV) : Int32 := cTanker z 0 0 + cTanker z 0 1 + cTanker z 0 2 + cTanker z 0 3
def tA (z : xV) : Nat → Int64
  | 0 => 23
  | k + 1 => 31 * tA z k + (cNumber z (nI k)).toInt64
def tB (z : xV) : Nat → Int64
  | 0 => tA z 18
  | k + 1 => 37 * tB z k + (cHose z (nI k / 6) (nI k - nI k / 6 * 6)).toInt64
def tC (z : xV) : Nat → Int64
  | 0 => tB z 24
  | k + 1 => 41 * tC z k + (cGrade z (nI k / 4) (nI k - nI k / 4 * 4)).toInt64
def tD (z : xV) : Nat → Int64
  | 0 => tC z 16
  | k + 1 => 43 * tD z k + (cTanker z (nI k / 8) (nI k - nI k / 8 * 8)).toInt64
def tTale (z : xV) : Int64 := tD z 48
/-- the script -/
theorem aw_sld {U : xU} {K : xK} {y : MethodName} {cc : ByteArray} {nL cells slots : Nat} {ret : Option FieldType} {rm : Room} {Q : State → Prop} {μ : xH} {pc : Nat} {ls : List (Option Value)} {st : List Value} (X : Cx U K y cc nL ret rm) {b L : Nat} {xs : Nat → Int32} (hX : va_X b L xs (ks K) (ks K).heap ∧ b < (ks K).heap.size ∧ ¬ uB U b) {i : Int32} (hin : vp_in i L) (hdg : decode cc pc = .ok (.iaload, 1)) (kk : AW U K nL cells slots Q μ (pc + 1) ls (.int (xs i.toNatClampNeg) :: st)) : AW U K nL cells slots Q μ pc ls (.int i :: .ref b :: st) := fun H locs la h1 h2 h3 => va_sld X.1 X.2.1 hX.1 hX.2.1 hX.2.2 h2 hin hdg (kk H locs la h1 h2 h3)
theorem aw_slen {U : xU} {K : xK} {y : MethodName} {cc : ByteArray} {nL cells slots : Nat} {ret : Option FieldType} {rm : Room} {Q : State → Prop} {μ : xH} {pc : Nat} {ls : List (Option Value)} {st : List Value} (X : Cx U K y cc nL ret rm) {b L : Nat} {xs : Nat → Int32} (hX : va_X b L xs (ks K) (ks K).heap ∧ b < (ks K).heap.size ∧ ¬ uB U b) (hdg : decode cc pc = .ok (.arraylength, 1)) (kk : AW U K nL cells slots Q μ (pc + 1) ls (.int (nI L) :: st)) : AW U K nL cells slots Q μ pc ls (.ref b :: st) := fun H locs la h1 h2 h3 => va_slen X.1 X.2.1 hX.1 hX.2.1 hX.2.2 h2 hdg (kk H locs la h1 h2 h3)
theorem cell_in {k : Int32} {L : Nat} (hL : L ≤ 260) (hk : ¬ k < 0) (q : L ≤ k.toNatClampNeg) : nI L ≤ k := by
  rw [i_le, nI_toInt (by omega)]
  have h0 : (0 : Int) ≤ k.toInt := by
    have := Int32.not_lt.mp hk
    simpa using Int32.le_iff_toInt_le.mp this
  have : L ≤ k.toInt.toNat := q
  omega
set_option maxHeartbeats 1000000 in
set_option maxRecDepth 100000 in
theorem c_L_low (l : Launch) (U : xU) (μ0 : xH) (v n : Int32) (hn : ¬ n = 0) : Ct l U yL_low cL_low 2 (some .int) ({ frames := 0, cells := 0, slots := 0, locals := 0 } : Room) [.int v, .int n] μ0 (fun r μ' => r = some (.int (lw v n)) ∧ μ' = μ0) := by
  refine Ct.of [some (.int v), some (.int n)] (by decide +kernel) rfl (Nat.le_of_ble_eq_true rfl) (fun K Q X hnm hQ => ?_)
  refine aw_iload_n X dL_low_0 rfl ?_
  refine aw_ldc X dL_low_1 a_L_8 ?_
  refine aw_iand X dL_low_3 ?_
  refine aw_iload_n X dL_low_4 rfl ?_
  refine aw_irem X dL_low_5 hn ?_
  exact aw_iret X hQ dL_low_6 ⟨rfl, rfl⟩

set_option maxHeartbeats 1000000 in
set_option maxRecDepth 100000 in
theorem c_L_cell (l : Launch) (U : xU) (μ0 : xH) (k : Int32) (hk : ¬ k < 0) : Ct l U yL_cell cL_cell 2 (some .int) ({ frames := 0, cells := 0, slots := 0, locals := 0 } : Room) [.ref (uA U 4), .int k] μ0 (fun r μ' => (∃ v, r = some (.int v)) ∧ μ' = μ0) := by
  refine Ct.of [some (.ref (uA U 4)), some (.int k)] (by decide +kernel) rfl (Nat.le_of_ble_eq_true rfl) (fun K Q X hnm hQ => ?_)
  obtain ⟨L, xs, hL, hX, hB⟩ := X.2.2.2.2.2.2.2.2.1.2.2.2.2.1.2
  have hX : va_X (uA U 4) L xs (ks K) (ks K).heap ∧ uA U 4 < (ks K).heap.size ∧ ¬ uB U (uA U 4) := ⟨hX, by obtain ⟨scr, e, -⟩ := hX; exact (Array.getElem?_eq_some_iff.mp e).1, hB⟩
  refine aw_iload_n X dL_cell_0 rfl ?_
  refine aw_aload_n X dL_cell_1 rfl ?_
  refine aw_slen X hX dL_cell_2 ?_
  refine aw_icmp_ge (tgt := 12) X dL_cell_3 (by decide) (fun c3_1 => ?_) (fun c3_1 => ?_)
  · skip
    refine aw_ldc X dL_cell_12 a_L_7 ?_
    refine aw_iload_n X dL_cell_14 rfl ?_
    refine aw_iconst X (1) dL_cell_15 rfl ?_
    refine aw_iadd X dL_cell_16 ?_
    refine aw_imul X dL_cell_17 ?_
    exact aw_iret X hQ dL_cell_18 ⟨⟨_, rfl⟩, rfl⟩
  · skip
    refine aw_aload_n X dL_cell_6 rfl ?_
    refine aw_iload_n X dL_cell_7 rfl ?_
    refine aw_sld X hX (fun q => q.elim hk (fun q => c3_1 (cell_in hL hk q))) dL_cell_8 ?_
    refine aw_goto (tgt := 18) X dL_cell_9 (by decide) ?_
    exact aw_iret X hQ dL_cell_18 ⟨⟨_, rfl⟩, rfl⟩

set_option maxHeartbeats 1000000 in
set_option maxRecDepth 100000 in
theorem c_L_spoilt (l : Launch) (U : xU) {Kp : Nat → Prop} {μ0 : xH} {a : Nat} {z : xV} {un : Nat} {t s0 s1 : xV} {v0 v1 : Int32} (hR : LR U Kp μ0 a z un t s0 s1 v0 v1) : Ct l U yL_spoilt cL_spoilt 1 (some .int) ({ frames := 4, cells := 0, slots := 0, locals := 88 } : Room) [.ref a] μ0 (fun r μ' => r = some (.int (lSp z)) ∧ μ' = μ0) := by
  refine Ct.of [some (.ref a)] (by decide +kernel) rfl (Nat.le_of_ble_eq_true rfl) (fun K Q X hnm hQ => ?_)
  refine aw_aload_n X dL_spoilt_0 rfl ?_
  refine aw_iconst X (0) dL_spoilt_1 rfl ?_
  refine aw_iconst X (2) dL_spoilt_2 rfl ?_
  refine aw_lF (As := [.int _, .int _]) X hR.g0 (l_grade hR _ _) s_L_9 k_X4_grade (by decide) ⟨rfl, rfl⟩ (by exact ⟨Nat.le_of_ble_eq_true rfl, Nat.le_of_ble_eq_true rfl⟩) rfl (by exact Nat.le_of_ble_eq_true rfl) rfl dL_spoilt_3 ?_
  refine aw_top (z 18) rfl ?_
  refine aw_aload_n X dL_spoilt_6 rfl ?_
  refine aw_iconst X (1) dL_spoilt_7 rfl ?_
  refine aw_iconst X (2) dL_spoilt_8 rfl ?_
  refine aw_lF (As := [.int _, .int _]) X hR.g0 (l_grade hR _ _) s_L_9 k_X4_grade (by decide) ⟨rfl, rfl⟩ (by exact ⟨Nat.le_of_ble_eq_true rfl, Nat.le_of_ble_eq_true rfl⟩) rfl (by exact Nat.le_of_ble_eq_true rfl) rfl dL_spoilt_9 ?_
  refine aw_top (z 19) rfl ?_
  refine aw_iadd X dL_spoilt_12 ?_
  refine aw_aload_n X dL_spoilt_13 rfl ?_
  refine aw_iconst X (2) dL_spoilt_14 rfl ?_
  refine aw_iconst X (2) dL_spoilt_15 rfl ?_
  refine aw_lF (As := [.int _, .int _]) X hR.g0 (l_grade hR _ _) s_L_9 k_X4_grade (by decide) ⟨rfl, rfl⟩ (by exact ⟨Nat.le_of_ble_eq_true rfl, Nat.le_of_ble_eq_true rfl⟩) rfl (by exact Nat.le_of_ble_eq_true rfl) rfl dL_spoilt_16 ?_
  refine aw_top (z 20) rfl ?_
  refine aw_iadd X dL_spoilt_19 ?_
  refine aw_aload_n X dL_spoilt_20 rfl ?_
  refine aw_iconst X (3) dL_spoilt_21 rfl ?_
  refine aw_iconst X (2) dL_spoilt_22 rfl ?_
  refine aw_lF (As := [.int _, .int _]) X hR.g0 (l_grade hR _ _) s_L_9 k_X4_grade (by decide) ⟨rfl, rfl⟩ (by exact ⟨Nat.le_of_ble_eq_true rfl, Nat.le_of_ble_eq_true rfl⟩) rfl (by exact Nat.le_of_ble_eq_true rfl) rfl dL_spoilt_23 ?_
  refine aw_top (z 21) rfl ?_
  refine aw_iadd X dL_spoilt_26 ?_
  exact aw_iret X hQ dL_spoilt_27 ⟨rfl, rfl⟩

set_option maxHeartbeats 1000000 in
set_option maxRecDepth 100000 in
theorem c_L_atBerth (l : Launch) (U : xU) {Kp : Nat → Prop} {μ0 : xH} {a : Nat} {z : xV} {un : Nat} {t s0 s1 : xV} {v0 v1 : Int32} (hR : LR U Kp μ0 a z un t s0 s1 v0 v1) : Ct l U yL_atBerth cL_atBerth 1 (some .int) ({ frames := 5, cells := 0, slots := 0, locals := 110 } : Room) [.ref a] μ0 (fun r μ' => r = some (.int (lAt z)) ∧ μ' = μ0) := by
  refine Ct.of [some (.ref a)] (by decide +kernel) rfl (Nat.le_of_ble_eq_true rfl) (fun K Q X hnm hQ => ?_)
  refine aw_aload_n X dL_atBerth_0 rfl ?_
  refine aw_iconst X (0) dL_atBerth_1 rfl ?_
  refine aw_iconst X (0) dL_atBerth_2 rfl ?_
  refine aw_lF (As := [.int _, .int _]) X hR.g0 (l_tanker hR _ _) s_L_15 k_X4_tanker (by decide) ⟨rfl, rfl⟩ (by exact ⟨Nat.le_of_ble_eq_true rfl, Nat.le_of_ble_eq_true rfl⟩) rfl (by exact Nat.le_of_ble_eq_true rfl) rfl dL_atBerth_3 ?_
  refine aw_aload_n X dL_atBerth_6 rfl ?_
  refine aw_iconst X (0) dL_atBerth_7 rfl ?_
  refine aw_iconst X (1) dL_atBerth_8 rfl ?_
  refine aw_lF (As := [.int _, .int _]) X hR.g0 (l_tanker hR _ _) s_L_15 k_X4_tanker (by decide) ⟨rfl, rfl⟩ (by exact ⟨Nat.le_of_ble_eq_true rfl, Nat.le_of_ble_eq_true rfl⟩) rfl (by exact Nat.le_of_ble_eq_true rfl) rfl dL_atBerth_9 ?_
  refine aw_iadd X dL_atBerth_12 ?_
  refine aw_aload_n X dL_atBerth_13 rfl ?_
  refine aw_iconst X (0) dL_atBerth_14 rfl ?_
  refine aw_iconst X (2) dL_atBerth_15 rfl ?_
  refine aw_lF (As := [.int _, .int _]) X hR.g0 (l_tanker hR _ _) s_L_15 k_X4_tanker (by decide) ⟨rfl, rfl⟩ (by exact ⟨Nat.le_of_ble_eq_true rfl, Nat.le_of_ble_eq_true rfl⟩) rfl (by exact Nat.le_of_ble_eq_true rfl) rfl dL_atBerth_16 ?_
  refine aw_iadd X dL_atBerth_19 ?_
  refine aw_aload_n X dL_atBerth_20 rfl ?_
  refine aw_iconst X (0) dL_atBerth_21 rfl ?_
  refine aw_iconst X (3) dL_atBerth_22 rfl ?_
  refine aw_lF (As := [.int _, .int _]) X hR.g0 (l_tanker hR _ _) s_L_15 k_X4_tanker (by decide) ⟨rfl, rfl⟩ (by exact ⟨Nat.le_of_ble_eq_true rfl, Nat.le_of_ble_eq_true rfl⟩) rfl (by exact Nat.le_of_ble_eq_true rfl) rfl dL_atBerth_23 ?_
  refine aw_iadd X dL_atBerth_26 ?_
  exact aw_iret X hQ dL_atBerth_27 ⟨rfl, rfl⟩

set_option maxHeartbeats 1000000 in
set_option maxRecDepth 100000 in
theorem c_L_tale (l : Launch) (U : xU) {Kp : Nat → Prop} {μ0 : xH} {a : Nat} {z : xV} {un : Nat} {t s0 s1 : xV} {v0 v1 : Int32} (hR : LR U Kp μ0 a z un t s0 s1 v0 v1) : Ct l U yL_tale cL_tale 4 (some .long) ({ frames := 5, cells := 0, slots := 0, locals := 110 } : Room) [.ref a] μ0 (fun r μ' => r = some (.long (tTale z)) ∧ μ' = μ0) := by
  refine Ct.of [some (.ref a), none, none, none] (by decide +kernel) rfl (Nat.le_of_ble_eq_true rfl) (fun K Q X hnm hQ => ?_)
  refine aw_ldc2 X dL_tale_0 a_L_18 ?_
  refine aw_lstore_n X dL_tale_3 rfl (by decide) ?_
  refine aw_iconst X (0) dL_tale_4 rfl ?_
  refine aw_istore_n X dL_tale_5 rfl (by decide) ?_
  have loop : ∀ (d k : Nat) , k + d = 18 → AW U K 4 0 0 Q μ0 6 [some (.ref a), some (.long (tA z k)), none, some (.int (nI k))] [] := by
    intro d
    induction d with
    | zero =>
      intro k hk
      have hk : k = 18 := by omega
      subst hk
      refine aw_iload_n X dL_tale_6 rfl ?_
      refine aw_bipush X (18) dL_tale_7 rfl ?_
      refine aw_icmp_ge_t (tgt := 31) X dL_tale_9 (by decide) (by decide) ?_
      refine aw_iconst X (0) dL_tale_31 rfl ?_
      refine aw_istore_n X dL_tale_32 rfl (by decide) ?_
      have loop : ∀ (d k : Nat) , k + d = 24 → AW U K 4 0 0 Q μ0 33 [some (.ref a), some (.long (tB z k)), none, some (.int (nI k))] [] := by
        intro d
        induction d with
        | zero =>
          intro k hk
          have hk : k = 24 := by omega
          subst hk
          refine aw_iload_n X dL_tale_33 rfl ?_
          refine aw_bipush X (24) dL_tale_34 rfl ?_
          refine aw_icmp_ge_t (tgt := 65) X dL_tale_36 (by decide) (by decide) ?_
          refine aw_iconst X (0) dL_tale_65 rfl ?_
          refine aw_istore_n X dL_tale_66 rfl (by decide) ?_
          have loop : ∀ (d k : Nat) , k + d = 16 → AW U K 4 0 0 Q μ0 67 [some (.ref a), some (.long (tC z k)), none, some (.int (nI k))] [] := by
            intro d
            induction d with
            | zero =>
              intro k hk
              have hk : k = 16 := by omega
              subst hk
              refine aw_iload_n X dL_tale_67 rfl ?_
              refine aw_bipush X (16) dL_tale_68 rfl ?_
              refine aw_icmp_ge_t (tgt := 97) X dL_tale_70 (by decide) (by decide) ?_
              refine aw_iconst X (0) dL_tale_97 rfl ?_
              refine aw_istore_n X dL_tale_98 rfl (by decide) ?_
              have loop : ∀ (d k : Nat) , k + d = 48 → AW U K 4 0 0 Q μ0 99 [some (.ref a), some (.long (tD z k)), none, some (.int (nI k))] [] := by
                intro d
                induction d with
                | zero =>
                  intro k hk
                  have hk : k = 48 := by omega
                  subst hk
                  refine aw_iload_n X dL_tale_99 rfl ?_
                  refine aw_bipush X (48) dL_tale_100 rfl ?_
                  refine aw_icmp_ge_t (tgt := 131) X dL_tale_102 (by decide) (by decide) ?_
                  refine aw_lload_n X dL_tale_131 rfl ?_
                  exact aw_lret X hQ dL_tale_132 ⟨rfl, rfl⟩
                | succ d ih =>
                  intro k hk
                  refine aw_iload_n X dL_tale_99 rfl ?_
                  refine aw_bipush X (48) dL_tale_100 rfl ?_
                  refine aw_icmp_ge_f (tgt := 131) X dL_tale_102 (by decide) (xn_le (N := 48) (by omega) (by decide) rfl) ?_
                  refine aw_ldc2 X dL_tale_105 a_L_33 ?_
                  refine aw_lload_n X dL_tale_108 rfl ?_
                  refine aw_lmul X dL_tale_109 ?_
                  refine aw_aload_n X dL_tale_110 rfl ?_
                  refine aw_iload_n X dL_tale_111 rfl ?_
                  refine aw_bipush X (8) dL_tale_112 rfl ?_
                  refine aw_idiv X dL_tale_114 (by decide) ?_
                  refine aw_iload_n X dL_tale_115 rfl ?_
                  refine aw_bipush X (8) dL_tale_116 rfl ?_
                  refine aw_irem X dL_tale_118 (by decide) ?_
                  refine aw_lF (As := [.int _, .int _]) X hR.g0 (l_tanker hR _ _) s_L_15 k_X4_tanker (by decide) ⟨rfl, rfl⟩ (by exact ⟨Nat.le_of_ble_eq_true rfl, Nat.le_of_ble_eq_true rfl⟩) rfl (by exact Nat.le_of_ble_eq_true rfl) rfl dL_tale_119 ?_
                  refine aw_i2l X dL_tale_122 ?_
                  refine aw_ladd X dL_tale_123 ?_
                  refine aw_lstore_n X dL_tale_124 rfl (by decide) ?_
                  refine aw_iinc X (1) dL_tale_125 rfl rfl rfl (by decide) ?_
                  refine aw_goto (tgt := 99) X dL_tale_128 (by decide) ?_
                  refine aw_sub [some (.ref a), some (.long (tD z (k + 1))), none, some (.int (nI (k + 1)))] ⟨rfl, rfl, (congrArg (fun q => some (Value.int q)) (nI_1 k)), trivial⟩ ?_
                  exact ih (k + 1) (by omega)
              refine aw_sub [some (.ref a), some (.long (tD z 0)), none, some (.int (nI 0))] ⟨rfl, rfl, rfl, trivial⟩ ?_
              exact loop (48) 0 (by omega)
            | succ d ih =>
              intro k hk
              refine aw_iload_n X dL_tale_67 rfl ?_
              refine aw_bipush X (16) dL_tale_68 rfl ?_
              refine aw_icmp_ge_f (tgt := 97) X dL_tale_70 (by decide) (xn_le (N := 16) (by omega) (by decide) rfl) ?_
              refine aw_ldc2 X dL_tale_73 a_L_31 ?_
              refine aw_lload_n X dL_tale_76 rfl ?_
              refine aw_lmul X dL_tale_77 ?_
              refine aw_aload_n X dL_tale_78 rfl ?_
              refine aw_iload_n X dL_tale_79 rfl ?_
              refine aw_iconst X (4) dL_tale_80 rfl ?_
              refine aw_idiv X dL_tale_81 (by decide) ?_
              refine aw_iload_n X dL_tale_82 rfl ?_
              refine aw_iconst X (4) dL_tale_83 rfl ?_
              refine aw_irem X dL_tale_84 (by decide) ?_
              refine aw_lF (As := [.int _, .int _]) X hR.g0 (l_grade hR _ _) s_L_9 k_X4_grade (by decide) ⟨rfl, rfl⟩ (by exact ⟨Nat.le_of_ble_eq_true rfl, Nat.le_of_ble_eq_true rfl⟩) rfl (by exact Nat.le_of_ble_eq_true rfl) rfl dL_tale_85 ?_
              refine aw_i2l X dL_tale_88 ?_
              refine aw_ladd X dL_tale_89 ?_
              refine aw_lstore_n X dL_tale_90 rfl (by decide) ?_
              refine aw_iinc X (1) dL_tale_91 rfl rfl rfl (by decide) ?_
              refine aw_goto (tgt := 67) X dL_tale_94 (by decide) ?_
              refine aw_sub [some (.ref a), some (.long (tC z (k + 1))), none, some (.int (nI (k + 1)))] ⟨rfl, rfl, (congrArg (fun q => some (Value.int q)) (nI_1 k)), trivial⟩ ?_
              exact ih (k + 1) (by omega)
          refine aw_sub [some (.ref a), some (.long (tC z 0)), none, some (.int (nI 0))] ⟨rfl, rfl, rfl, trivial⟩ ?_
          exact loop (16) 0 (by omega)
        | succ d ih =>
          intro k hk
          refine aw_iload_n X dL_tale_33 rfl ?_
          refine aw_bipush X (24) dL_tale_34 rfl ?_
          refine aw_icmp_ge_f (tgt := 65) X dL_tale_36 (by decide) (xn_le (N := 24) (by omega) (by decide) rfl) ?_
          refine aw_ldc2 X dL_tale_39 a_L_26 ?_
          refine aw_lload_n X dL_tale_42 rfl ?_
          refine aw_lmul X dL_tale_43 ?_
          refine aw_aload_n X dL_tale_44 rfl ?_
          refine aw_iload_n X dL_tale_45 rfl ?_
          refine aw_bipush X (6) dL_tale_46 rfl ?_
          refine aw_idiv X dL_tale_48 (by decide) ?_
          refine aw_iload_n X dL_tale_49 rfl ?_
          refine aw_bipush X (6) dL_tale_50 rfl ?_
          refine aw_irem X dL_tale_52 (by decide) ?_
          refine aw_lF (As := [.int _, .int _]) X hR.g0 (l_hose hR _ _) s_L_28 k_X4_hose (by decide) ⟨rfl, rfl⟩ (by exact ⟨Nat.le_of_ble_eq_true rfl, Nat.le_of_ble_eq_true rfl⟩) rfl (by exact Nat.le_of_ble_eq_true rfl) rfl dL_tale_53 ?_
          refine aw_i2l X dL_tale_56 ?_
          refine aw_ladd X dL_tale_57 ?_
          refine aw_lstore_n X dL_tale_58 rfl (by decide) ?_
          refine aw_iinc X (1) dL_tale_59 rfl rfl rfl (by decide) ?_
          refine aw_goto (tgt := 33) X dL_tale_62 (by decide) ?_
          refine aw_sub [some (.ref a), some (.long (tB z (k + 1))), none, some (.int (nI (k + 1)))] ⟨rfl, rfl, (congrArg (fun q => some (Value.int q)) (nI_1 k)), trivial⟩ ?_
          exact ih (k + 1) (by omega)
      refine aw_sub [some (.ref a), some (.long (tB z 0)), none, some (.int (nI 0))] ⟨rfl, rfl, rfl, trivial⟩ ?_
      exact loop (24) 0 (by omega)
    | succ d ih =>
      intro k hk
      refine aw_iload_n X dL_tale_6 rfl ?_
      refine aw_bipush X (18) dL_tale_7 rfl ?_
      refine aw_icmp_ge_f (tgt := 31) X dL_tale_9 (by decide) (xn_le (N := 18) (by omega) (by decide) rfl) ?_
      refine aw_ldc2 X dL_tale_12 a_L_20 ?_
      refine aw_lload_n X dL_tale_15 rfl ?_
      refine aw_lmul X dL_tale_16 ?_
      refine aw_aload_n X dL_tale_17 rfl ?_
      refine aw_iload_n X dL_tale_18 rfl ?_
      refine aw_lF (As := [.int _]) X hR.g0 (l_count hR _ (fun q => by have := (nI_eq (by omega) (by decide)).mp (show nI k = nI 18 from q); omega) (fun q => by have := (nI_eq (by omega) (by decide)).mp (show nI k = nI 19 from q); omega)) s_L_22 k_X4_count (by decide) ⟨rfl, rfl⟩ (by exact ⟨Nat.le_of_ble_eq_true rfl, Nat.le_of_ble_eq_true rfl⟩) rfl (by exact Nat.le_of_ble_eq_true rfl) rfl dL_tale_19 ?_
      refine aw_i2l X dL_tale_22 ?_
      refine aw_ladd X dL_tale_23 ?_
      refine aw_lstore_n X dL_tale_24 rfl (by decide) ?_
      refine aw_iinc X (1) dL_tale_25 rfl rfl rfl (by decide) ?_
      refine aw_goto (tgt := 6) X dL_tale_28 (by decide) ?_
      refine aw_sub [some (.ref a), some (.long (tA z (k + 1))), none, some (.int (nI (k + 1)))] ⟨rfl, rfl, (congrArg (fun q => some (Value.int q)) (nI_1 k)), trivial⟩ ?_
      exact ih (k + 1) (by omega)
  refine aw_sub [some (.ref a), some (.long (tA z 0)), none, some (.int (nI 0))] ⟨rfl, rfl, rfl, trivial⟩ ?_
  exact loop (18) 0 (by omega)
