/-! a turn, from behind its change; a turn -/
set_option maxHeartbeats 20000000 in
set_option maxRecDepth 100000 in
theorem lw_mid {U : xU} {K : xK} {cells slots : Nat} {Q : State → Prop} {a am : Nat} {μ : xH} {z : xV} {un : Nat} {t' s0 s1 : xV} {v0 v1 : Int32} {f : Nat → Int32} {f2 : Nat → Int32} (X : Cx U K yL_law cL_law 9 (some .boolean) room_1) {t : Nat} (ht : t < 40) {x y x' : Int32} {q : Int32 × xV} {was : Int64} (hL : LV z f t) (hqe : q = aQ z x' y) (hop : OpR q z f f2 t) (hx : t % 5 = 0 → x' = if t = 0 then 0 else x) (hwas : t % 5 = 0 → was = tTale z) (hR : LR U (fun q => q = am) μ a q.2 (dUn un q) (if isErr q.1 = true then t' else z) s0 s1 v0 v1) (hm : μ am = some (.inl (uC U 0, 12, .inl f2))) (hf : cells + 1 ≤ room_1.cells ∧ slots + 4 ≤ room_1.slots) (hf2 : cells + 1 + 2 ≤ room_1.cells ∧ slots + 4 + 16 ≤ room_1.slots) (hf3 : cells + 3 ≤ room_1.cells ∧ slots + 20 ≤ room_1.slots) (kk : ∀ (μ' : xH) (un' : Nat) (t2 s0' s1' : xV) (v0' v1' : Int32), LR U (fun q => q = am) μ' a q.2 un' t2 s0' s1' v0' v1' → μ' am = some (.inl (uC U 0, 12, .inl f2)) → AW U K 9 (cells + 3) (slots + 20) Q μ' 36 [some (.ref (uA U 4)), some (.ref a), some (.ref am), some (.int (nI (t + 1))), none, none, none, none, none] []) : AW U K 9 (cells + 1) (slots + 4) Q μ 106 [some (.ref (uA U 4)), some (.ref a), some (.ref am), some (.int (nI t)), some (.int x), some (.int y), some (.long was), none, some (.int q.1)] [] := by
  have hdu : dUn un q ≤ 6 := hR.un6
  have hal : ∀ q, q = am → μ q ≠ none := fun q hq => by rw [hq, hm]; exact fun e => nomatch e
  rcases hop with ⟨e1, e2, e3, e4⟩ | ⟨e1, e2, e3⟩
  · skip
    have hL' : LV q.2 f2 (t + 1) := by rw [e3, e4]; exact hL.mono
    have ett : tTale q.2 = tTale z := by rw [e3]
    by_cases h5 : t % 5 = 0
    · skip
      refine aw_iload_n X dL_law_106 rfl ?_
      refine aw_iconst X (5) dL_law_107 rfl ?_
      refine aw_irem X dL_law_108 (by decide) ?_
      refine aw_top (nI (t % 5)) (irem_n (d := 5) (by omega) (by decide) (by decide)) ?_
      refine aw_if_ne_f (tgt := 131) X dL_law_109 (by decide) (congrArg nI h5) ?_
      refine aw_iload X dL_law_112 rfl ?_
      refine aw_ldc X dL_law_114 a_L_128 ?_
      refine aw_icmp_ge_f (tgt := 131) X dL_law_116 (by decide) (Int32.not_le.mpr e2) ?_
      refine aw_aload_n X dL_law_119 rfl ?_
      refine aw_lSF (As := [.ref _]) X (c_L_tale (kl K) U hR) s_L_83 k_L_tale (by decide) ⟨rfl, rfl⟩ hf rfl (by exact Nat.le_of_ble_eq_true rfl) dL_law_120 ?_
      refine aw_lload X dL_law_123 rfl ?_
      refine aw_lcmp X dL_law_125 ?_
      refine aw_top (0) (by rw [hwas h5, ett]; exact lg_self _) ?_
      refine aw_if_eq_t (tgt := 131) X dL_law_126 (by decide) (by decide) ?_
      refine aw_iload_n X dL_law_131 rfl ?_
      refine aw_iconst X (5) dL_law_132 rfl ?_
      refine aw_irem X dL_law_133 (by decide) ?_
      refine aw_top (nI (t % 5)) (irem_n (d := 5) (by omega) (by decide) (by decide)) ?_
      refine aw_if_ne_f (tgt := 163) X dL_law_134 (by decide) (congrArg nI h5) ?_
      refine aw_iload X dL_law_137 rfl ?_
      refine aw_ldc X dL_law_139 a_L_128 ?_
      refine aw_icmp_le_t (tgt := 163) X dL_law_141 (by decide) (Int32.le_of_lt e2) ?_
      refine aw_iload_n X dL_law_163 rfl ?_
      refine aw_iconst X (5) dL_law_164 rfl ?_
      refine aw_irem X dL_law_165 (by decide) ?_
      refine aw_top (nI (t % 5)) (irem_n (d := 5) (by omega) (by decide) (by decide)) ?_
      refine aw_if_ne_f (tgt := 199) X dL_law_166 (by decide) (congrArg nI h5) ?_
      refine aw_iload X dL_law_169 rfl ?_
      refine aw_ldc X dL_law_171 a_L_128 ?_
      refine aw_icmp_le_t (tgt := 199) X dL_law_173 (by decide) (Int32.le_of_lt e2) ?_
      refine aw_widen (k := cells + 3) (n := slots + 20) (by omega) (by omega) ?_
      refine aw_sub [some (.ref (uA U 4)), some (.ref a), some (.ref am), some (.int (nI t)), some (.int x), some (.int y), none, none, none] ⟨rfl, rfl, rfl, rfl, rfl, rfl, trivial⟩ ?_
      exact lw_tail X ht hR hm hL' hf3 kk
    · skip
      refine aw_iload_n X dL_law_106 rfl ?_
      refine aw_iconst X (5) dL_law_107 rfl ?_
      refine aw_irem X dL_law_108 (by decide) ?_
      refine aw_top (nI (t % 5)) (irem_n (d := 5) (by omega) (by decide) (by decide)) ?_
      refine aw_if_ne_t (tgt := 131) X dL_law_109 (by decide) (fun q => h5 ((nI_inj (b := 0) (by omega) (by omega)).mp q)) ?_
      refine aw_iload_n X dL_law_131 rfl ?_
      refine aw_iconst X (5) dL_law_132 rfl ?_
      refine aw_irem X dL_law_133 (by decide) ?_
      refine aw_top (nI (t % 5)) (irem_n (d := 5) (by omega) (by decide) (by decide)) ?_
      refine aw_if_ne_t (tgt := 163) X dL_law_134 (by decide) (fun q => h5 ((nI_inj (b := 0) (by omega) (by omega)).mp q)) ?_
      refine aw_iload_n X dL_law_163 rfl ?_
      refine aw_iconst X (5) dL_law_164 rfl ?_
      refine aw_irem X dL_law_165 (by decide) ?_
      refine aw_top (nI (t % 5)) (irem_n (d := 5) (by omega) (by decide) (by decide)) ?_
      refine aw_if_ne_t (tgt := 199) X dL_law_166 (by decide) (fun q => h5 ((nI_inj (b := 0) (by omega) (by omega)).mp q)) ?_
      refine aw_widen (k := cells + 3) (n := slots + 20) (by omega) (by omega) ?_
      refine aw_sub [some (.ref (uA U 4)), some (.ref a), some (.ref am), some (.int (nI t)), some (.int x), some (.int y), none, none, none] ⟨rfl, rfl, rfl, rfl, rfl, rfl, trivial⟩ ?_
      exact lw_tail X ht hR hm hL' hf3 kk
  · skip
    have hL' : LV q.2 f2 (t + 1) := e3
    have ez : (if isErr q.1 = true then t' else z) = z := by rw [e1]; rfl
    have hu0 : ¬ dUn un q = 0 := by
      unfold dUn oUn
      rw [if_neg (by rw [e1]; decide)]
      split <;> omega
    by_cases h5 : t % 5 = 0
    · skip
      refine aw_iload_n X dL_law_106 rfl ?_
      refine aw_iconst X (5) dL_law_107 rfl ?_
      refine aw_irem X dL_law_108 (by decide) ?_
      refine aw_top (nI (t % 5)) (irem_n (d := 5) (by omega) (by decide) (by decide)) ?_
      refine aw_if_ne_f (tgt := 131) X dL_law_109 (by decide) (congrArg nI h5) ?_
      refine aw_iload X dL_law_112 rfl ?_
      refine aw_ldc X dL_law_114 a_L_128 ?_
      refine aw_icmp_ge_t (tgt := 131) X dL_law_116 (by decide) (Int32.le_trans (by decide) (Int32.not_lt.mp e2)) ?_
      refine aw_iload_n X dL_law_131 rfl ?_
      refine aw_iconst X (5) dL_law_132 rfl ?_
      refine aw_irem X dL_law_133 (by decide) ?_
      refine aw_top (nI (t % 5)) (irem_n (d := 5) (by omega) (by decide) (by decide)) ?_
      refine aw_if_ne_f (tgt := 163) X dL_law_134 (by decide) (congrArg nI h5) ?_
      refine aw_iload X dL_law_137 rfl ?_
      refine aw_ldc X dL_law_139 a_L_128 ?_
      refine aw_icmp_le_f (tgt := 163) X dL_law_141 (by decide) (fun q => e2 (Int32.lt_of_le_of_lt q (by decide))) ?_
      refine aw_aload_n X dL_law_144 rfl ?_
      refine aw_lV (As := []) X hR.g0 (l_undo hR hu0) s_L_117 k_X4_undo (by decide) ⟨rfl, rfl⟩ hf rfl (by exact Nat.le_of_ble_eq_true rfl) rfl dL_law_145 (fun μ hP => ?_)
      obtain ⟨⟨t_1, hR⟩, hK⟩ := hP
      have hm := (hK am rfl).trans hm
      rw [ez] at hR
      refine aw_if_lt_f (tgt := 161) X dL_law_148 (by decide) (nI_pos (by omega)) ?_
      refine aw_aload_n X dL_law_151 rfl ?_
      refine aw_lSF (As := [.ref _]) X (c_L_tale (kl K) U hR) s_L_83 k_L_tale (by decide) ⟨rfl, rfl⟩ hf rfl (by exact Nat.le_of_ble_eq_true rfl) dL_law_152 ?_
      refine aw_lload X dL_law_155 rfl ?_
      refine aw_lcmp X dL_law_157 ?_
      refine aw_top (0) (by rw [hwas h5]; exact lg_self _) ?_
      refine aw_if_eq_t (tgt := 163) X dL_law_158 (by decide) (by decide) ?_
      refine aw_iload_n X dL_law_163 rfl ?_
      refine aw_iconst X (5) dL_law_164 rfl ?_
      refine aw_irem X dL_law_165 (by decide) ?_
      refine aw_top (nI (t % 5)) (irem_n (d := 5) (by omega) (by decide) (by decide)) ?_
      refine aw_if_ne_f (tgt := 199) X dL_law_166 (by decide) (congrArg nI h5) ?_
      refine aw_iload X dL_law_169 rfl ?_
      refine aw_ldc X dL_law_171 a_L_128 ?_
      refine aw_icmp_le_f (tgt := 199) X dL_law_173 (by decide) (fun q => e2 (Int32.lt_of_le_of_lt q (by decide))) ?_
      refine aw_aload_n X dL_law_176 rfl ?_
      by_cases h0 : t = 0
      · skip
        have hx' : x' = 0 := (hx h5).trans (if_pos h0)
        refine aw_iload_n X dL_law_177 rfl ?_
        refine aw_if_ne_f (tgt := 185) X dL_law_178 (by decide) (congrArg nI h0) ?_
        refine aw_iconst X (0) dL_law_181 rfl ?_
        refine aw_goto (tgt := 187) X dL_law_182 (by decide) ?_
        refine aw_iload X dL_law_187 rfl ?_
        refine aw_lS (As := [.ref _, .int _, .int _]) X 2 16 (c_L_redo (kl K) U hR (fun q hq => by rw [hq, hm]; exact fun e => nomatch e) _ _) s_L_129 k_L_redo (by decide) ⟨rfl, rfl⟩ hf2 rfl (by exact Nat.le_of_ble_eq_true rfl) dL_law_189 (fun μ hP => ?_)
        obtain ⟨hR, hK⟩ := hP
        have hm := (hK am rfl).trans hm
        refine aw_iload X dL_law_192 rfl ?_
        refine aw_icmp_eq_t (tgt := 199) X dL_law_194 (by decide) (by rw [hqe, hx']) ?_
        have eq2 : aQ z 0 y = q := by rw [hqe, hx']
        rw [eq2] at hR
        refine aw_widen (k := cells + 3) (n := slots + 20) (by omega) (by omega) ?_
        refine aw_sub [some (.ref (uA U 4)), some (.ref a), some (.ref am), some (.int (nI t)), some (.int x), some (.int y), none, none, none] ⟨rfl, rfl, rfl, rfl, rfl, rfl, trivial⟩ ?_
        exact lw_tail X ht hR hm hL' hf3 kk
      · skip
        have hx' : x' = x := (hx h5).trans (if_neg h0)
        refine aw_iload_n X dL_law_177 rfl ?_
        refine aw_if_ne_t (tgt := 185) X dL_law_178 (by decide) (fun q => h0 ((nI_inj (b := 0) (by omega) (by omega)).mp q)) ?_
        refine aw_iload X dL_law_185 rfl ?_
        refine aw_iload X dL_law_187 rfl ?_
        refine aw_lS (As := [.ref _, .int _, .int _]) X 2 16 (c_L_redo (kl K) U hR (fun q hq => by rw [hq, hm]; exact fun e => nomatch e) _ _) s_L_129 k_L_redo (by decide) ⟨rfl, rfl⟩ hf2 rfl (by exact Nat.le_of_ble_eq_true rfl) dL_law_189 (fun μ hP => ?_)
        obtain ⟨hR, hK⟩ := hP
        have hm := (hK am rfl).trans hm
        refine aw_iload X dL_law_192 rfl ?_
        refine aw_icmp_eq_t (tgt := 199) X dL_law_194 (by decide) (by rw [hqe, hx']) ?_
        have eq2 : aQ z x y = q := by rw [hqe, hx']
        rw [eq2] at hR
        refine aw_widen (k := cells + 3) (n := slots + 20) (by omega) (by omega) ?_
        refine aw_sub [some (.ref (uA U 4)), some (.ref a), some (.ref am), some (.int (nI t)), some (.int x), some (.int y), none, none, none] ⟨rfl, rfl, rfl, rfl, rfl, rfl, trivial⟩ ?_
        exact lw_tail X ht hR hm hL' hf3 kk
    · skip
      refine aw_iload_n X dL_law_106 rfl ?_
      refine aw_iconst X (5) dL_law_107 rfl ?_
      refine aw_irem X dL_law_108 (by decide) ?_
      refine aw_top (nI (t % 5)) (irem_n (d := 5) (by omega) (by decide) (by decide)) ?_
      refine aw_if_ne_t (tgt := 131) X dL_law_109 (by decide) (fun q => h5 ((nI_inj (b := 0) (by omega) (by omega)).mp q)) ?_
      refine aw_iload_n X dL_law_131 rfl ?_
      refine aw_iconst X (5) dL_law_132 rfl ?_
      refine aw_irem X dL_law_133 (by decide) ?_
      refine aw_top (nI (t % 5)) (irem_n (d := 5) (by omega) (by decide) (by decide)) ?_
      refine aw_if_ne_t (tgt := 163) X dL_law_134 (by decide) (fun q => h5 ((nI_inj (b := 0) (by omega) (by omega)).mp q)) ?_
      refine aw_iload_n X dL_law_163 rfl ?_
      refine aw_iconst X (5) dL_law_164 rfl ?_
      refine aw_irem X dL_law_165 (by decide) ?_
      refine aw_top (nI (t % 5)) (irem_n (d := 5) (by omega) (by decide) (by decide)) ?_
      refine aw_if_ne_t (tgt := 199) X dL_law_166 (by decide) (fun q => h5 ((nI_inj (b := 0) (by omega) (by omega)).mp q)) ?_
      refine aw_widen (k := cells + 3) (n := slots + 20) (by omega) (by omega) ?_
      refine aw_sub [some (.ref (uA U 4)), some (.ref a), some (.ref am), some (.int (nI t)), some (.int x), some (.int y), none, none, none] ⟨rfl, rfl, rfl, rfl, rfl, rfl, trivial⟩ ?_
      exact lw_tail X ht hR hm hL' hf3 kk
theorem OpR.lv {q : Int32 × xV} {z : xV} {f f' : Nat → Int32} {n : Nat} (hL : LV z f n) (h : OpR q z f f' n) : LV q.2 f' (n + 1) := by
  rcases h with ⟨-, -, e3, e4⟩ | ⟨-, -, e3⟩
  · rw [e3, e4]; exact hL.mono
  · exact e3
set_option maxHeartbeats 20000000 in
set_option maxRecDepth 100000 in
theorem lw_turn {U : xU} {K : xK} {cells slots : Nat} {Q : State → Prop} {a am : Nat} {μ : xH} {z : xV} {un : Nat} {t' s0 s1 : xV} {v0 v1 : Int32} {f : Nat → Int32} (X : Cx U K yL_law cL_law 9 (some .boolean) room_1) {t : Nat} (ht : t < 40) (hL : LV z f t) (hR : LR U (fun q => q = am) μ a z un t' s0 s1 v0 v1) (hm : μ am = some (.inl (uC U 0, 12, .inl f))) (hf : cells ≤ room_1.cells ∧ slots ≤ room_1.slots) (hf1 : cells + 1 ≤ room_1.cells ∧ slots + 4 ≤ room_1.slots) (hf2 : cells + 1 + 2 ≤ room_1.cells ∧ slots + 4 + 16 ≤ room_1.slots) (hf3 : cells + 3 ≤ room_1.cells ∧ slots + 20 ≤ room_1.slots) (kk : ∀ (μ' : xH) (z' : xV) (f' : Nat → Int32) (un' : Nat) (t2 s0' s1' : xV) (v0' v1' : Int32), LR U (fun q => q = am) μ' a z' un' t2 s0' s1' v0' v1' → μ' am = some (.inl (uC U 0, 12, .inl f')) → LV z' f' (t + 1) → AW U K 9 (cells + 3) (slots + 20) Q μ' 36 [some (.ref (uA U 4)), some (.ref a), some (.ref am), some (.int (nI (t + 1))), none, none, none, none, none] []) : AW U K 9 cells slots Q μ 36 [some (.ref (uA U 4)), some (.ref a), some (.ref am), some (.int (nI t)), none, none, none, none, none] [] := by
  have hal : ∀ q, q = am → μ q ≠ none := fun q hq => by rw [hq, hm]; exact fun e => nomatch e
  refine aw_iload_n X dL_law_36 rfl ?_
  refine aw_bipush X (40) dL_law_37 rfl ?_
  refine aw_icmp_ge_f (tgt := 271) X dL_law_39 (by decide) (nI_ge (b := 40) ht (by decide)) ?_
  refine aw_aload_n X dL_law_42 rfl ?_
  refine aw_iconst X (2) dL_law_43 rfl ?_
  refine aw_iload_n X dL_law_44 rfl ?_
  refine aw_imul X dL_law_45 ?_
  refine aw_lSe (As := [.ref _, .int _]) X (c_L_cell (kl K) U _ _ (by rw [show (2 : Int32) * nI t = nI (2 * t) from pk_mul 2 t]; exact nI_pos (by omega))) s_L_120 k_L_cell (by decide) ⟨rfl, rfl⟩ hf rfl (by exact Nat.le_of_ble_eq_true rfl) dL_law_46 (fun x_1 => ?_)
  refine aw_istore X dL_law_49 rfl (by decide) ?_
  refine aw_aload_n X dL_law_51 rfl ?_
  refine aw_iconst X (2) dL_law_52 rfl ?_
  refine aw_iload_n X dL_law_53 rfl ?_
  refine aw_imul X dL_law_54 ?_
  refine aw_iconst X (1) dL_law_55 rfl ?_
  refine aw_iadd X dL_law_56 ?_
  refine aw_lSe (As := [.ref _, .int _]) X (c_L_cell (kl K) U _ _ (by rw [show (2 : Int32) * nI t = nI (2 * t) from pk_mul 2 t, nI_1]; exact nI_pos (by omega))) s_L_120 k_L_cell (by decide) ⟨rfl, rfl⟩ hf rfl (by exact Nat.le_of_ble_eq_true rfl) dL_law_57 (fun x_2 => ?_)
  refine aw_istore X dL_law_60 rfl (by decide) ?_
  by_cases h5 : t % 5 = 0
  · skip
    refine aw_iload_n X dL_law_62 rfl ?_
    refine aw_iconst X (5) dL_law_63 rfl ?_
    refine aw_irem X dL_law_64 (by decide) ?_
    refine aw_top (nI (t % 5)) (irem_n (d := 5) (by omega) (by decide) (by decide)) ?_
    refine aw_if_ne_f (tgt := 75) X dL_law_65 (by decide) (congrArg nI h5) ?_
    refine aw_aload_n X dL_law_68 rfl ?_
    refine aw_lSF (As := [.ref _]) X (c_L_tale (kl K) U hR) s_L_83 k_L_tale (by decide) ⟨rfl, rfl⟩ hf rfl (by exact Nat.le_of_ble_eq_true rfl) dL_law_69 ?_
    refine aw_goto (tgt := 76) X dL_law_72 (by decide) ?_
    refine aw_lstore X dL_law_76 rfl (by decide) ?_
    refine aw_aload_n X dL_law_78 rfl ?_
    by_cases h0 : t = 0
    · skip
      refine aw_iload_n X dL_law_79 rfl ?_
      refine aw_if_ne_f (tgt := 87) X dL_law_80 (by decide) (congrArg nI h0) ?_
      refine aw_iconst X (0) dL_law_83 rfl ?_
      refine aw_goto (tgt := 98) X dL_law_84 (by decide) ?_
      refine aw_iload X dL_law_98 rfl ?_
      refine aw_aload_n X dL_law_100 rfl ?_
      refine aw_lS (As := [.ref _, .int _, .int _, .ref _]) X 1 4 (c_L_act (kl K) U hR rfl hm hal _ _) s_L_124 k_L_act (by decide) ⟨rfl, rfl⟩ hf1 rfl (by exact Nat.le_of_ble_eq_true rfl) dL_law_101 (fun μ hP => ?_)
      obtain ⟨hR, hm, hF⟩ := hP
      refine aw_istore X dL_law_104 rfl (by decide) ?_
      refine aw_sub [some (.ref (uA U 4)), some (.ref a), some (.ref am), some (.int (nI t)), some (.int x_1), some (.int x_2), some (.long (tTale z)), none, some (.int (aQ z (0 : Int32) x_2).1)] ⟨rfl, rfl, rfl, rfl, rfl, rfl, rfl, rfl, trivial⟩ ?_
      exact lw_mid (x' := (0 : Int32)) X ht hL rfl (act_step hL _ _) (fun _ => (if_pos h0).symm) (fun _ => rfl) hR hm hf1 hf2 hf3 (fun μ' un' t2 s0' s1' v0' v1' g1 g2 => kk _ _ _ _ _ _ _ _ _ g1 g2 (OpR.lv hL (act_step hL _ _)))
    · skip
      refine aw_iload_n X dL_law_79 rfl ?_
      refine aw_if_ne_t (tgt := 87) X dL_law_80 (by decide) (fun q => h0 ((nI_inj (b := 0) (by omega) (by omega)).mp q)) ?_
      by_cases h1 : t = 1
      · skip
        refine aw_iload_n X dL_law_87 rfl ?_
        refine aw_iconst X (1) dL_law_88 rfl ?_
        refine aw_icmp_ne_f (tgt := 96) X dL_law_89 (by decide) (congrArg nI h1) ?_
        refine aw_iconst X (2) dL_law_92 rfl ?_
        refine aw_goto (tgt := 98) X dL_law_93 (by decide) ?_
        refine aw_iload X dL_law_98 rfl ?_
        refine aw_aload_n X dL_law_100 rfl ?_
        refine aw_lS (As := [.ref _, .int _, .int _, .ref _]) X 1 4 (c_L_act (kl K) U hR rfl hm hal _ _) s_L_124 k_L_act (by decide) ⟨rfl, rfl⟩ hf1 rfl (by exact Nat.le_of_ble_eq_true rfl) dL_law_101 (fun μ hP => ?_)
        obtain ⟨hR, hm, hF⟩ := hP
        refine aw_istore X dL_law_104 rfl (by decide) ?_
        refine aw_sub [some (.ref (uA U 4)), some (.ref a), some (.ref am), some (.int (nI t)), some (.int x_1), some (.int x_2), some (.long (tTale z)), none, some (.int (aQ z (2 : Int32) x_2).1)] ⟨rfl, rfl, rfl, rfl, rfl, rfl, rfl, rfl, trivial⟩ ?_
        exact lw_mid (x' := (2 : Int32)) X ht hL rfl (act_step hL _ _) (fun q => absurd q (by omega)) (fun _ => rfl) hR hm hf1 hf2 hf3 (fun μ' un' t2 s0' s1' v0' v1' g1 g2 => kk _ _ _ _ _ _ _ _ _ g1 g2 (OpR.lv hL (act_step hL _ _)))
      · skip
        refine aw_iload_n X dL_law_87 rfl ?_
        refine aw_iconst X (1) dL_law_88 rfl ?_
        refine aw_icmp_ne_t (tgt := 96) X dL_law_89 (by decide) (fun q => h1 ((nI_inj (b := 1) (by omega) (by omega)).mp q)) ?_
        refine aw_iload X dL_law_96 rfl ?_
        refine aw_iload X dL_law_98 rfl ?_
        refine aw_aload_n X dL_law_100 rfl ?_
        refine aw_lS (As := [.ref _, .int _, .int _, .ref _]) X 1 4 (c_L_act (kl K) U hR rfl hm hal _ _) s_L_124 k_L_act (by decide) ⟨rfl, rfl⟩ hf1 rfl (by exact Nat.le_of_ble_eq_true rfl) dL_law_101 (fun μ hP => ?_)
        obtain ⟨hR, hm, hF⟩ := hP
        refine aw_istore X dL_law_104 rfl (by decide) ?_
        refine aw_sub [some (.ref (uA U 4)), some (.ref a), some (.ref am), some (.int (nI t)), some (.int x_1), some (.int x_2), some (.long (tTale z)), none, some (.int (aQ z x_1 x_2).1)] ⟨rfl, rfl, rfl, rfl, rfl, rfl, rfl, rfl, trivial⟩ ?_
        exact lw_mid (x' := x_1) X ht hL rfl (act_step hL _ _) (fun _ => (if_neg h0).symm) (fun _ => rfl) hR hm hf1 hf2 hf3 (fun μ' un' t2 s0' s1' v0' v1' g1 g2 => kk _ _ _ _ _ _ _ _ _ g1 g2 (OpR.lv hL (act_step hL _ _)))
  · skip
    refine aw_iload_n X dL_law_62 rfl ?_
    refine aw_iconst X (5) dL_law_63 rfl ?_
    refine aw_irem X dL_law_64 (by decide) ?_
    refine aw_top (nI (t % 5)) (irem_n (d := 5) (by omega) (by decide) (by decide)) ?_
    refine aw_if_ne_t (tgt := 75) X dL_law_65 (by decide) (fun q => h5 ((nI_inj (b := 0) (by omega) (by omega)).mp q)) ?_
    refine aw_lconst X (0) dL_law_75 rfl ?_
    refine aw_lstore X dL_law_76 rfl (by decide) ?_
    refine aw_aload_n X dL_law_78 rfl ?_
    by_cases h0 : t = 0
    · skip
      refine aw_iload_n X dL_law_79 rfl ?_
      refine aw_if_ne_f (tgt := 87) X dL_law_80 (by decide) (congrArg nI h0) ?_
      refine aw_iconst X (0) dL_law_83 rfl ?_
      refine aw_goto (tgt := 98) X dL_law_84 (by decide) ?_
      refine aw_iload X dL_law_98 rfl ?_
      refine aw_aload_n X dL_law_100 rfl ?_
      refine aw_lS (As := [.ref _, .int _, .int _, .ref _]) X 1 4 (c_L_act (kl K) U hR rfl hm hal _ _) s_L_124 k_L_act (by decide) ⟨rfl, rfl⟩ hf1 rfl (by exact Nat.le_of_ble_eq_true rfl) dL_law_101 (fun μ hP => ?_)
      obtain ⟨hR, hm, hF⟩ := hP
      refine aw_istore X dL_law_104 rfl (by decide) ?_
      refine aw_sub [some (.ref (uA U 4)), some (.ref a), some (.ref am), some (.int (nI t)), some (.int x_1), some (.int x_2), some (.long (0 : Int64)), none, some (.int (aQ z (0 : Int32) x_2).1)] ⟨rfl, rfl, rfl, rfl, rfl, rfl, rfl, rfl, trivial⟩ ?_
      exact lw_mid (x' := (0 : Int32)) X ht hL rfl (act_step hL _ _) (fun _ => (if_pos h0).symm) (fun q => absurd q h5) hR hm hf1 hf2 hf3 (fun μ' un' t2 s0' s1' v0' v1' g1 g2 => kk _ _ _ _ _ _ _ _ _ g1 g2 (OpR.lv hL (act_step hL _ _)))
    · skip
      refine aw_iload_n X dL_law_79 rfl ?_
      refine aw_if_ne_t (tgt := 87) X dL_law_80 (by decide) (fun q => h0 ((nI_inj (b := 0) (by omega) (by omega)).mp q)) ?_
      by_cases h1 : t = 1
      · skip
        refine aw_iload_n X dL_law_87 rfl ?_
        refine aw_iconst X (1) dL_law_88 rfl ?_
        refine aw_icmp_ne_f (tgt := 96) X dL_law_89 (by decide) (congrArg nI h1) ?_
        refine aw_iconst X (2) dL_law_92 rfl ?_
        refine aw_goto (tgt := 98) X dL_law_93 (by decide) ?_
        refine aw_iload X dL_law_98 rfl ?_
        refine aw_aload_n X dL_law_100 rfl ?_
        refine aw_lS (As := [.ref _, .int _, .int _, .ref _]) X 1 4 (c_L_act (kl K) U hR rfl hm hal _ _) s_L_124 k_L_act (by decide) ⟨rfl, rfl⟩ hf1 rfl (by exact Nat.le_of_ble_eq_true rfl) dL_law_101 (fun μ hP => ?_)
        obtain ⟨hR, hm, hF⟩ := hP
        refine aw_istore X dL_law_104 rfl (by decide) ?_
        refine aw_sub [some (.ref (uA U 4)), some (.ref a), some (.ref am), some (.int (nI t)), some (.int x_1), some (.int x_2), some (.long (0 : Int64)), none, some (.int (aQ z (2 : Int32) x_2).1)] ⟨rfl, rfl, rfl, rfl, rfl, rfl, rfl, rfl, trivial⟩ ?_
        exact lw_mid (x' := (2 : Int32)) X ht hL rfl (act_step hL _ _) (fun q => absurd q (by omega)) (fun q => absurd q h5) hR hm hf1 hf2 hf3 (fun μ' un' t2 s0' s1' v0' v1' g1 g2 => kk _ _ _ _ _ _ _ _ _ g1 g2 (OpR.lv hL (act_step hL _ _)))
      · skip
        refine aw_iload_n X dL_law_87 rfl ?_
        refine aw_iconst X (1) dL_law_88 rfl ?_
        refine aw_icmp_ne_t (tgt := 96) X dL_law_89 (by decide) (fun q => h1 ((nI_inj (b := 1) (by omega) (by omega)).mp q)) ?_
        refine aw_iload X dL_law_96 rfl ?_
        refine aw_iload X dL_law_98 rfl ?_
        refine aw_aload_n X dL_law_100 rfl ?_
        refine aw_lS (As := [.ref _, .int _, .int _, .ref _]) X 1 4 (c_L_act (kl K) U hR rfl hm hal _ _) s_L_124 k_L_act (by decide) ⟨rfl, rfl⟩ hf1 rfl (by exact Nat.le_of_ble_eq_true rfl) dL_law_101 (fun μ hP => ?_)
        obtain ⟨hR, hm, hF⟩ := hP
        refine aw_istore X dL_law_104 rfl (by decide) ?_
        refine aw_sub [some (.ref (uA U 4)), some (.ref a), some (.ref am), some (.int (nI t)), some (.int x_1), some (.int x_2), some (.long (0 : Int64)), none, some (.int (aQ z x_1 x_2).1)] ⟨rfl, rfl, rfl, rfl, rfl, rfl, rfl, rfl, trivial⟩ ?_
        exact lw_mid (x' := x_1) X ht hL rfl (act_step hL _ _) (fun _ => (if_neg h0).symm) (fun q => absurd q h5) hR hm hf1 hf2 hf3 (fun μ' un' t2 s0' s1' v0' v1' g1 g2 => kk _ _ _ _ _ _ _ _ _ g1 g2 (OpR.lv hL (act_step hL _ _)))
