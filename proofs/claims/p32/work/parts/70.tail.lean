/-! a turn of the law -/
theorem aw_lSe {U : xU} {K : xK} {y : MethodName} {cc : ByteArray} {nL cells slots : Nat} {ret : Option FieldType} {rm : Room} {Q : State → Prop} {μ : xH} {pc index n : Nat} {ls : List (Option Value)} {st : List Value} {y' : MethodName} {b' : ByteArray} {maxL : Nat} {ret' : Option FieldType} {rm' : Room} (X : Cx U K y cc nL ret rm) {As : List Value} (hM : Ct (kl K) U y' b' maxL ret' rm' As μ (fun v μ' => (∃ x, v = some (.int x)) ∧ μ' = μ)) (hs : XS y.cls index y') (hy : XY y' b' maxL ret' n) (hrm : rm'.frames + 1 ≤ rm.frames ∧ 8 + (maxL + 11) + rm'.locals ≤ rm.locals) (hm : rm'.cells = 0 ∧ rm'.slots = 0) (hf : cells ≤ rm.cells ∧ slots ≤ rm.slots) (hn : As.length = n) (hst : (st.map fun v => v.category).sum ≤ 8) (hdg : decode cc pc = .ok (.invokestatic index, 3)) (kk : ∀ x : Int32, AW U K nL cells slots Q μ (pc + 3) ls (.int x :: st)) : AW U K nL cells slots Q μ pc ls (As.reverse ++ st) := by
  have hR := X.2.2.2.2.2.2.2.1
  refine aw_cS X hM hs hy hrm (by rw [hm.1, hm.2, hR]; exact hf) hn hst hdg (fun v μ1 hp => ?_)
  obtain ⟨⟨x, rfl⟩, rfl⟩ := hp
  rw [hm.1, hm.2]
  exact kk x
theorem irem_n {t d : Nat} (ht : t < 1000) (h0 : 0 < d) (hd : d < 1000) : nI t - nI t / nI d * nI d = nI (t % d) := by
  rw [pk_div (by omega) h0 (by omega), pk_mul, pk_sub (Nat.div_mul_le_self t d)]
  have := Nat.div_add_mod t d
  rw [Nat.mul_comm] at this
  congr 1
  omega
theorem nI_inj {a b : Nat} (ha : a < 1000) (hb : b < 1000) : nI a = nI b ↔ a = b := nI_eq (by omega) (by omega)
set_option maxHeartbeats 20000000 in
set_option maxRecDepth 100000 in
theorem lw_tail {U : xU} {K : xK} {cells slots : Nat} {Q : State → Prop} {a am : Nat} {μ : xH} {z : xV} {un : Nat} {t' s0 s1 : xV} {v0 v1 : Int32} {f : Nat → Int32} (X : Cx U K yL_law cL_law 9 (some .boolean) room_1) {t : Nat} (ht : t < 40) {x y : Int32} (hR : LR U (fun q => q = am) μ a z un t' s0 s1 v0 v1) (hm : μ am = some (.inl (uC U 0, 12, .inl f))) (hL : LV z f (t + 1)) (hf : cells ≤ room_1.cells ∧ slots ≤ room_1.slots) (kk : ∀ (μ' : xH) (un' : Nat) (t2 s0' s1' : xV) (v0' v1' : Int32), LR U (fun q => q = am) μ' a z un' t2 s0' s1' v0' v1' → μ' am = some (.inl (uC U 0, 12, .inl f)) → AW U K 9 cells slots Q μ' 36 [some (.ref (uA U 4)), some (.ref a), some (.ref am), some (.int (nI (t + 1))), none, none, none, none, none] []) : AW U K 9 cells slots Q μ 199 [some (.ref (uA U 4)), some (.ref a), some (.ref am), some (.int (nI t)), some (.int x), some (.int y), none, none, none] [] := by
  refine aw_aload_n X dL_law_199 rfl ?_
  refine aw_aload_n X dL_law_200 rfl ?_
  refine aw_lSF (As := [.ref _, .ref _]) X (c_L_addsUp (kl K) U hR hm hL (by omega)) s_L_133 k_L_addsUp (by decide) ⟨rfl, rfl⟩ hf rfl (by exact Nat.le_of_ble_eq_true rfl) dL_law_201 ?_
  refine aw_if_eq_f (tgt := 263) X dL_law_204 (by decide) (by decide) ?_
  refine aw_aload_n X dL_law_207 rfl ?_
  refine aw_lSF (As := [.ref _]) X (c_L_isFloating (kl K) U hR hL (by omega)) s_L_137 k_L_isFloating (by decide) ⟨rfl, rfl⟩ hf rfl (by exact Nat.le_of_ble_eq_true rfl) dL_law_208 ?_
  refine aw_if_eq_f (tgt := 263) X dL_law_211 (by decide) (by decide) ?_
  by_cases h4 : t % 4 = 3
  · skip
    refine aw_iload_n X dL_law_214 rfl ?_
    refine aw_iconst X (4) dL_law_215 rfl ?_
    refine aw_irem X dL_law_216 (by decide) ?_
    refine aw_top (nI (t % 4)) (irem_n (d := 4) (by omega) (by decide) (by decide)) ?_
    refine aw_iconst X (3) dL_law_217 rfl ?_
    refine aw_icmp_ne_f (tgt := 239) X dL_law_218 (by decide) (congrArg nI h4) ?_
    refine aw_aload_n X dL_law_221 rfl ?_
    refine aw_iconst X (1) dL_law_222 rfl ?_
    refine aw_iload X dL_law_223 rfl ?_
    refine aw_iconst X (5) dL_law_225 rfl ?_
    refine aw_ishr X dL_law_226 ?_
    refine aw_bipush X (48) dL_law_227 rfl ?_
    refine aw_lSF (As := [.int _, .int _]) X (c_L_low (kl K) U _ _ _ (by decide)) s_L_35 k_L_low (by decide) ⟨rfl, rfl⟩ hf rfl (by exact Nat.le_of_ble_eq_true rfl) dL_law_229 ?_
    obtain ⟨m1, hm1, em1⟩ : ∃ k, k < 48 ∧ lw (x >>> ((5 : Int32) &&& 31)) (48 : Int32) = nI k := lw_rg _ (n := 48) (by decide) (by decide)
    refine aw_top (nI m1) (em1) ?_
    refine aw_iadd X dL_law_232 ?_
    refine aw_top (nI (1 + m1)) (nI_add 1 m1) ?_
    refine aw_lS (As := [.ref _, .int _]) X 0 0 (c_L_isAhead (kl K) U hR hL (by omega) _ (by omega) (by omega)) s_L_141 k_L_isAhead (by decide) ⟨rfl, rfl⟩ hf rfl (by exact Nat.le_of_ble_eq_true rfl) dL_law_233 (fun μ hP => ?_)
    obtain ⟨⟨un1, t1, s01, s11, v01, v11, hR⟩, hK⟩ := hP
    have hm := (hK am rfl).trans hm
    refine aw_if_eq_f (tgt := 263) X dL_law_236 (by decide) (by decide) ?_
    by_cases h6 : t % 6 = 5
    · skip
      refine aw_iload_n X dL_law_239 rfl ?_
      refine aw_bipush X (6) dL_law_240 rfl ?_
      refine aw_irem X dL_law_242 (by decide) ?_
      refine aw_top (nI (t % 6)) (irem_n (d := 6) (by omega) (by decide) (by decide)) ?_
      refine aw_iconst X (5) dL_law_243 rfl ?_
      refine aw_icmp_ne (tgt := 265) X dL_law_244 (by decide) (fun c244_2 => ?_) (fun c244_2 => ?_)
      · skip
        refine aw_iinc X (1) dL_law_265 rfl rfl rfl (by decide) ?_
        refine aw_goto (tgt := 36) X dL_law_268 (by decide) ?_
        refine aw_sub [some (.ref (uA U 4)), some (.ref a), some (.ref am), some (.int (nI (t + 1))), none, none, none, none, none] ⟨rfl, rfl, rfl, (congrArg (fun q => some (Value.int q)) (nI_1 t)), trivial⟩ ?_
        exact kk _ _ _ _ _ _ _ hR hm
      · skip
        refine aw_aload_n X dL_law_247 rfl ?_
        refine aw_iload X dL_law_248 rfl ?_
        refine aw_bipush X (8) dL_law_250 rfl ?_
        refine aw_ishr X dL_law_252 ?_
        refine aw_iconst X (3) dL_law_253 rfl ?_
        refine aw_lSF (As := [.int _, .int _]) X (c_L_low (kl K) U _ _ _ (by decide)) s_L_35 k_L_low (by decide) ⟨rfl, rfl⟩ hf rfl (by exact Nat.le_of_ble_eq_true rfl) dL_law_254 ?_
        obtain ⟨m2, hm2, em2⟩ : ∃ k, k < 3 ∧ lw (x >>> ((8 : Int32) &&& 31)) (3 : Int32) = nI k := lw_rg _ (n := 3) (by decide) (by decide)
        refine aw_top (nI m2) (em2) ?_
        refine aw_lS (As := [.ref _, .int _]) X 0 0 (c_L_isSafe (kl K) U hR hL (by omega) _ (by omega)) s_L_145 k_L_isSafe (by decide) ⟨rfl, rfl⟩ hf rfl (by exact Nat.le_of_ble_eq_true rfl) dL_law_257 (fun μ hP => ?_)
        obtain ⟨⟨un3, t3, s03, s13, v03, v13, hR⟩, hK⟩ := hP
        have hm := (hK am rfl).trans hm
        refine aw_if_ne_t (tgt := 265) X dL_law_260 (by decide) (by decide) ?_
        refine aw_iinc X (1) dL_law_265 rfl rfl rfl (by decide) ?_
        refine aw_goto (tgt := 36) X dL_law_268 (by decide) ?_
        refine aw_sub [some (.ref (uA U 4)), some (.ref a), some (.ref am), some (.int (nI (t + 1))), none, none, none, none, none] ⟨rfl, rfl, rfl, (congrArg (fun q => some (Value.int q)) (nI_1 t)), trivial⟩ ?_
        exact kk _ _ _ _ _ _ _ hR hm
    · skip
      refine aw_iload_n X dL_law_239 rfl ?_
      refine aw_bipush X (6) dL_law_240 rfl ?_
      refine aw_irem X dL_law_242 (by decide) ?_
      refine aw_top (nI (t % 6)) (irem_n (d := 6) (by omega) (by decide) (by decide)) ?_
      refine aw_iconst X (5) dL_law_243 rfl ?_
      refine aw_icmp_ne (tgt := 265) X dL_law_244 (by decide) (fun c244_2 => ?_) (fun c244_2 => ?_)
      · skip
        refine aw_iinc X (1) dL_law_265 rfl rfl rfl (by decide) ?_
        refine aw_goto (tgt := 36) X dL_law_268 (by decide) ?_
        refine aw_sub [some (.ref (uA U 4)), some (.ref a), some (.ref am), some (.int (nI (t + 1))), none, none, none, none, none] ⟨rfl, rfl, rfl, (congrArg (fun q => some (Value.int q)) (nI_1 t)), trivial⟩ ?_
        exact kk _ _ _ _ _ _ _ hR hm
      · skip
        refine aw_aload_n X dL_law_247 rfl ?_
        refine aw_iload X dL_law_248 rfl ?_
        refine aw_bipush X (8) dL_law_250 rfl ?_
        refine aw_ishr X dL_law_252 ?_
        refine aw_iconst X (3) dL_law_253 rfl ?_
        refine aw_lSF (As := [.int _, .int _]) X (c_L_low (kl K) U _ _ _ (by decide)) s_L_35 k_L_low (by decide) ⟨rfl, rfl⟩ hf rfl (by exact Nat.le_of_ble_eq_true rfl) dL_law_254 ?_
        obtain ⟨m2, hm2, em2⟩ : ∃ k, k < 3 ∧ lw (x >>> ((8 : Int32) &&& 31)) (3 : Int32) = nI k := lw_rg _ (n := 3) (by decide) (by decide)
        refine aw_top (nI m2) (em2) ?_
        refine aw_lS (As := [.ref _, .int _]) X 0 0 (c_L_isSafe (kl K) U hR hL (by omega) _ (by omega)) s_L_145 k_L_isSafe (by decide) ⟨rfl, rfl⟩ hf rfl (by exact Nat.le_of_ble_eq_true rfl) dL_law_257 (fun μ hP => ?_)
        obtain ⟨⟨un3, t3, s03, s13, v03, v13, hR⟩, hK⟩ := hP
        have hm := (hK am rfl).trans hm
        refine aw_if_ne_t (tgt := 265) X dL_law_260 (by decide) (by decide) ?_
        refine aw_iinc X (1) dL_law_265 rfl rfl rfl (by decide) ?_
        refine aw_goto (tgt := 36) X dL_law_268 (by decide) ?_
        refine aw_sub [some (.ref (uA U 4)), some (.ref a), some (.ref am), some (.int (nI (t + 1))), none, none, none, none, none] ⟨rfl, rfl, rfl, (congrArg (fun q => some (Value.int q)) (nI_1 t)), trivial⟩ ?_
        exact kk _ _ _ _ _ _ _ hR hm
  · skip
    refine aw_iload_n X dL_law_214 rfl ?_
    refine aw_iconst X (4) dL_law_215 rfl ?_
    refine aw_irem X dL_law_216 (by decide) ?_
    refine aw_top (nI (t % 4)) (irem_n (d := 4) (by omega) (by decide) (by decide)) ?_
    refine aw_iconst X (3) dL_law_217 rfl ?_
    refine aw_icmp_ne_t (tgt := 239) X dL_law_218 (by decide) (fun q => h4 ((nI_inj (b := 3) (by omega) (by omega)).mp q)) ?_
    by_cases h6 : t % 6 = 5
    · skip
      refine aw_iload_n X dL_law_239 rfl ?_
      refine aw_bipush X (6) dL_law_240 rfl ?_
      refine aw_irem X dL_law_242 (by decide) ?_
      refine aw_top (nI (t % 6)) (irem_n (d := 6) (by omega) (by decide) (by decide)) ?_
      refine aw_iconst X (5) dL_law_243 rfl ?_
      refine aw_icmp_ne (tgt := 265) X dL_law_244 (by decide) (fun c244_1 => ?_) (fun c244_1 => ?_)
      · skip
        refine aw_iinc X (1) dL_law_265 rfl rfl rfl (by decide) ?_
        refine aw_goto (tgt := 36) X dL_law_268 (by decide) ?_
        refine aw_sub [some (.ref (uA U 4)), some (.ref a), some (.ref am), some (.int (nI (t + 1))), none, none, none, none, none] ⟨rfl, rfl, rfl, (congrArg (fun q => some (Value.int q)) (nI_1 t)), trivial⟩ ?_
        exact kk _ _ _ _ _ _ _ hR hm
      · skip
        refine aw_aload_n X dL_law_247 rfl ?_
        refine aw_iload X dL_law_248 rfl ?_
        refine aw_bipush X (8) dL_law_250 rfl ?_
        refine aw_ishr X dL_law_252 ?_
        refine aw_iconst X (3) dL_law_253 rfl ?_
        refine aw_lSF (As := [.int _, .int _]) X (c_L_low (kl K) U _ _ _ (by decide)) s_L_35 k_L_low (by decide) ⟨rfl, rfl⟩ hf rfl (by exact Nat.le_of_ble_eq_true rfl) dL_law_254 ?_
        obtain ⟨m2, hm2, em2⟩ : ∃ k, k < 3 ∧ lw (x >>> ((8 : Int32) &&& 31)) (3 : Int32) = nI k := lw_rg _ (n := 3) (by decide) (by decide)
        refine aw_top (nI m2) (em2) ?_
        refine aw_lS (As := [.ref _, .int _]) X 0 0 (c_L_isSafe (kl K) U hR hL (by omega) _ (by omega)) s_L_145 k_L_isSafe (by decide) ⟨rfl, rfl⟩ hf rfl (by exact Nat.le_of_ble_eq_true rfl) dL_law_257 (fun μ hP => ?_)
        obtain ⟨⟨un2, t2, s02, s12, v02, v12, hR⟩, hK⟩ := hP
        have hm := (hK am rfl).trans hm
        refine aw_if_ne_t (tgt := 265) X dL_law_260 (by decide) (by decide) ?_
        refine aw_iinc X (1) dL_law_265 rfl rfl rfl (by decide) ?_
        refine aw_goto (tgt := 36) X dL_law_268 (by decide) ?_
        refine aw_sub [some (.ref (uA U 4)), some (.ref a), some (.ref am), some (.int (nI (t + 1))), none, none, none, none, none] ⟨rfl, rfl, rfl, (congrArg (fun q => some (Value.int q)) (nI_1 t)), trivial⟩ ?_
        exact kk _ _ _ _ _ _ _ hR hm
    · skip
      refine aw_iload_n X dL_law_239 rfl ?_
      refine aw_bipush X (6) dL_law_240 rfl ?_
      refine aw_irem X dL_law_242 (by decide) ?_
      refine aw_top (nI (t % 6)) (irem_n (d := 6) (by omega) (by decide) (by decide)) ?_
      refine aw_iconst X (5) dL_law_243 rfl ?_
      refine aw_icmp_ne (tgt := 265) X dL_law_244 (by decide) (fun c244_1 => ?_) (fun c244_1 => ?_)
      · skip
        refine aw_iinc X (1) dL_law_265 rfl rfl rfl (by decide) ?_
        refine aw_goto (tgt := 36) X dL_law_268 (by decide) ?_
        refine aw_sub [some (.ref (uA U 4)), some (.ref a), some (.ref am), some (.int (nI (t + 1))), none, none, none, none, none] ⟨rfl, rfl, rfl, (congrArg (fun q => some (Value.int q)) (nI_1 t)), trivial⟩ ?_
        exact kk _ _ _ _ _ _ _ hR hm
      · skip
        refine aw_aload_n X dL_law_247 rfl ?_
        refine aw_iload X dL_law_248 rfl ?_
        refine aw_bipush X (8) dL_law_250 rfl ?_
        refine aw_ishr X dL_law_252 ?_
        refine aw_iconst X (3) dL_law_253 rfl ?_
        refine aw_lSF (As := [.int _, .int _]) X (c_L_low (kl K) U _ _ _ (by decide)) s_L_35 k_L_low (by decide) ⟨rfl, rfl⟩ hf rfl (by exact Nat.le_of_ble_eq_true rfl) dL_law_254 ?_
        obtain ⟨m2, hm2, em2⟩ : ∃ k, k < 3 ∧ lw (x >>> ((8 : Int32) &&& 31)) (3 : Int32) = nI k := lw_rg _ (n := 3) (by decide) (by decide)
        refine aw_top (nI m2) (em2) ?_
        refine aw_lS (As := [.ref _, .int _]) X 0 0 (c_L_isSafe (kl K) U hR hL (by omega) _ (by omega)) s_L_145 k_L_isSafe (by decide) ⟨rfl, rfl⟩ hf rfl (by exact Nat.le_of_ble_eq_true rfl) dL_law_257 (fun μ hP => ?_)
        obtain ⟨⟨un2, t2, s02, s12, v02, v12, hR⟩, hK⟩ := hP
        have hm := (hK am rfl).trans hm
        refine aw_if_ne_t (tgt := 265) X dL_law_260 (by decide) (by decide) ?_
        refine aw_iinc X (1) dL_law_265 rfl rfl rfl (by decide) ?_
        refine aw_goto (tgt := 36) X dL_law_268 (by decide) ?_
        refine aw_sub [some (.ref (uA U 4)), some (.ref a), some (.ref am), some (.int (nI (t + 1))), none, none, none, none, none] ⟨rfl, rfl, rfl, (congrArg (fun q => some (Value.int q)) (nI_1 t)), trivial⟩ ?_
        exact kk _ _ _ _ _ _ _ hR hm
