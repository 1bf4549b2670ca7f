/-! the units add up -/
theorem ad_e {z : xV} {f : Nat → Int32} {n : Nat} (h : LV z f n) (g : Nat) (hg : g < 4) : f g = z (14 + g) + cUIT z g 6 + z (18 + g) + z (22 + g) + f (4 + g) + f (8 + g) := h.2.1 g hg
theorem ad_lo {z : xV} {f : Nat → Int32} {n : Nat} (h : LV z f n) (g : Nat) (hg : g < 4) : ¬ z (14 + g) < 0 := Int32.not_lt.mpr (h.1.1.2.2.2.2.2.1 g hg).1
theorem ad_hi {z : xV} {f : Nat → Int32} {n : Nat} (h : LV z f n) (g : Nat) (hg : g < 4) : z (14 + g) ≤ 1000 := (h.1.1.2.2.2.2.2.1 g hg).2
theorem isG_n {i : Nat} (hi : i < 4) : isG (nI i) = true := by
  rcases (show i = 0 ∨ i = 1 ∨ i = 2 ∨ i = 3 by omega) with rfl | rfl | rfl | rfl <;> decide
theorem tn_n {i : Nat} (hi : i < 1000) : tn (nI i) = i := nI_clamp (by omega)
theorem kG_0 {z : xV} {k : Nat} (hk : k < 4) : cGrade z (nI k) 0 = z (14 + k) := by
  unfold cGrade
  rw [if_neg (by rw [isG_n hk]; decide), if_pos rfl, tn_n (by omega)]
theorem kG_1 {z : xV} {k : Nat} (hk : k < 4) : cGrade z (nI k) 1 = cUIT z k 6 := by
  unfold cGrade
  rw [if_neg (by rw [isG_n hk]; decide), if_neg (by decide), if_pos rfl, tn_n (by omega)]
theorem kG_2 {z : xV} {k : Nat} (hk : k < 4) : cGrade z (nI k) 2 = z (18 + k) := by
  unfold cGrade
  rw [if_neg (by rw [isG_n hk]; decide), if_neg (by decide), if_neg (by decide), if_pos rfl, tn_n (by omega)]
theorem kG_3 {z : xV} {k : Nat} (hk : k < 4) : cGrade z (nI k) 3 = z (22 + k) := by
  unfold cGrade
  rw [if_neg (by rw [isG_n hk]; decide), if_neg (by decide), if_neg (by decide), if_neg (by decide), if_pos rfl, tn_n (by omega)]
theorem kH_4 {z : xV} {k : Nat} (hk : k < 4) : cHose z (nI k) 4 = z (hz k 4) := by
  unfold cHose
  rw [if_neg (by rw [isG_n hk]; decide), if_neg (by decide), if_neg (by decide), if_neg (by decide), if_neg (by decide), if_pos rfl, tn_n (by omega)]
theorem kH_5 {z : xV} {k : Nat} (hk : k < 4) : cHose z (nI k) 5 = z (hz k 5) := by
  unfold cHose
  rw [if_neg (by rw [isG_n hk]; decide), if_neg (by decide), if_neg (by decide), if_neg (by decide), if_neg (by decide), if_neg (by decide), if_pos rfl, tn_n (by omega)]
def pS (z : xV) : Nat → Int32
  | 0 => 0
  | k + 1 => pS z k + z (22 + k)
def pT (z : xV) (f : Nat → Int32) : Nat → Int32
  | 0 => 0
  | k + 1 => pT z f k + (z (14 + k) + f (8 + k))
def pM (z : xV) : Nat → Int32
  | 0 => 0
  | k + 1 => pM z k + z (hz k 4)
def pL (z : xV) : Nat → Int32
  | 0 => 0
  | k + 1 => pL z k + z (hz k 5)
theorem ad_sp {z : xV} {f : Nat → Int32} {n : Nat} (h : LV z f n) : 0 + z 22 + z 23 + z 24 + z 25 = z 9 + z 8 + z 10 := by
  have := h.2.2.1
  unfold dS sPl at this
  grind
theorem ad_200 {z : xV} {f : Nat → Int32} {n : Nat} (h : LV z f n) : ¬ 200 < z 8 := Int32.not_lt.mpr h.1.1.2.1.2
theorem ad_mv {z : xV} {f : Nat → Int32} {n : Nat} (h : LV z f n) : 0 + z (hz 0 4) + z (hz 1 4) + z (hz 2 4) + z (hz 3 4) - (0 + (z 14 + f 8) + (z 15 + f 9) + (z 16 + f 10) + (z 17 + f 11)) = lSp z - (0 + z (hz 0 5) + z (hz 1 5) + z (hz 2 5) + z (hz 3 5)) := by
  have := h.2.2.2.2.1
  unfold dM hMv hSp tSt at this
  grind
theorem ad_ge {z : xV} {f : Nat → Int32} {n : Nat} (h : LV z f n) (hn : n ≤ 40) : ¬ 0 + z (hz 0 4) + z (hz 1 4) + z (hz 2 4) + z (hz 3 4) < 0 + (z 14 + f 8) + (z 15 + f 9) + (z 16 + f 10) + (z 17 + f 11) := by
  obtain ⟨hm, -, -, -, e, ⟨F, hF, eF⟩, q⟩ := h
  obtain ⟨t0, -, b0, e0⟩ := rgN (lo := 0) (hi := 1000) (by decide) (by decide) (hm.1.2.2.2.2.2.1 0 (by decide))
  obtain ⟨t1, -, b1, e1⟩ := rgN (lo := 0) (hi := 1000) (by decide) (by decide) (hm.1.2.2.2.2.2.1 1 (by decide))
  obtain ⟨t2, -, b2, e2⟩ := rgN (lo := 0) (hi := 1000) (by decide) (by decide) (hm.1.2.2.2.2.2.1 2 (by decide))
  obtain ⟨t3, -, b3, e3⟩ := rgN (lo := 0) (hi := 1000) (by decide) (by decide) (hm.1.2.2.2.2.2.1 3 (by decide))
  obtain ⟨d0, c0, f0⟩ := q 0 (by decide)
  obtain ⟨d1, c1, f1⟩ := q 1 (by decide)
  obtain ⟨d2, c2, f2⟩ := q 2 (by decide)
  obtain ⟨d3, c3, f3⟩ := q 3 (by decide)
  have eT : 0 + (z 14 + f 8) + (z 15 + f 9) + (z 16 + f 10) + (z 17 + f 11) = nI (0 + (t0 + d0) + (t1 + d1) + (t2 + d2) + (t3 + d3)) := by
    rw [show z 14 = nI t0 from e0, show z 15 = nI t1 from e1, show z 16 = nI t2 from e2, show z 17 = nI t3 from e3, show f 8 = nI d0 from f0, show f 9 = nI d1 from f1, show f 10 = nI d2 from f2, show f 11 = nI d3 from f3, show (0 : Int32) = nI 0 from rfl, nI_add, nI_add, nI_add, nI_add, nI_add, nI_add, nI_add, nI_add]
  have eM : 0 + z (hz 0 4) + z (hz 1 4) + z (hz 2 4) + z (hz 3 4) = 0 + (z 14 + f 8) + (z 15 + f 9) + (z 16 + f 10) + (z 17 + f 11) + dF z := by
    unfold dM hMv hSp tSt at e
    unfold dF hSp
    grind
  rw [eM, eF, eT, nI_add]
  exact nI_nlt (by omega) (by omega)
theorem cn_0 {z : xV} {f : Nat → Int32} {n : Nat} (h : LV z f n) (h13 : z 13 = 0) : cConnN z = 0 := by
  have e : ∀ i, i < 4 → isG (z (hz i 2)) = false := fun i hi => by
    cases q : isG (z (hz i 2))
    · rfl
    · have := (h.1.1.2.2.2.2.2.2.1 i hi).2.2.2.2 q
      rw [h13] at this
      exact absurd this (by decide)
  unfold cConnN
  rw [e 0 (by decide), e 1 (by decide), e 2 (by decide), e 3 (by decide)]
  rfl
theorem ad_sp4 {z : xV} {f : Nat → Int32} {n : Nat} (h : LV z f n) : pS z 4 = z 9 + z 8 + z 10 := ad_sp h
theorem ad_mv4 {z : xV} {f : Nat → Int32} {n : Nat} (h : LV z f n) : pM z 4 - pT z f 4 = lSp z - pL z 4 := ad_mv h
theorem ad_ge4 {z : xV} {f : Nat → Int32} {n : Nat} (h : LV z f n) (hn : n ≤ 40) : ¬ pM z 4 < pT z f 4 := ad_ge h hn
set_option maxHeartbeats 20000000 in
set_option maxRecDepth 100000 in
theorem c_L_addsUp (l : Launch) (U : xU) {Kp : Nat → Prop} {μ0 : xH} {a : Nat} {z : xV} {un : Nat} {t s0 s1 : xV} {v0 v1 : Int32} (hR : LR U Kp μ0 a z un t s0 s1 v0 v1) {am n : Nat} {f : Nat → Int32} (hm : μ0 am = some (.inl (uC U 0, 12, .inl f))) (hL : LV z f n) (hn : n ≤ 40) : Ct l U yL_addsUp cL_addsUp 7 (some .boolean) ({ frames := 5, cells := 0, slots := 0, locals := 108 } : Room) [.ref a, .ref am] μ0 (fun r μ' => r = some (.int 1) ∧ μ' = μ0) := by
  refine Ct.of [some (.ref a), some (.ref am), none, none, none, none, none] (by decide +kernel) rfl (Nat.le_of_ble_eq_true rfl) (fun K Q X hnm hQ => ?_)
  refine aw_iconst X (0) dL_addsUp_0 rfl ?_
  refine aw_istore_n X dL_addsUp_1 rfl (by decide) ?_
  refine aw_iconst X (0) dL_addsUp_2 rfl ?_
  refine aw_istore_n X dL_addsUp_3 rfl (by decide) ?_
  refine aw_iconst X (0) dL_addsUp_4 rfl ?_
  refine aw_istore X dL_addsUp_5 rfl (by decide) ?_
  refine aw_iconst X (0) dL_addsUp_7 rfl ?_
  refine aw_istore X dL_addsUp_8 rfl (by decide) ?_
  refine aw_iconst X (0) dL_addsUp_10 rfl ?_
  refine aw_istore X dL_addsUp_11 rfl (by decide) ?_
  have loop : ∀ (d k : Nat) , k + d = 4 → AW U K 7 0 0 Q μ0 13 [some (.ref a), some (.ref am), some (.int (pS z k)), some (.int (pT z f k)), some (.int (pM z k)), some (.int (pL z k)), some (.int (nI k))] [] := by
    intro d
    induction d with
    | zero =>
      intro k hk
      have hk : k = 4 := by omega
      subst hk
      refine aw_iload X dL_addsUp_13 rfl ?_
      refine aw_iconst X (4) dL_addsUp_15 rfl ?_
      refine aw_icmp_ge_t (tgt := 155) X dL_addsUp_16 (by decide) (by decide) ?_
      refine aw_iload_n X dL_addsUp_155 rfl ?_
      refine aw_aload_n X dL_addsUp_156 rfl ?_
      refine aw_bipush X (15) dL_addsUp_157 rfl ?_
      refine aw_lF (As := [.int _]) X hR.g0 (l_count hR _ (by decide) (by decide)) s_L_22 k_X4_count (by decide) ⟨rfl, rfl⟩ (by exact ⟨Nat.le_of_ble_eq_true rfl, Nat.le_of_ble_eq_true rfl⟩) rfl (by exact Nat.le_of_ble_eq_true rfl) rfl dL_addsUp_159 ?_
      refine aw_top (z 9) rfl ?_
      refine aw_aload_n X dL_addsUp_162 rfl ?_
      refine aw_bipush X (14) dL_addsUp_163 rfl ?_
      refine aw_lF (As := [.int _]) X hR.g0 (l_count hR _ (by decide) (by decide)) s_L_22 k_X4_count (by decide) ⟨rfl, rfl⟩ (by exact ⟨Nat.le_of_ble_eq_true rfl, Nat.le_of_ble_eq_true rfl⟩) rfl (by exact Nat.le_of_ble_eq_true rfl) rfl dL_addsUp_165 ?_
      refine aw_top (z 8) rfl ?_
      refine aw_iadd X dL_addsUp_168 ?_
      refine aw_aload_n X dL_addsUp_169 rfl ?_
      refine aw_bipush X (16) dL_addsUp_170 rfl ?_
      refine aw_lF (As := [.int _]) X hR.g0 (l_count hR _ (by decide) (by decide)) s_L_22 k_X4_count (by decide) ⟨rfl, rfl⟩ (by exact ⟨Nat.le_of_ble_eq_true rfl, Nat.le_of_ble_eq_true rfl⟩) rfl (by exact Nat.le_of_ble_eq_true rfl) rfl dL_addsUp_172 ?_
      refine aw_top (z 10) rfl ?_
      refine aw_iadd X dL_addsUp_175 ?_
      refine aw_icmp_ne_f (tgt := 253) X dL_addsUp_176 (by decide) (ad_sp4 hL) ?_
      refine aw_aload_n X dL_addsUp_179 rfl ?_
      refine aw_bipush X (14) dL_addsUp_180 rfl ?_
      refine aw_lF (As := [.int _]) X hR.g0 (l_count hR _ (by decide) (by decide)) s_L_22 k_X4_count (by decide) ⟨rfl, rfl⟩ (by exact ⟨Nat.le_of_ble_eq_true rfl, Nat.le_of_ble_eq_true rfl⟩) rfl (by exact Nat.le_of_ble_eq_true rfl) rfl dL_addsUp_182 ?_
      refine aw_top (z 8) rfl ?_
      refine aw_sipush X (200) dL_addsUp_185 rfl ?_
      refine aw_icmp_gt_f (tgt := 253) X dL_addsUp_188 (by decide) (ad_200 hL) ?_
      by_cases h7 : z 7 = 0
      · skip
        refine aw_aload_n X dL_addsUp_191 rfl ?_
        refine aw_bipush X (13) dL_addsUp_192 rfl ?_
        refine aw_lF (As := [.int _]) X hR.g0 (l_count hR _ (by decide) (by decide)) s_L_22 k_X4_count (by decide) ⟨rfl, rfl⟩ (by exact ⟨Nat.le_of_ble_eq_true rfl, Nat.le_of_ble_eq_true rfl⟩) rfl (by exact Nat.le_of_ble_eq_true rfl) rfl dL_addsUp_194 ?_
        refine aw_top (bI (decide (¬ z 7 = 0))) rfl ?_
        refine aw_top (0) (by rw [decide_eq_false (not_not_intro h7)]; rfl) ?_
        refine aw_iconst X (1) dL_addsUp_197 rfl ?_
        refine aw_icmp_eq_f (tgt := 210) X dL_addsUp_198 (by decide) (by decide) ?_
        refine aw_aload_n X dL_addsUp_201 rfl ?_
        refine aw_bipush X (14) dL_addsUp_202 rfl ?_
        refine aw_lF (As := [.int _]) X hR.g0 (l_count hR _ (by decide) (by decide)) s_L_22 k_X4_count (by decide) ⟨rfl, rfl⟩ (by exact ⟨Nat.le_of_ble_eq_true rfl, Nat.le_of_ble_eq_true rfl⟩) rfl (by exact Nat.le_of_ble_eq_true rfl) rfl dL_addsUp_204 ?_
        refine aw_top (z 8) rfl ?_
        refine aw_if_ne_f (tgt := 253) X dL_addsUp_207 (by decide) (hL.2.2.2.1 h7) ?_
        refine aw_iload X dL_addsUp_210 rfl ?_
        refine aw_iload_n X dL_addsUp_212 rfl ?_
        refine aw_isub X dL_addsUp_213 ?_
        refine aw_aload_n X dL_addsUp_214 rfl ?_
        refine aw_lSF (As := [.ref _]) X (c_L_spoilt (kl K) U hR) s_L_79 k_L_spoilt (by decide) ⟨rfl, rfl⟩ (by exact ⟨Nat.le_of_ble_eq_true rfl, Nat.le_of_ble_eq_true rfl⟩) rfl (by exact Nat.le_of_ble_eq_true rfl) dL_addsUp_215 ?_
        refine aw_iload X dL_addsUp_218 rfl ?_
        refine aw_isub X dL_addsUp_220 ?_
        refine aw_icmp_ne_f (tgt := 253) X dL_addsUp_221 (by decide) (ad_mv4 hL) ?_
        refine aw_iload X dL_addsUp_224 rfl ?_
        refine aw_iload_n X dL_addsUp_226 rfl ?_
        refine aw_icmp_lt_f (tgt := 253) X dL_addsUp_227 (by decide) (ad_ge4 hL hn) ?_
        by_cases h13 : z 13 = 0
        · skip
          refine aw_aload_n X dL_addsUp_230 rfl ?_
          refine aw_bipush X (10) dL_addsUp_231 rfl ?_
          refine aw_lF (As := [.int _]) X hR.g0 (l_count hR _ (by decide) (by decide)) s_L_22 k_X4_count (by decide) ⟨rfl, rfl⟩ (by exact ⟨Nat.le_of_ble_eq_true rfl, Nat.le_of_ble_eq_true rfl⟩) rfl (by exact Nat.le_of_ble_eq_true rfl) rfl dL_addsUp_233 ?_
          refine aw_top (bI (decide (¬ z 13 = 0))) rfl ?_
          refine aw_top (0) (by rw [decide_eq_false (not_not_intro h13)]; rfl) ?_
          refine aw_iconst X (1) dL_addsUp_236 rfl ?_
          refine aw_icmp_eq_f (tgt := 249) X dL_addsUp_237 (by decide) (by decide) ?_
          refine aw_aload_n X dL_addsUp_240 rfl ?_
          refine aw_bipush X (11) dL_addsUp_241 rfl ?_
          refine aw_lF (As := [.int _]) X hR.g0 (l_count hR _ (by decide) (by decide)) s_L_22 k_X4_count (by decide) ⟨rfl, rfl⟩ (by exact ⟨Nat.le_of_ble_eq_true rfl, Nat.le_of_ble_eq_true rfl⟩) rfl (by exact Nat.le_of_ble_eq_true rfl) rfl dL_addsUp_243 ?_
          refine aw_top (cConnN z) rfl ?_
          refine aw_if_ne_f (tgt := 253) X dL_addsUp_246 (by decide) (cn_0 hL h13) ?_
          refine aw_iconst X (1) dL_addsUp_249 rfl ?_
          refine aw_goto (tgt := 254) X dL_addsUp_250 (by decide) ?_
          exact aw_zret X rfl hQ dL_addsUp_254 ⟨rfl, rfl⟩
        · skip
          refine aw_aload_n X dL_addsUp_230 rfl ?_
          refine aw_bipush X (10) dL_addsUp_231 rfl ?_
          refine aw_lF (As := [.int _]) X hR.g0 (l_count hR _ (by decide) (by decide)) s_L_22 k_X4_count (by decide) ⟨rfl, rfl⟩ (by exact ⟨Nat.le_of_ble_eq_true rfl, Nat.le_of_ble_eq_true rfl⟩) rfl (by exact Nat.le_of_ble_eq_true rfl) rfl dL_addsUp_233 ?_
          refine aw_top (bI (decide (¬ z 13 = 0))) rfl ?_
          refine aw_top (1) (by rw [decide_eq_true h13]; rfl) ?_
          refine aw_iconst X (1) dL_addsUp_236 rfl ?_
          refine aw_icmp_eq_t (tgt := 249) X dL_addsUp_237 (by decide) (by decide) ?_
          refine aw_iconst X (1) dL_addsUp_249 rfl ?_
          refine aw_goto (tgt := 254) X dL_addsUp_250 (by decide) ?_
          exact aw_zret X rfl hQ dL_addsUp_254 ⟨rfl, rfl⟩
      · skip
        refine aw_aload_n X dL_addsUp_191 rfl ?_
        refine aw_bipush X (13) dL_addsUp_192 rfl ?_
        refine aw_lF (As := [.int _]) X hR.g0 (l_count hR _ (by decide) (by decide)) s_L_22 k_X4_count (by decide) ⟨rfl, rfl⟩ (by exact ⟨Nat.le_of_ble_eq_true rfl, Nat.le_of_ble_eq_true rfl⟩) rfl (by exact Nat.le_of_ble_eq_true rfl) rfl dL_addsUp_194 ?_
        refine aw_top (bI (decide (¬ z 7 = 0))) rfl ?_
        refine aw_top (1) (by rw [decide_eq_true h7]; rfl) ?_
        refine aw_iconst X (1) dL_addsUp_197 rfl ?_
        refine aw_icmp_eq_t (tgt := 210) X dL_addsUp_198 (by decide) (by decide) ?_
        refine aw_iload X dL_addsUp_210 rfl ?_
        refine aw_iload_n X dL_addsUp_212 rfl ?_
        refine aw_isub X dL_addsUp_213 ?_
        refine aw_aload_n X dL_addsUp_214 rfl ?_
        refine aw_lSF (As := [.ref _]) X (c_L_spoilt (kl K) U hR) s_L_79 k_L_spoilt (by decide) ⟨rfl, rfl⟩ (by exact ⟨Nat.le_of_ble_eq_true rfl, Nat.le_of_ble_eq_true rfl⟩) rfl (by exact Nat.le_of_ble_eq_true rfl) dL_addsUp_215 ?_
        refine aw_iload X dL_addsUp_218 rfl ?_
        refine aw_isub X dL_addsUp_220 ?_
        refine aw_icmp_ne_f (tgt := 253) X dL_addsUp_221 (by decide) (ad_mv4 hL) ?_
        refine aw_iload X dL_addsUp_224 rfl ?_
        refine aw_iload_n X dL_addsUp_226 rfl ?_
        refine aw_icmp_lt_f (tgt := 253) X dL_addsUp_227 (by decide) (ad_ge4 hL hn) ?_
        by_cases h13 : z 13 = 0
        · skip
          refine aw_aload_n X dL_addsUp_230 rfl ?_
          refine aw_bipush X (10) dL_addsUp_231 rfl ?_
          refine aw_lF (As := [.int _]) X hR.g0 (l_count hR _ (by decide) (by decide)) s_L_22 k_X4_count (by decide) ⟨rfl, rfl⟩ (by exact ⟨Nat.le_of_ble_eq_true rfl, Nat.le_of_ble_eq_true rfl⟩) rfl (by exact Nat.le_of_ble_eq_true rfl) rfl dL_addsUp_233 ?_
          refine aw_top (bI (decide (¬ z 13 = 0))) rfl ?_
          refine aw_top (0) (by rw [decide_eq_false (not_not_intro h13)]; rfl) ?_
          refine aw_iconst X (1) dL_addsUp_236 rfl ?_
          refine aw_icmp_eq_f (tgt := 249) X dL_addsUp_237 (by decide) (by decide) ?_
          refine aw_aload_n X dL_addsUp_240 rfl ?_
          refine aw_bipush X (11) dL_addsUp_241 rfl ?_
          refine aw_lF (As := [.int _]) X hR.g0 (l_count hR _ (by decide) (by decide)) s_L_22 k_X4_count (by decide) ⟨rfl, rfl⟩ (by exact ⟨Nat.le_of_ble_eq_true rfl, Nat.le_of_ble_eq_true rfl⟩) rfl (by exact Nat.le_of_ble_eq_true rfl) rfl dL_addsUp_243 ?_
          refine aw_top (cConnN z) rfl ?_
          refine aw_if_ne_f (tgt := 253) X dL_addsUp_246 (by decide) (cn_0 hL h13) ?_
          refine aw_iconst X (1) dL_addsUp_249 rfl ?_
          refine aw_goto (tgt := 254) X dL_addsUp_250 (by decide) ?_
          exact aw_zret X rfl hQ dL_addsUp_254 ⟨rfl, rfl⟩
        · skip
          refine aw_aload_n X dL_addsUp_230 rfl ?_
          refine aw_bipush X (10) dL_addsUp_231 rfl ?_
          refine aw_lF (As := [.int _]) X hR.g0 (l_count hR _ (by decide) (by decide)) s_L_22 k_X4_count (by decide) ⟨rfl, rfl⟩ (by exact ⟨Nat.le_of_ble_eq_true rfl, Nat.le_of_ble_eq_true rfl⟩) rfl (by exact Nat.le_of_ble_eq_true rfl) rfl dL_addsUp_233 ?_
          refine aw_top (bI (decide (¬ z 13 = 0))) rfl ?_
          refine aw_top (1) (by rw [decide_eq_true h13]; rfl) ?_
          refine aw_iconst X (1) dL_addsUp_236 rfl ?_
          refine aw_icmp_eq_t (tgt := 249) X dL_addsUp_237 (by decide) (by decide) ?_
          refine aw_iconst X (1) dL_addsUp_249 rfl ?_
          refine aw_goto (tgt := 254) X dL_addsUp_250 (by decide) ?_
          exact aw_zret X rfl hQ dL_addsUp_254 ⟨rfl, rfl⟩
    | succ d ih =>
      intro k hk
      refine aw_iload X dL_addsUp_13 rfl ?_
      refine aw_iconst X (4) dL_addsUp_15 rfl ?_
      refine aw_icmp_ge_f (tgt := 155) X dL_addsUp_16 (by decide) (xn_le (N := 4) (by omega) (by decide) rfl) ?_
      refine aw_aload_n X dL_addsUp_19 rfl ?_
      refine aw_iload X dL_addsUp_20 rfl ?_
      refine aw_mld X hm (k) (vp_in_nI (by omega) (by decide)) (nI_clamp (by omega)) dL_addsUp_22 ?_
      refine aw_aload_n X dL_addsUp_23 rfl ?_
      refine aw_iload X dL_addsUp_24 rfl ?_
      refine aw_iconst X (0) dL_addsUp_26 rfl ?_
      refine aw_lF (As := [.int _, .int _]) X hR.g0 (l_grade hR _ _) s_L_9 k_X4_grade (by decide) ⟨rfl, rfl⟩ (by exact ⟨Nat.le_of_ble_eq_true rfl, Nat.le_of_ble_eq_true rfl⟩) rfl (by exact Nat.le_of_ble_eq_true rfl) rfl dL_addsUp_27 ?_
      refine aw_top (z (14 + k)) (kG_0 (by omega)) ?_
      refine aw_aload_n X dL_addsUp_30 rfl ?_
      refine aw_iload X dL_addsUp_31 rfl ?_
      refine aw_iconst X (1) dL_addsUp_33 rfl ?_
      refine aw_lF (As := [.int _, .int _]) X hR.g0 (l_grade hR _ _) s_L_9 k_X4_grade (by decide) ⟨rfl, rfl⟩ (by exact ⟨Nat.le_of_ble_eq_true rfl, Nat.le_of_ble_eq_true rfl⟩) rfl (by exact Nat.le_of_ble_eq_true rfl) rfl dL_addsUp_34 ?_
      refine aw_top (cUIT z k 6) (kG_1 (by omega)) ?_
      refine aw_iadd X dL_addsUp_37 ?_
      refine aw_aload_n X dL_addsUp_38 rfl ?_
      refine aw_iload X dL_addsUp_39 rfl ?_
      refine aw_iconst X (2) dL_addsUp_41 rfl ?_
      refine aw_lF (As := [.int _, .int _]) X hR.g0 (l_grade hR _ _) s_L_9 k_X4_grade (by decide) ⟨rfl, rfl⟩ (by exact ⟨Nat.le_of_ble_eq_true rfl, Nat.le_of_ble_eq_true rfl⟩) rfl (by exact Nat.le_of_ble_eq_true rfl) rfl dL_addsUp_42 ?_
      refine aw_top (z (18 + k)) (kG_2 (by omega)) ?_
      refine aw_iadd X dL_addsUp_45 ?_
      refine aw_aload_n X dL_addsUp_46 rfl ?_
      refine aw_iload X dL_addsUp_47 rfl ?_
      refine aw_iconst X (3) dL_addsUp_49 rfl ?_
      refine aw_lF (As := [.int _, .int _]) X hR.g0 (l_grade hR _ _) s_L_9 k_X4_grade (by decide) ⟨rfl, rfl⟩ (by exact ⟨Nat.le_of_ble_eq_true rfl, Nat.le_of_ble_eq_true rfl⟩) rfl (by exact Nat.le_of_ble_eq_true rfl) rfl dL_addsUp_50 ?_
      refine aw_top (z (22 + k)) (kG_3 (by omega)) ?_
      refine aw_iadd X dL_addsUp_53 ?_
      refine aw_aload_n X dL_addsUp_54 rfl ?_
      refine aw_iconst X (4) dL_addsUp_55 rfl ?_
      refine aw_iload X dL_addsUp_56 rfl ?_
      refine aw_iadd X dL_addsUp_58 ?_
      refine aw_top (nI (4 + k)) (nI_add 4 k) ?_
      refine aw_mld X hm ((4 + k)) (vp_in_nI (by omega) (by decide)) (nI_clamp (by omega)) dL_addsUp_59 ?_
      refine aw_iadd X dL_addsUp_60 ?_
      refine aw_aload_n X dL_addsUp_61 rfl ?_
      refine aw_bipush X (8) dL_addsUp_62 rfl ?_
      refine aw_iload X dL_addsUp_64 rfl ?_
      refine aw_iadd X dL_addsUp_66 ?_
      refine aw_top (nI (8 + k)) (nI_add 8 k) ?_
      refine aw_mld X hm ((8 + k)) (vp_in_nI (by omega) (by decide)) (nI_clamp (by omega)) dL_addsUp_67 ?_
      refine aw_iadd X dL_addsUp_68 ?_
      refine aw_icmp_ne_f (tgt := 95) X dL_addsUp_69 (by decide) (ad_e hL k (by omega)) ?_
      refine aw_aload_n X dL_addsUp_72 rfl ?_
      refine aw_iload X dL_addsUp_73 rfl ?_
      refine aw_iconst X (0) dL_addsUp_75 rfl ?_
      refine aw_lF (As := [.int _, .int _]) X hR.g0 (l_grade hR _ _) s_L_9 k_X4_grade (by decide) ⟨rfl, rfl⟩ (by exact ⟨Nat.le_of_ble_eq_true rfl, Nat.le_of_ble_eq_true rfl⟩) rfl (by exact Nat.le_of_ble_eq_true rfl) rfl dL_addsUp_76 ?_
      refine aw_top (z (14 + k)) (kG_0 (by omega)) ?_
      refine aw_if_lt_f (tgt := 95) X dL_addsUp_79 (by decide) (ad_lo hL k (by omega)) ?_
      refine aw_aload_n X dL_addsUp_82 rfl ?_
      refine aw_iload X dL_addsUp_83 rfl ?_
      refine aw_iconst X (0) dL_addsUp_85 rfl ?_
      refine aw_lF (As := [.int _, .int _]) X hR.g0 (l_grade hR _ _) s_L_9 k_X4_grade (by decide) ⟨rfl, rfl⟩ (by exact ⟨Nat.le_of_ble_eq_true rfl, Nat.le_of_ble_eq_true rfl⟩) rfl (by exact Nat.le_of_ble_eq_true rfl) rfl dL_addsUp_86 ?_
      refine aw_top (z (14 + k)) (kG_0 (by omega)) ?_
      refine aw_sipush X (1000) dL_addsUp_89 rfl ?_
      refine aw_icmp_le_t (tgt := 97) X dL_addsUp_92 (by decide) (ad_hi hL k (by omega)) ?_
      refine aw_iload_n X dL_addsUp_97 rfl ?_
      refine aw_aload_n X dL_addsUp_98 rfl ?_
      refine aw_iload X dL_addsUp_99 rfl ?_
      refine aw_iconst X (3) dL_addsUp_101 rfl ?_
      refine aw_lF (As := [.int _, .int _]) X hR.g0 (l_grade hR _ _) s_L_9 k_X4_grade (by decide) ⟨rfl, rfl⟩ (by exact ⟨Nat.le_of_ble_eq_true rfl, Nat.le_of_ble_eq_true rfl⟩) rfl (by exact Nat.le_of_ble_eq_true rfl) rfl dL_addsUp_102 ?_
      refine aw_top (z (22 + k)) (kG_3 (by omega)) ?_
      refine aw_iadd X dL_addsUp_105 ?_
      refine aw_istore_n X dL_addsUp_106 rfl (by decide) ?_
      refine aw_iload_n X dL_addsUp_107 rfl ?_
      refine aw_aload_n X dL_addsUp_108 rfl ?_
      refine aw_iload X dL_addsUp_109 rfl ?_
      refine aw_iconst X (0) dL_addsUp_111 rfl ?_
      refine aw_lF (As := [.int _, .int _]) X hR.g0 (l_grade hR _ _) s_L_9 k_X4_grade (by decide) ⟨rfl, rfl⟩ (by exact ⟨Nat.le_of_ble_eq_true rfl, Nat.le_of_ble_eq_true rfl⟩) rfl (by exact Nat.le_of_ble_eq_true rfl) rfl dL_addsUp_112 ?_
      refine aw_top (z (14 + k)) (kG_0 (by omega)) ?_
      refine aw_aload_n X dL_addsUp_115 rfl ?_
      refine aw_bipush X (8) dL_addsUp_116 rfl ?_
      refine aw_iload X dL_addsUp_118 rfl ?_
      refine aw_iadd X dL_addsUp_120 ?_
      refine aw_top (nI (8 + k)) (nI_add 8 k) ?_
      refine aw_mld X hm ((8 + k)) (vp_in_nI (by omega) (by decide)) (nI_clamp (by omega)) dL_addsUp_121 ?_
      refine aw_iadd X dL_addsUp_122 ?_
      refine aw_iadd X dL_addsUp_123 ?_
      refine aw_istore_n X dL_addsUp_124 rfl (by decide) ?_
      refine aw_iload X dL_addsUp_125 rfl ?_
      refine aw_aload_n X dL_addsUp_127 rfl ?_
      refine aw_iload X dL_addsUp_128 rfl ?_
      refine aw_iconst X (4) dL_addsUp_130 rfl ?_
      refine aw_lF (As := [.int _, .int _]) X hR.g0 (l_hose hR _ _) s_L_28 k_X4_hose (by decide) ⟨rfl, rfl⟩ (by exact ⟨Nat.le_of_ble_eq_true rfl, Nat.le_of_ble_eq_true rfl⟩) rfl (by exact Nat.le_of_ble_eq_true rfl) rfl dL_addsUp_131 ?_
      refine aw_top (z (hz k 4)) (kH_4 (by omega)) ?_
      refine aw_iadd X dL_addsUp_134 ?_
      refine aw_istore X dL_addsUp_135 rfl (by decide) ?_
      refine aw_iload X dL_addsUp_137 rfl ?_
      refine aw_aload_n X dL_addsUp_139 rfl ?_
      refine aw_iload X dL_addsUp_140 rfl ?_
      refine aw_iconst X (5) dL_addsUp_142 rfl ?_
      refine aw_lF (As := [.int _, .int _]) X hR.g0 (l_hose hR _ _) s_L_28 k_X4_hose (by decide) ⟨rfl, rfl⟩ (by exact ⟨Nat.le_of_ble_eq_true rfl, Nat.le_of_ble_eq_true rfl⟩) rfl (by exact Nat.le_of_ble_eq_true rfl) rfl dL_addsUp_143 ?_
      refine aw_top (z (hz k 5)) (kH_5 (by omega)) ?_
      refine aw_iadd X dL_addsUp_146 ?_
      refine aw_istore X dL_addsUp_147 rfl (by decide) ?_
      refine aw_iinc X (1) dL_addsUp_149 rfl rfl rfl (by decide) ?_
      refine aw_goto (tgt := 13) X dL_addsUp_152 (by decide) ?_
      refine aw_sub [some (.ref a), some (.ref am), some (.int (pS z (k + 1))), some (.int (pT z f (k + 1))), some (.int (pM z (k + 1))), some (.int (pL z (k + 1))), some (.int (nI (k + 1)))] ⟨rfl, rfl, rfl, rfl, rfl, rfl, (congrArg (fun q => some (Value.int q)) (nI_1 k)), trivial⟩ ?_
      exact ih (k + 1) (by omega)
  refine aw_sub [some (.ref a), some (.ref am), some (.int (pS z 0)), some (.int (pT z f 0)), some (.int (pM z 0)), some (.int (pL z 0)), some (.int (nI 0))] ⟨rfl, rfl, rfl, rfl, rfl, rfl, rfl, trivial⟩ ?_
  exact loop (4) 0 (by omega)
