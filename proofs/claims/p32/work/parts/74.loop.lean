/-! the law's loop, its start -/
theorem df_X4 : ∀ j, j < 8 → defaultValue (tyX4 j) = vp_V [.null, .null, .null, .null, .int 0, .null, .null, .null] j := by
  intro j hj
  rcases (show j = 0 ∨ j = 1 ∨ j = 2 ∨ j = 3 ∨ j = 4 ∨ j = 5 ∨ j = 6 ∨ j = 7 by omega) with rfl | rfl | rfl | rfl | rfl | rfl | rfl | rfl <;> rfl
theorem law_loop {U : xU} {K : xK} {Q : State → Prop} {a am : Nat} (X : Cx U K yL_law cL_law 9 (some .boolean) room_1) (hend : ∀ μ : xH, AW U K 9 (261 + 3 * 40) (1268 + 20 * 40) Q μ 271 [some (.ref (uA U 4)), some (.ref a), some (.ref am), some (.int (nI 40)), none, none, none, none, none] []) : ∀ (d t : Nat), t + d = 40 → ∀ (μ : xH) (z : xV) (f : Nat → Int32) (un : Nat) (t' s0 s1 : xV) (v0 v1 : Int32), LR U (fun q => q = am) μ a z un t' s0 s1 v0 v1 → μ am = some (.inl (uC U 0, 12, .inl f)) → LV z f t → AW U K 9 (261 + 3 * t) (1268 + 20 * t) Q μ 36 [some (.ref (uA U 4)), some (.ref a), some (.ref am), some (.int (nI t)), none, none, none, none, none] [] := by
  intro d
  induction d with
  | zero =>
    intro t ht μ z f un t' s0 s1 v0 v1 hR hm hL
    obtain rfl : t = 40 := by omega
    refine aw_iload_n X dL_law_36 rfl ?_
    refine aw_bipush X (40) dL_law_37 rfl ?_
    exact aw_icmp_ge_t (tgt := 271) X dL_law_39 (by decide) (by decide) (hend μ)
  | succ d ih =>
    intro t ht μ z f un t' s0 s1 v0 v1 hR hm hL
    have b1 : room_1.cells = 620216 := rfl
    have b2 : room_1.slots = 7241600 := rfl
    refine lw_turn X (by omega) hL hR hm (by omega) (by omega) (by omega) (by omega) (fun μ' z' f' un' t2 s0' s1' v0' v1' g1 g2 g3 => ?_)
    have h := ih (t + 1) (by omega) μ' z' f' un' t2 s0' s1' v0' v1' g1 g2 g3
    rw [show 261 + 3 * (t + 1) = 261 + 3 * t + 3 by omega, show 1268 + 20 * (t + 1) = 1268 + 20 * t + 20 by omega] at h
    exact h
theorem law_start {U : xU} {K : xK} {Q : State → Prop} (X : Cx U K yL_law cL_law 9 (some .boolean) room_1) (hend : ∀ (μ : xH) (a am : Nat), AW U K 9 (261 + 3 * 40) (1268 + 20 * 40) Q μ 271 [some (.ref (uA U 4)), some (.ref a), some (.ref am), some (.int (nI 40)), none, none, none, none, none] []) : AW U K 9 0 0 Q (fun _ => none) 0 [some (.ref (uA U 4)), none, none, none, none, none, none, none, none] [] := by
  refine aw_new X (ci := 4) (fs := [.null, .null, .null, .null, .int 0, .null, .null, .null]) rfl e_L_10 i_X4 k_X4_init.2.1 tyX4 tyX4_ok df_X4 (by exact ⟨Nat.le_of_ble_eq_true rfl, Nat.le_of_ble_eq_true rfl⟩) dL_law_0 (fun a _ => ?_)
  refine aw_dup X dL_law_3 rfl ?_
  refine aw_cI (As := []) X (c_X4_init (kl K) U _ a xup_s) s_L_116 k_X4_init (by decide) (by rw [X.2.2.2.2.2.2.2.1]; exact ⟨Nat.le_of_ble_eq_true rfl, Nat.le_of_ble_eq_true rfl⟩) rfl (by exact Nat.le_of_ble_eq_true rfl) dL_law_4 (fun v μ2 hp => ?_)
  obtain ⟨rfl, hO⟩ := hp
  obtain ⟨shs, q, rfl, hOC⟩ := hO.at xup_s
  have hR := LR.start hOC
  refine aw_astore_n X dL_law_7 rfl (by decide) ?_
  refine aw_bipush X (12) dL_law_8 rfl ?_
  refine aw_mnew X hR 12 (by decide) rfl (by decide) (by exact ⟨Nat.le_of_ble_eq_true rfl, Nat.le_of_ble_eq_true rfl⟩) dL_law_10 (fun am μ hR' hn hm hx => ?_)
  have hR := hR'.mono (Kp' := fun q => q = am) (fun q hq => Or.inr hq)
  refine aw_astore_n X dL_law_12 rfl (by decide) ?_
  refine aw_aload_n X dL_law_13 rfl ?_
  refine aw_iconst X (0) dL_law_14 rfl ?_
  refine aw_lV (As := [.int _]) X hR.g0 (l_restore00 hR rfl) s_L_93 k_X4_restore (by decide) ⟨rfl, rfl⟩ (by exact ⟨Nat.le_of_ble_eq_true rfl, Nat.le_of_ble_eq_true rfl⟩) rfl (by exact Nat.le_of_ble_eq_true rfl) rfl dL_law_15 (fun μ hP => ?_)
  obtain ⟨hR, hK⟩ := hP
  have hm := (hK am rfl).trans hm
  refine aw_ldc X dL_law_18 a_L_99 ?_
  refine aw_icmp_ne_f (tgt := 32) X dL_law_20 (by decide) rfl ?_
  refine aw_aload_n X dL_law_23 rfl ?_
  refine aw_lV (As := []) X hR.g0 (l_undo0 hR rfl) s_L_117 k_X4_undo (by decide) ⟨rfl, rfl⟩ (by exact ⟨Nat.le_of_ble_eq_true rfl, Nat.le_of_ble_eq_true rfl⟩) rfl (by exact Nat.le_of_ble_eq_true rfl) rfl dL_law_24 (fun μ hP => ?_)
  obtain ⟨hR, hK⟩ := hP
  have hm := (hK am rfl).trans hm
  refine aw_ldc X dL_law_27 a_L_99 ?_
  refine aw_icmp_eq_t (tgt := 34) X dL_law_29 (by decide) rfl ?_
  refine aw_iconst X (0) dL_law_34 rfl ?_
  refine aw_istore_n X dL_law_35 rfl (by decide) ?_
  refine aw_widen (k := 261 + 3 * 0) (n := 1268 + 20 * 0) (by exact Nat.le_of_ble_eq_true rfl) (by exact Nat.le_of_ble_eq_true rfl) ?_
  exact law_loop X (fun μ => hend μ _ _) 40 0 (by omega) μ _ _ _ _ _ _ _ _ hR hm LV.start
