set_option maxHeartbeats 4000000 in
set_option maxRecDepth 100000 in
theorem c_X0_init (l : Launch) (U : xU) (μ0 : xH) (a : Nat) (h0 : μ0 a = some (.inr (0, [.int 0, .int 0, .int 0, .int 0, .int 0, .int 0, .int 0]))) : Ct l U yX0_init cX0_init 1 none ({ frames := 1, cells := 0, slots := 0, locals := 20 } : Room) [.ref a] μ0 (fun v μ => v = none ∧ GH μ0 μ [a] [.inr (0, [.int 90, .int (-100006), .int (-100006), .int 0, .int 0, .int 0, .int 0])]) := by
  refine Ct.of [some (.ref a)] (by decide +kernel) rfl (Nat.le_of_ble_eq_true rfl) (fun K Q X hnm hQ => ?_)
  obtain ⟨μ, hμ, hG⟩ : ∃ μ : xH, μ0 = μ ∧ GH μ0 μ [a] [.inr (0, [.int 0, .int 0, .int 0, .int 0, .int 0, .int 0, .int 0])] := ⟨μ0, rfl, GH.one h0⟩
  refine aw_mu hμ ?_
  refine aw_aload_n X dX0_init_0 rfl ?_
  refine aw_obj X l_X0_3 (by exact ⟨by decide, Nat.le_of_ble_eq_true rfl⟩) dX0_init_1 ?_
  refine aw_aload_n X dX0_init_4 rfl ?_
  refine aw_bipush X (90) dX0_init_5 rfl ?_
  refine aw_gput X hG 0 .int rfl rfl f_X0_9 rfl (by decide +kernel) xfit_i (by exact Nat.le_of_ble_eq_true rfl) dX0_init_7 (fun μ hG => ?_)
  have hG : GH μ0 μ [a] [.inr (0, [.int 90, .int 0, .int 0, .int 0, .int 0, .int 0, .int 0])] := hG
  refine aw_aload_n X dX0_init_10 rfl ?_
  refine aw_ldc X dX0_init_11 a_X0_15 ?_
  refine aw_gput X hG 0 .int rfl rfl f_X0_16 rfl (by decide +kernel) xfit_i (by exact Nat.le_of_ble_eq_true rfl) dX0_init_13 (fun μ hG => ?_)
  have hG : GH μ0 μ [a] [.inr (0, [.int 90, .int (-100006), .int 0, .int 0, .int 0, .int 0, .int 0])] := hG
  refine aw_aload_n X dX0_init_16 rfl ?_
  refine aw_ldc X dX0_init_17 a_X0_15 ?_
  refine aw_gput X hG 0 .int rfl rfl f_X0_19 rfl (by decide +kernel) xfit_i (by exact Nat.le_of_ble_eq_true rfl) dX0_init_19 (fun μ hG => ?_)
  have hG : GH μ0 μ [a] [.inr (0, [.int 90, .int (-100006), .int (-100006), .int 0, .int 0, .int 0, .int 0])] := hG
  refine aw_aload_n X dX0_init_22 rfl ?_
  refine aw_iconst X (0) dX0_init_23 rfl ?_
  refine aw_gput X hG 0 .boolean rfl rfl f_X0_22 rfl (by decide +kernel) (xfit_z (by decide)) (by exact Nat.le_of_ble_eq_true rfl) dX0_init_24 (fun μ hG => ?_)
  have hG : GH μ0 μ [a] [.inr (0, [.int 90, .int (-100006), .int (-100006), .int 0, .int 0, .int 0, .int 0])] := hG
  refine aw_aload_n X dX0_init_27 rfl ?_
  refine aw_iconst X (0) dX0_init_28 rfl ?_
  refine aw_gput X hG 0 .int rfl rfl f_X0_26 rfl (by decide +kernel) xfit_i (by exact Nat.le_of_ble_eq_true rfl) dX0_init_29 (fun μ hG => ?_)
  have hG : GH μ0 μ [a] [.inr (0, [.int 90, .int (-100006), .int (-100006), .int 0, .int 0, .int 0, .int 0])] := hG
  refine aw_aload_n X dX0_init_32 rfl ?_
  refine aw_iconst X (0) dX0_init_33 rfl ?_
  refine aw_gput X hG 0 .int rfl rfl f_X0_29 rfl (by decide +kernel) xfit_i (by exact Nat.le_of_ble_eq_true rfl) dX0_init_34 (fun μ hG => ?_)
  have hG : GH μ0 μ [a] [.inr (0, [.int 90, .int (-100006), .int (-100006), .int 0, .int 0, .int 0, .int 0])] := hG
  refine aw_aload_n X dX0_init_37 rfl ?_
  refine aw_iconst X (0) dX0_init_38 rfl ?_
  refine aw_gput X hG 0 .boolean rfl rfl f_X0_32 rfl (by decide +kernel) (xfit_z (by decide)) (by exact Nat.le_of_ble_eq_true rfl) dX0_init_39 (fun μ hG => ?_)
  have hG : GH μ0 μ [a] [.inr (0, [.int 90, .int (-100006), .int (-100006), .int 0, .int 0, .int 0, .int 0])] := hG
  exact aw_vret X hQ dX0_init_42 ⟨rfl, hG⟩

set_option maxHeartbeats 4000000 in
set_option maxRecDepth 100000 in
theorem c_X3_init (l : Launch) (U : xU) (μ0 : xH) (a : Nat) (h0 : μ0 a = some (.inr (3, [.null, .int 0]))) : Ct l U yX3_init cX3_init 1 none ({ frames := 1, cells := 1, slots := 4, locals := 20 } : Room) [.ref a] μ0 (fun v μ => v = none ∧ ∃ u, GH μ0 μ [a, u] [.inr (3, [.ref u, .int 0]), .inl (uC U 0, 4, .inl (fun _ => 0))]) := by
  refine Ct.of [some (.ref a)] (by decide +kernel) rfl (Nat.le_of_ble_eq_true rfl) (fun K Q X hnm hQ => ?_)
  obtain ⟨μ, hμ, hG⟩ : ∃ μ : xH, μ0 = μ ∧ GH μ0 μ [a] [.inr (3, [.null, .int 0])] := ⟨μ0, rfl, GH.one h0⟩
  refine aw_mu hμ ?_
  refine aw_aload_n X dX3_init_0 rfl ?_
  refine aw_obj X l_X3_3 (by exact ⟨by decide, Nat.le_of_ble_eq_true rfl⟩) dX3_init_1 ?_
  refine aw_aload_n X dX3_init_4 rfl ?_
  refine aw_iconst X (4) dX3_init_5 rfl ?_
  refine aw_gnewa X hG (ty := .int) (t0 := 0) ac_int rfl rfl 4 rfl (by decide) rfl (by exact Nat.le_of_ble_eq_true rfl) (by exact ⟨Nat.le_of_ble_eq_true rfl, Nat.le_of_ble_eq_true rfl⟩) dX3_init_6 (fun q1 μ hG => ?_)
  have hG : GH μ0 μ [a, q1] [.inr (3, [.null, .int 0]), .inl (uC U 0, 4, .inl (fun _ => 0))] := hG
  refine aw_gputF X hnm hG 0 (.array .int) rfl rfl rfl f_X3_9 rfl (by decide +kernel) ⟨rfl, rfl⟩ (by exact Nat.le_of_ble_eq_true rfl) dX3_init_8 (fun μ hG => ?_)
  have hG : GH μ0 μ [a, q1] [.inr (3, [.ref q1, .int 0]), .inl (uC U 0, 4, .inl (fun _ => 0))] := hG
  refine aw_aload_n X dX3_init_11 rfl ?_
  refine aw_iconst X (0) dX3_init_12 rfl ?_
  refine aw_gput X hG 0 .int rfl rfl f_X3_15 rfl (by decide +kernel) xfit_i (by exact Nat.le_of_ble_eq_true rfl) dX3_init_13 (fun μ hG => ?_)
  have hG : GH μ0 μ [a, q1] [.inr (3, [.ref q1, .int 0]), .inl (uC U 0, 4, .inl (fun _ => 0))] := hG
  exact aw_vret X hQ dX3_init_16 ⟨rfl, _, hG⟩

set_option maxHeartbeats 4000000 in
set_option maxRecDepth 100000 in
theorem c_X2_init (l : Launch) (U : xU) (μ0 : xH) (a : Nat) (h0 : μ0 a = some (.inr (2, [.null, .int 0, .int 0, .int 0, .int 0, .int 0, .int 0, .null]))) : Ct l U yX2_init cX2_init 1 none ({ frames := 1, cells := 2, slots := 64, locals := 20 } : Room) [.ref a] μ0 (fun v μ => v = none ∧ ∃ u w, GH μ0 μ [a, u, w] [.inr (2, [.ref u, .int 0, .int 0, .int 0, .int 0, .int 0, .int 0, .ref w]), .inl (uC U 2, 60, .inl (fun _ => 0)), .inl (uC U 0, 4, .inl (fun _ => 0))]) := by
  refine Ct.of [some (.ref a)] (by decide +kernel) rfl (Nat.le_of_ble_eq_true rfl) (fun K Q X hnm hQ => ?_)
  obtain ⟨μ, hμ, hG⟩ : ∃ μ : xH, μ0 = μ ∧ GH μ0 μ [a] [.inr (2, [.null, .int 0, .int 0, .int 0, .int 0, .int 0, .int 0, .null])] := ⟨μ0, rfl, GH.one h0⟩
  refine aw_mu hμ ?_
  refine aw_aload_n X dX2_init_0 rfl ?_
  refine aw_obj X l_X2_3 (by exact ⟨by decide, Nat.le_of_ble_eq_true rfl⟩) dX2_init_1 ?_
  refine aw_aload_n X dX2_init_4 rfl ?_
  refine aw_bipush X (60) dX2_init_5 rfl ?_
  refine aw_gnewa X hG (ty := .char) (t0 := 2) ac_char rfl rfl 60 rfl (by decide) rfl (by exact Nat.le_of_ble_eq_true rfl) (by exact ⟨Nat.le_of_ble_eq_true rfl, Nat.le_of_ble_eq_true rfl⟩) dX2_init_7 (fun q1 μ hG => ?_)
  have hG : GH μ0 μ [a, q1] [.inr (2, [.null, .int 0, .int 0, .int 0, .int 0, .int 0, .int 0, .null]), .inl (uC U 2, 60, .inl (fun _ => 0))] := hG
  refine aw_gputF X hnm hG 0 (.array .char) rfl rfl rfl f_X2_9 rfl (by decide +kernel) ⟨rfl, rfl⟩ (by exact Nat.le_of_ble_eq_true rfl) dX2_init_9 (fun μ hG => ?_)
  have hG : GH μ0 μ [a, q1] [.inr (2, [.ref q1, .int 0, .int 0, .int 0, .int 0, .int 0, .int 0, .null]), .inl (uC U 2, 60, .inl (fun _ => 0))] := hG
  refine aw_aload_n X dX2_init_12 rfl ?_
  refine aw_iconst X (0) dX2_init_13 rfl ?_
  refine aw_gput X hG 0 .int rfl rfl f_X2_15 rfl (by decide +kernel) xfit_i (by exact Nat.le_of_ble_eq_true rfl) dX2_init_14 (fun μ hG => ?_)
  have hG : GH μ0 μ [a, q1] [.inr (2, [.ref q1, .int 0, .int 0, .int 0, .int 0, .int 0, .int 0, .null]), .inl (uC U 2, 60, .inl (fun _ => 0))] := hG
  refine aw_aload_n X dX2_init_17 rfl ?_
  refine aw_iconst X (0) dX2_init_18 rfl ?_
  refine aw_gput X hG 0 .int rfl rfl f_X2_19 rfl (by decide +kernel) xfit_i (by exact Nat.le_of_ble_eq_true rfl) dX2_init_19 (fun μ hG => ?_)
  have hG : GH μ0 μ [a, q1] [.inr (2, [.ref q1, .int 0, .int 0, .int 0, .int 0, .int 0, .int 0, .null]), .inl (uC U 2, 60, .inl (fun _ => 0))] := hG
  refine aw_aload_n X dX2_init_22 rfl ?_
  refine aw_iconst X (0) dX2_init_23 rfl ?_
  refine aw_gput X hG 0 .int rfl rfl f_X2_22 rfl (by decide +kernel) xfit_i (by exact Nat.le_of_ble_eq_true rfl) dX2_init_24 (fun μ hG => ?_)
  have hG : GH μ0 μ [a, q1] [.inr (2, [.ref q1, .int 0, .int 0, .int 0, .int 0, .int 0, .int 0, .null]), .inl (uC U 2, 60, .inl (fun _ => 0))] := hG
  refine aw_aload_n X dX2_init_27 rfl ?_
  refine aw_iconst X (0) dX2_init_28 rfl ?_
  refine aw_gput X hG 0 .int rfl rfl f_X2_25 rfl (by decide +kernel) xfit_i (by exact Nat.le_of_ble_eq_true rfl) dX2_init_29 (fun μ hG => ?_)
  have hG : GH μ0 μ [a, q1] [.inr (2, [.ref q1, .int 0, .int 0, .int 0, .int 0, .int 0, .int 0, .null]), .inl (uC U 2, 60, .inl (fun _ => 0))] := hG
  refine aw_aload_n X dX2_init_32 rfl ?_
  refine aw_iconst X (0) dX2_init_33 rfl ?_
  refine aw_gput X hG 0 .int rfl rfl f_X2_28 rfl (by decide +kernel) xfit_i (by exact Nat.le_of_ble_eq_true rfl) dX2_init_34 (fun μ hG => ?_)
  have hG : GH μ0 μ [a, q1] [.inr (2, [.ref q1, .int 0, .int 0, .int 0, .int 0, .int 0, .int 0, .null]), .inl (uC U 2, 60, .inl (fun _ => 0))] := hG
  refine aw_aload_n X dX2_init_37 rfl ?_
  refine aw_iconst X (0) dX2_init_38 rfl ?_
  refine aw_gput X hG 0 .int rfl rfl f_X2_31 rfl (by decide +kernel) xfit_i (by exact Nat.le_of_ble_eq_true rfl) dX2_init_39 (fun μ hG => ?_)
  have hG : GH μ0 μ [a, q1] [.inr (2, [.ref q1, .int 0, .int 0, .int 0, .int 0, .int 0, .int 0, .null]), .inl (uC U 2, 60, .inl (fun _ => 0))] := hG
  refine aw_aload_n X dX2_init_42 rfl ?_
  refine aw_iconst X (4) dX2_init_43 rfl ?_
  refine aw_gnewa X hG (ty := .int) (t0 := 0) ac_int rfl rfl 4 rfl (by decide) rfl (by exact Nat.le_of_ble_eq_true rfl) (by exact ⟨Nat.le_of_ble_eq_true rfl, Nat.le_of_ble_eq_true rfl⟩) dX2_init_44 (fun q2 μ hG => ?_)
  have hG : GH μ0 μ [a, q1, q2] [.inr (2, [.ref q1, .int 0, .int 0, .int 0, .int 0, .int 0, .int 0, .null]), .inl (uC U 2, 60, .inl (fun _ => 0)), .inl (uC U 0, 4, .inl (fun _ => 0))] := hG
  refine aw_gputF X hnm hG 0 (.array .int) rfl rfl rfl f_X2_34 rfl (by decide +kernel) ⟨rfl, rfl⟩ (by exact Nat.le_of_ble_eq_true rfl) dX2_init_46 (fun μ hG => ?_)
  have hG : GH μ0 μ [a, q1, q2] [.inr (2, [.ref q1, .int 0, .int 0, .int 0, .int 0, .int 0, .int 0, .ref q2]), .inl (uC U 2, 60, .inl (fun _ => 0)), .inl (uC U 0, 4, .inl (fun _ => 0))] := hG
  exact aw_vret X hQ dX2_init_49 ⟨rfl, _, _, hG⟩
