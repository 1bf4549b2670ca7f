/-! a new model -/
def mI : xV := fun k => if k < 50 then zI k else 0
set_option maxRecDepth 100000 in
theorem mI_eq : (upd (upd (upd (upd (upd (upd (upd (upd (upd (upd (upd (upd (upd (upd (upd (upd (upd (upd (fun _ => 0 : xV) 0 90) 1 20) 2 5) 3 10) 4 24) 5 5) (hz 0 0) 90) (hz 0 1) (-100006)) (hz 0 2) (-100006)) (hz 1 0) 90) (hz 1 1) (-100006)) (hz 1 2) (-100006)) (hz 2 0) 90) (hz 2 1) (-100006)) (hz 2 2) (-100006)) (hz 3 0) 90) (hz 3 1) (-100006)) (hz 3 2) (-100006)) = mI := by
  have h1 : ∀ j, j < 50 → (upd (upd (upd (upd (upd (upd (upd (upd (upd (upd (upd (upd (upd (upd (upd (upd (upd (upd (fun _ => 0 : xV) 0 90) 1 20) 2 5) 3 10) 4 24) 5 5) (hz 0 0) 90) (hz 0 1) (-100006)) (hz 0 2) (-100006)) (hz 1 0) 90) (hz 1 1) (-100006)) (hz 1 2) (-100006)) (hz 2 0) 90) (hz 2 1) (-100006)) (hz 2 2) (-100006)) (hz 3 0) 90) (hz 3 1) (-100006)) (hz 3 2) (-100006)) j = mI j := by decide +kernel
  funext j
  by_cases h : j < 50
  · exact h1 j h
  · have h2 : mI j = 0 := if_neg h
    rw [h2]
    simp only [hz]
    repeat rw [upd_n (by omega)]
def MNew (U : xU) (μ0 μ : xH) (a B : Nat) : Prop := ∃ ma : Nat → Nat, ma 0 = a ∧ FRep U μ ma 5 FM mI ∧ (∀ q, q < B → (∀ n, n ≤ 15 → q ≠ ma n) → μ q = μ0 q) ∧ ∀ n, 0 < n → n ≤ 15 → μ0 (ma n) = none ∨ B ≤ ma n
def mpos (n : Nat) : Nat := if n < 4 then n else if n < 5 then 100 else if n < 8 then n - 1 else if n < 15 then 100 else 7
theorem mnew {U : xU} {μ0 μ : xH} {a q1 q2 q3 q4 q5 q6 q7 : Nat} (hG : GH μ0 μ [a, q1, q2, q3, q4, q5, q6, q7] [.inr (5, [.ref q1, .ref q2, .ref q3, .int 0, .ref q4, .ref q5, .ref q6, .int 0, .int 0, .int 0, .int 0, .int 0, .int 0, .int 0, .ref q7]), .inl (uC U 0, 80, .inl (fun _ => 0)), .inl (uC U 0, 80, .inl (fun _ => 0)), .inl (uC U 0, 480, .inl (fun _ => 0)), .inl (uC U 0, 160, .inl (fun _ => 0)), .inl (uC U 1, 2, .inl (fun _ => 0)), .inl (uC U 0, 60, .inl (fun _ => 0)), .inl (uC U 0, 4, .inl (fun _ => 0))]) (B : Nat) :
    ∃ ma : Nat → Nat, ma 0 = a ∧ FRep U μ ma 5 FM (fun _ => 0) ∧ (∀ q, q < B → (∀ n, n ≤ 15 → q ≠ ma n) → μ q = μ0 q) ∧ ∀ n, 0 < n → n ≤ 15 → μ0 (ma n) = none ∨ B ≤ ma n := by
  obtain ⟨D, hD1, hD2⟩ : ∃ D, B ≤ D ∧ ∀ i, i < 8 → [a, q1, q2, q3, q4, q5, q6, q7].getD i 0 < D := ⟨B + a + q1 + q2 + q3 + q4 + q5 + q6 + q7 + 1, by omega, fun i hi => by
    rcases (show i = 0 ∨ i = 1 ∨ i = 2 ∨ i = 3 ∨ i = 4 ∨ i = 5 ∨ i = 6 ∨ i = 7 by omega) with rfl | rfl | rfl | rfl | rfl | rfl | rfl | rfl <;> simp <;> omega⟩
  obtain ⟨ma, hma⟩ : ∃ w : Nat → Nat, w = fun n => if mpos n < 8 then [a, q1, q2, q3, q4, q5, q6, q7].getD (mpos n) 0 else D + n := ⟨_, rfl⟩
  have hat : ∀ m, m < 8 → [a, q1, q2, q3, q4, q5, q6, q7][m]? = some ([a, q1, q2, q3, q4, q5, q6, q7].getD m 0) := fun m hm => by
    rw [List.getD_eq_getElem?_getD, List.getElem?_eq_getElem (by simpa using hm)]
    rfl
  have hr : ∀ n, mpos n < 8 → ma n = [a, q1, q2, q3, q4, q5, q6, q7].getD (mpos n) 0 := fun n h => by rw [hma]; exact if_pos h
  have hd : ∀ n, ¬ mpos n < 8 → ma n = D + n := fun n h => by rw [hma]; exact if_neg h
  have hmi : ∀ i j, i ≤ 15 → j ≤ 15 → mpos i < 8 → mpos i = mpos j → i = j := by
    intro i j hi hj h1 h2
    unfold mpos at h1 h2
    repeat' split at h2
    all_goals (try split at h1) <;> omega
  have e0 : ma 0 = a := by rw [hr 0 (by decide)]; rfl
  have e1 : ma 1 = q1 := by rw [hr 1 (by decide)]; rfl
  have e2 : ma 2 = q2 := by rw [hr 2 (by decide)]; rfl
  have e3 : ma 3 = q3 := by rw [hr 3 (by decide)]; rfl
  have e5 : ma 5 = q4 := by rw [hr 5 (by decide)]; rfl
  have e6 : ma 6 = q5 := by rw [hr 6 (by decide)]; rfl
  have e7 : ma 7 = q6 := by rw [hr 7 (by decide)]; rfl
  have e15 : ma 15 = q7 := by rw [hr 15 (by decide)]; rfl
  refine ⟨ma, e0, ⟨fun i j hi hj e => ?_, ⟨_, by rw [e0]; exact hG.2.1 0 _ _ rfl rfl, rfl, fun k x hx => ?_⟩, fun k x hx hx1 => ?_⟩, fun q hq hn => ?_, fun n h1 h2 => ?_⟩
  · have hi : i ≤ 15 := hi
    have hj : j ≤ 15 := hj
    by_cases hi2 : mpos i < 8
    · by_cases hj2 : mpos j < 8
      · rw [hr i hi2, hr j hj2] at e
        have h1 := hat _ hi2
        rw [e] at h1
        exact hmi i j hi hj hi2 (hG.2.2.1 _ _ _ h1 (hat _ hj2))
      · rw [hr i hi2, hd j hj2] at e
        have := hD2 _ hi2
        omega
    · by_cases hj2 : mpos j < 8
      · rw [hd i hi2, hr j hj2] at e
        have := hD2 _ hj2
        omega
      · rw [hd i hi2, hd j hj2] at e
        omega
  · have hk : k < 15 := (List.getElem?_eq_some_iff.mp hx).1
    rcases (show k = 0 ∨ k = 1 ∨ k = 2 ∨ k = 3 ∨ k = 4 ∨ k = 5 ∨ k = 6 ∨ k = 7 ∨ k = 8 ∨ k = 9 ∨ k = 10 ∨ k = 11 ∨ k = 12 ∨ k = 13 ∨ k = 14 by omega) with rfl | rfl | rfl | rfl | rfl | rfl | rfl | rfl | rfl | rfl | rfl | rfl | rfl | rfl | rfl
    all_goals cases hx
    all_goals first | exact ⟨rfl, fun _ => fok_i _⟩ | exact ⟨rfl, fun _ => fok_z (Or.inl rfl)⟩ | exact ⟨by simp [fval, e1, e2, e3, e5, e6, e7, e15], fun q => by cases q⟩
  · have hk : k < 15 := (List.getElem?_eq_some_iff.mp hx).1
    rcases (show k = 0 ∨ k = 1 ∨ k = 2 ∨ k = 3 ∨ k = 4 ∨ k = 5 ∨ k = 6 ∨ k = 7 ∨ k = 8 ∨ k = 9 ∨ k = 10 ∨ k = 11 ∨ k = 12 ∨ k = 13 ∨ k = 14 by omega) with rfl | rfl | rfl | rfl | rfl | rfl | rfl | rfl | rfl | rfl | rfl | rfl | rfl | rfl | rfl
    all_goals cases hx
    all_goals first | (cases hx1; done) | skip
    · exact ⟨_, by rw [e1]; exact hG.2.1 1 _ _ rfl rfl, fun j hj => ⟨rfl, fok_i _⟩⟩
    · exact ⟨_, by rw [e2]; exact hG.2.1 2 _ _ rfl rfl, fun j hj => ⟨rfl, fok_i _⟩⟩
    · exact ⟨_, by rw [e3]; exact hG.2.1 3 _ _ rfl rfl, fun j hj => ⟨rfl, fok_i _⟩⟩
    · exact ⟨_, by rw [e5]; exact hG.2.1 4 _ _ rfl rfl, fun j hj => ⟨rfl, fok_i _⟩⟩
    · exact ⟨_, by rw [e6]; exact hG.2.1 5 _ _ rfl rfl, fun j hj => ⟨rfl, fok_z (Or.inl rfl)⟩⟩
    · exact ⟨_, by rw [e7]; exact hG.2.1 6 _ _ rfl rfl, fun j hj => ⟨rfl, fok_i _⟩⟩
    · exact ⟨_, by rw [e15]; exact hG.2.1 7 _ _ rfl rfl, fun j hj => ⟨rfl, fok_i _⟩⟩
  · refine hG.2.2.2.1 q (fun hm => ?_)
    obtain ⟨m, hm⟩ := List.mem_iff_getElem?.mp hm
    have hml : m < 8 := by
      have := (List.getElem?_eq_some_iff.mp hm).1
      simpa using this
    have hq2 : q = [a, q1, q2, q3, q4, q5, q6, q7].getD m 0 := by
      rw [hat m hml] at hm
      exact (Option.some.inj hm).symm
    have key : ∃ n, n ≤ 15 ∧ mpos n = m := by
      rcases (show m = 0 ∨ m = 1 ∨ m = 2 ∨ m = 3 ∨ m = 4 ∨ m = 5 ∨ m = 6 ∨ m = 7 by omega) with rfl | rfl | rfl | rfl | rfl | rfl | rfl | rfl
      · exact ⟨0, by decide, rfl⟩
      · exact ⟨1, by decide, rfl⟩
      · exact ⟨2, by decide, rfl⟩
      · exact ⟨3, by decide, rfl⟩
      · exact ⟨5, by decide, rfl⟩
      · exact ⟨6, by decide, rfl⟩
      · exact ⟨7, by decide, rfl⟩
      · exact ⟨15, by decide, rfl⟩
    obtain ⟨n, hn1, hn2⟩ := key
    refine hn n hn1 ?_
    rw [hr n (by omega), hn2]
    exact hq2
  · by_cases h : mpos n < 8
    · left
      rw [hr n h]
      refine hG.2.2.2.2 _ _ (hat _ h) ?_
      unfold mpos
      repeat' split
      all_goals omega
    · right
      rw [hd n h]
      omega
set_option maxHeartbeats 4000000 in
set_option maxRecDepth 100000 in
theorem c_X5_init (l : Launch) (U : xU) (μ0 : xH) (a : Nat) (h0 : μ0 a = some (.inr (5, [.null, .null, .null, .int 0, .null, .null, .null, .int 0, .int 0, .int 0, .int 0, .int 0, .int 0, .int 0, .null]))) (B : Nat) : Ct l U yX5_init cX5_init 2 none ({ frames := 1, cells := 7, slots := 866, locals := 23 } : Room) [.ref a] μ0 (fun v μ => v = none ∧ MNew U μ0 μ a B) := by
  refine Ct.of [some (.ref a), none] (by decide +kernel) rfl (Nat.le_of_ble_eq_true rfl) (fun K Q X hnm hQ => ?_)
  obtain ⟨μ, hμ, hG⟩ : ∃ μ : xH, μ0 = μ ∧ GH μ0 μ [a] [.inr (5, [.null, .null, .null, .int 0, .null, .null, .null, .int 0, .int 0, .int 0, .int 0, .int 0, .int 0, .int 0, .null])] := ⟨μ0, rfl, GH.one h0⟩
  refine aw_mu hμ ?_
  refine aw_aload_n X dX5_init_0 rfl ?_
  refine aw_obj X l_X5_1 (by exact ⟨by decide, Nat.le_of_ble_eq_true rfl⟩) dX5_init_1 ?_
  refine aw_aload_n X dX5_init_4 rfl ?_
  refine aw_bipush X (80) dX5_init_5 rfl ?_
  refine aw_gnewa X hG (ty := .int) (t0 := 0) ac_int rfl rfl 80 rfl (by decide) rfl (by exact Nat.le_of_ble_eq_true rfl) (by exact ⟨Nat.le_of_ble_eq_true rfl, Nat.le_of_ble_eq_true rfl⟩) dX5_init_7 (fun q1 μ hG => ?_)
  have hG : GH μ0 μ [a, q1] [.inr (5, [.null, .null, .null, .int 0, .null, .null, .null, .int 0, .int 0, .int 0, .int 0, .int 0, .int 0, .int 0, .null]), .inl (uC U 0, 80, .inl (fun _ => 0))] := hG
  refine aw_gputF X hnm hG 0 (.array .int) rfl rfl rfl f_X5_7 rfl (by decide +kernel) ⟨rfl, rfl⟩ (by exact Nat.le_of_ble_eq_true rfl) dX5_init_9 (fun μ hG => ?_)
  have hG : GH μ0 μ [a, q1] [.inr (5, [.ref q1, .null, .null, .int 0, .null, .null, .null, .int 0, .int 0, .int 0, .int 0, .int 0, .int 0, .int 0, .null]), .inl (uC U 0, 80, .inl (fun _ => 0))] := hG
  refine aw_aload_n X dX5_init_12 rfl ?_
  refine aw_bipush X (80) dX5_init_13 rfl ?_
  refine aw_gnewa X hG (ty := .int) (t0 := 0) ac_int rfl rfl 80 rfl (by decide) rfl (by exact Nat.le_of_ble_eq_true rfl) (by exact ⟨Nat.le_of_ble_eq_true rfl, Nat.le_of_ble_eq_true rfl⟩) dX5_init_15 (fun q2 μ hG => ?_)
  have hG : GH μ0 μ [a, q1, q2] [.inr (5, [.ref q1, .null, .null, .int 0, .null, .null, .null, .int 0, .int 0, .int 0, .int 0, .int 0, .int 0, .int 0, .null]), .inl (uC U 0, 80, .inl (fun _ => 0)), .inl (uC U 0, 80, .inl (fun _ => 0))] := hG
  refine aw_gputF X hnm hG 0 (.array .int) rfl rfl rfl f_X5_13 rfl (by decide +kernel) ⟨rfl, rfl⟩ (by exact Nat.le_of_ble_eq_true rfl) dX5_init_17 (fun μ hG => ?_)
  have hG : GH μ0 μ [a, q1, q2] [.inr (5, [.ref q1, .ref q2, .null, .int 0, .null, .null, .null, .int 0, .int 0, .int 0, .int 0, .int 0, .int 0, .int 0, .null]), .inl (uC U 0, 80, .inl (fun _ => 0)), .inl (uC U 0, 80, .inl (fun _ => 0))] := hG
  refine aw_aload_n X dX5_init_20 rfl ?_
  refine aw_sipush X (480) dX5_init_21 rfl ?_
  refine aw_gnewa X hG (ty := .int) (t0 := 0) ac_int rfl rfl 480 rfl (by decide) rfl (by exact Nat.le_of_ble_eq_true rfl) (by exact ⟨Nat.le_of_ble_eq_true rfl, Nat.le_of_ble_eq_true rfl⟩) dX5_init_24 (fun q3 μ hG => ?_)
  have hG : GH μ0 μ [a, q1, q2, q3] [.inr (5, [.ref q1, .ref q2, .null, .int 0, .null, .null, .null, .int 0, .int 0, .int 0, .int 0, .int 0, .int 0, .int 0, .null]), .inl (uC U 0, 80, .inl (fun _ => 0)), .inl (uC U 0, 80, .inl (fun _ => 0)), .inl (uC U 0, 480, .inl (fun _ => 0))] := hG
  refine aw_gputF X hnm hG 0 (.array .int) rfl rfl rfl f_X5_16 rfl (by decide +kernel) ⟨rfl, rfl⟩ (by exact Nat.le_of_ble_eq_true rfl) dX5_init_26 (fun μ hG => ?_)
  have hG : GH μ0 μ [a, q1, q2, q3] [.inr (5, [.ref q1, .ref q2, .ref q3, .int 0, .null, .null, .null, .int 0, .int 0, .int 0, .int 0, .int 0, .int 0, .int 0, .null]), .inl (uC U 0, 80, .inl (fun _ => 0)), .inl (uC U 0, 80, .inl (fun _ => 0)), .inl (uC U 0, 480, .inl (fun _ => 0))] := hG
  refine aw_aload_n X dX5_init_29 rfl ?_
  refine aw_sipush X (160) dX5_init_30 rfl ?_
  refine aw_gnewa X hG (ty := .int) (t0 := 0) ac_int rfl rfl 160 rfl (by decide) rfl (by exact Nat.le_of_ble_eq_true rfl) (by exact ⟨Nat.le_of_ble_eq_true rfl, Nat.le_of_ble_eq_true rfl⟩) dX5_init_33 (fun q4 μ hG => ?_)
  have hG : GH μ0 μ [a, q1, q2, q3, q4] [.inr (5, [.ref q1, .ref q2, .ref q3, .int 0, .null, .null, .null, .int 0, .int 0, .int 0, .int 0, .int 0, .int 0, .int 0, .null]), .inl (uC U 0, 80, .inl (fun _ => 0)), .inl (uC U 0, 80, .inl (fun _ => 0)), .inl (uC U 0, 480, .inl (fun _ => 0)), .inl (uC U 0, 160, .inl (fun _ => 0))] := hG
  refine aw_gputF X hnm hG 0 (.array .int) rfl rfl rfl f_X5_19 rfl (by decide +kernel) ⟨rfl, rfl⟩ (by exact Nat.le_of_ble_eq_true rfl) dX5_init_35 (fun μ hG => ?_)
  have hG : GH μ0 μ [a, q1, q2, q3, q4] [.inr (5, [.ref q1, .ref q2, .ref q3, .int 0, .ref q4, .null, .null, .int 0, .int 0, .int 0, .int 0, .int 0, .int 0, .int 0, .null]), .inl (uC U 0, 80, .inl (fun _ => 0)), .inl (uC U 0, 80, .inl (fun _ => 0)), .inl (uC U 0, 480, .inl (fun _ => 0)), .inl (uC U 0, 160, .inl (fun _ => 0))] := hG
  refine aw_aload_n X dX5_init_38 rfl ?_
  refine aw_iconst X (2) dX5_init_39 rfl ?_
  refine aw_gnewa X hG (ty := .boolean) (t0 := 1) ac_boolean rfl rfl 2 rfl (by decide) rfl (by exact Nat.le_of_ble_eq_true rfl) (by exact ⟨Nat.le_of_ble_eq_true rfl, Nat.le_of_ble_eq_true rfl⟩) dX5_init_40 (fun q5 μ hG => ?_)
  have hG : GH μ0 μ [a, q1, q2, q3, q4, q5] [.inr (5, [.ref q1, .ref q2, .ref q3, .int 0, .ref q4, .null, .null, .int 0, .int 0, .int 0, .int 0, .int 0, .int 0, .int 0, .null]), .inl (uC U 0, 80, .inl (fun _ => 0)), .inl (uC U 0, 80, .inl (fun _ => 0)), .inl (uC U 0, 480, .inl (fun _ => 0)), .inl (uC U 0, 160, .inl (fun _ => 0)), .inl (uC U 1, 2, .inl (fun _ => 0))] := hG
  refine aw_gputF X hnm hG 0 (.array .boolean) rfl rfl rfl f_X5_22 rfl (by decide +kernel) ⟨rfl, rfl⟩ (by exact Nat.le_of_ble_eq_true rfl) dX5_init_42 (fun μ hG => ?_)
  have hG : GH μ0 μ [a, q1, q2, q3, q4, q5] [.inr (5, [.ref q1, .ref q2, .ref q3, .int 0, .ref q4, .ref q5, .null, .int 0, .int 0, .int 0, .int 0, .int 0, .int 0, .int 0, .null]), .inl (uC U 0, 80, .inl (fun _ => 0)), .inl (uC U 0, 80, .inl (fun _ => 0)), .inl (uC U 0, 480, .inl (fun _ => 0)), .inl (uC U 0, 160, .inl (fun _ => 0)), .inl (uC U 1, 2, .inl (fun _ => 0))] := hG
  refine aw_aload_n X dX5_init_45 rfl ?_
  refine aw_bipush X (60) dX5_init_46 rfl ?_
  refine aw_gnewa X hG (ty := .int) (t0 := 0) ac_int rfl rfl 60 rfl (by decide) rfl (by exact Nat.le_of_ble_eq_true rfl) (by exact ⟨Nat.le_of_ble_eq_true rfl, Nat.le_of_ble_eq_true rfl⟩) dX5_init_48 (fun q6 μ hG => ?_)
  have hG : GH μ0 μ [a, q1, q2, q3, q4, q5, q6] [.inr (5, [.ref q1, .ref q2, .ref q3, .int 0, .ref q4, .ref q5, .null, .int 0, .int 0, .int 0, .int 0, .int 0, .int 0, .int 0, .null]), .inl (uC U 0, 80, .inl (fun _ => 0)), .inl (uC U 0, 80, .inl (fun _ => 0)), .inl (uC U 0, 480, .inl (fun _ => 0)), .inl (uC U 0, 160, .inl (fun _ => 0)), .inl (uC U 1, 2, .inl (fun _ => 0)), .inl (uC U 0, 60, .inl (fun _ => 0))] := hG
  refine aw_gputF X hnm hG 0 (.array .int) rfl rfl rfl f_X5_26 rfl (by decide +kernel) ⟨rfl, rfl⟩ (by exact Nat.le_of_ble_eq_true rfl) dX5_init_50 (fun μ hG => ?_)
  have hG : GH μ0 μ [a, q1, q2, q3, q4, q5, q6] [.inr (5, [.ref q1, .ref q2, .ref q3, .int 0, .ref q4, .ref q5, .ref q6, .int 0, .int 0, .int 0, .int 0, .int 0, .int 0, .int 0, .null]), .inl (uC U 0, 80, .inl (fun _ => 0)), .inl (uC U 0, 80, .inl (fun _ => 0)), .inl (uC U 0, 480, .inl (fun _ => 0)), .inl (uC U 0, 160, .inl (fun _ => 0)), .inl (uC U 1, 2, .inl (fun _ => 0)), .inl (uC U 0, 60, .inl (fun _ => 0))] := hG
  refine aw_aload_n X dX5_init_53 rfl ?_
  refine aw_iconst X (4) dX5_init_54 rfl ?_
  refine aw_gnewa X hG (ty := .int) (t0 := 0) ac_int rfl rfl 4 rfl (by decide) rfl (by exact Nat.le_of_ble_eq_true rfl) (by exact ⟨Nat.le_of_ble_eq_true rfl, Nat.le_of_ble_eq_true rfl⟩) dX5_init_55 (fun q7 μ hG => ?_)
  have hG : GH μ0 μ [a, q1, q2, q3, q4, q5, q6, q7] [.inr (5, [.ref q1, .ref q2, .ref q3, .int 0, .ref q4, .ref q5, .ref q6, .int 0, .int 0, .int 0, .int 0, .int 0, .int 0, .int 0, .null]), .inl (uC U 0, 80, .inl (fun _ => 0)), .inl (uC U 0, 80, .inl (fun _ => 0)), .inl (uC U 0, 480, .inl (fun _ => 0)), .inl (uC U 0, 160, .inl (fun _ => 0)), .inl (uC U 1, 2, .inl (fun _ => 0)), .inl (uC U 0, 60, .inl (fun _ => 0)), .inl (uC U 0, 4, .inl (fun _ => 0))] := hG
  refine aw_gputF X hnm hG 0 (.array .int) rfl rfl rfl f_X5_29 rfl (by decide +kernel) ⟨rfl, rfl⟩ (by exact Nat.le_of_ble_eq_true rfl) dX5_init_57 (fun μ hG => ?_)
  have hG : GH μ0 μ [a, q1, q2, q3, q4, q5, q6, q7] [.inr (5, [.ref q1, .ref q2, .ref q3, .int 0, .ref q4, .ref q5, .ref q6, .int 0, .int 0, .int 0, .int 0, .int 0, .int 0, .int 0, .ref q7]), .inl (uC U 0, 80, .inl (fun _ => 0)), .inl (uC U 0, 80, .inl (fun _ => 0)), .inl (uC U 0, 480, .inl (fun _ => 0)), .inl (uC U 0, 160, .inl (fun _ => 0)), .inl (uC U 1, 2, .inl (fun _ => 0)), .inl (uC U 0, 60, .inl (fun _ => 0)), .inl (uC U 0, 4, .inl (fun _ => 0))] := hG
  obtain ⟨ma, e0, hF, hfr, hfn⟩ := mnew hG B
  subst e0
  obtain ⟨μ1, h1, hM⟩ : ∃ μ1 : xH, μ1 = μ ∧ FR U μ1 μ ma 5 FM (fun _ => 0) := ⟨μ, rfl, FR.rf hF⟩
  obtain ⟨z_0, ez_0⟩ : ∃ z : xV, z = fun _ => 0 := ⟨_, rfl⟩
  rw [← ez_0] at hM
  refine aw_aload_n X dX5_init_60 rfl ?_
  refine aw_fgetA X hM 0 (t := 0) (b := 0) (n := 80) rfl f_X5_7 dX5_init_61 ?_
  refine aw_iconst X (0) dX5_init_64 rfl ?_
  refine aw_bipush X (90) dX5_init_65 rfl ?_
  refine aw_fiast X FM_a hM 0 (b := 0) (n := 80) rfl 0 (xin_d rfl) (by decide) dX5_init_67 (fun μ z_1 ez_1 hM => ?_)
  refine aw_aload_n X dX5_init_68 rfl ?_
  refine aw_fgetA X hM 0 (t := 0) (b := 0) (n := 80) rfl f_X5_7 dX5_init_69 ?_
  refine aw_iconst X (1) dX5_init_72 rfl ?_
  refine aw_bipush X (20) dX5_init_73 rfl ?_
  refine aw_fiast X FM_a hM 0 (b := 0) (n := 80) rfl 1 (xin_d rfl) (by decide) dX5_init_75 (fun μ z_2 ez_2 hM => ?_)
  refine aw_aload_n X dX5_init_76 rfl ?_
  refine aw_fgetA X hM 0 (t := 0) (b := 0) (n := 80) rfl f_X5_7 dX5_init_77 ?_
  refine aw_iconst X (2) dX5_init_80 rfl ?_
  refine aw_iconst X (5) dX5_init_81 rfl ?_
  refine aw_fiast X FM_a hM 0 (b := 0) (n := 80) rfl 2 (xin_d rfl) (by decide) dX5_init_82 (fun μ z_3 ez_3 hM => ?_)
  refine aw_aload_n X dX5_init_83 rfl ?_
  refine aw_fgetA X hM 0 (t := 0) (b := 0) (n := 80) rfl f_X5_7 dX5_init_84 ?_
  refine aw_iconst X (3) dX5_init_87 rfl ?_
  refine aw_bipush X (10) dX5_init_88 rfl ?_
  refine aw_fiast X FM_a hM 0 (b := 0) (n := 80) rfl 3 (xin_d rfl) (by decide) dX5_init_90 (fun μ z_4 ez_4 hM => ?_)
  refine aw_aload_n X dX5_init_91 rfl ?_
  refine aw_fgetA X hM 0 (t := 0) (b := 0) (n := 80) rfl f_X5_7 dX5_init_92 ?_
  refine aw_iconst X (4) dX5_init_95 rfl ?_
  refine aw_bipush X (24) dX5_init_96 rfl ?_
  refine aw_fiast X FM_a hM 0 (b := 0) (n := 80) rfl 4 (xin_d rfl) (by decide) dX5_init_98 (fun μ z_5 ez_5 hM => ?_)
  refine aw_aload_n X dX5_init_99 rfl ?_
  refine aw_fgetA X hM 0 (t := 0) (b := 0) (n := 80) rfl f_X5_7 dX5_init_100 ?_
  refine aw_iconst X (5) dX5_init_103 rfl ?_
  refine aw_iconst X (5) dX5_init_104 rfl ?_
  refine aw_fiast X FM_a hM 0 (b := 0) (n := 80) rfl 5 (xin_d rfl) (by decide) dX5_init_105 (fun μ z_6 ez_6 hM => ?_)
  refine aw_iconst X (0) dX5_init_106 rfl ?_
  refine aw_istore_n X dX5_init_107 rfl (by decide) ?_
  refine aw_iload_n X dX5_init_108 rfl ?_
  refine aw_iconst X (4) dX5_init_109 rfl ?_
  refine aw_icmp_ge_f (tgt := 143) X dX5_init_110 (by decide) (by decide) ?_
  refine aw_aload_n X dX5_init_113 rfl ?_
  refine aw_iload_n X dX5_init_114 rfl ?_
  refine aw_iconst X (0) dX5_init_115 rfl ?_
  refine aw_bipush X (90) dX5_init_116 rfl ?_
  refine aw_cVFK (As := [.int _, .int _, .int _]) X hM (c_X5_setHose (kl K) U _ ma _ hM.1 _ _ _ 0 0 rfl rfl (by decide) (by decide)) s_X5_32 k_X5_setHose (by decide) ⟨rfl, rfl⟩ ⟨Nat.le_of_ble_eq_true rfl, Nat.le_of_ble_eq_true rfl⟩ rfl (by exact Nat.le_of_ble_eq_true rfl) rfl dX5_init_118 (fun μ z_7 ez_7 hM => ?_)
  refine aw_aload_n X dX5_init_121 rfl ?_
  refine aw_iload_n X dX5_init_122 rfl ?_
  refine aw_iconst X (1) dX5_init_123 rfl ?_
  refine aw_ldc X dX5_init_124 a_X5_36 ?_
  refine aw_cVFK (As := [.int _, .int _, .int _]) X hM (c_X5_setHose (kl K) U _ ma _ hM.1 _ _ _ 0 1 rfl rfl (by decide) (by decide)) s_X5_32 k_X5_setHose (by decide) ⟨rfl, rfl⟩ ⟨Nat.le_of_ble_eq_true rfl, Nat.le_of_ble_eq_true rfl⟩ rfl (by exact Nat.le_of_ble_eq_true rfl) rfl dX5_init_126 (fun μ z_8 ez_8 hM => ?_)
  refine aw_aload_n X dX5_init_129 rfl ?_
  refine aw_iload_n X dX5_init_130 rfl ?_
  refine aw_iconst X (2) dX5_init_131 rfl ?_
  refine aw_ldc X dX5_init_132 a_X5_36 ?_
  refine aw_cVFK (As := [.int _, .int _, .int _]) X hM (c_X5_setHose (kl K) U _ ma _ hM.1 _ _ _ 0 2 rfl rfl (by decide) (by decide)) s_X5_32 k_X5_setHose (by decide) ⟨rfl, rfl⟩ ⟨Nat.le_of_ble_eq_true rfl, Nat.le_of_ble_eq_true rfl⟩ rfl (by exact Nat.le_of_ble_eq_true rfl) rfl dX5_init_134 (fun μ z_9 ez_9 hM => ?_)
  refine aw_iinc X (1) dX5_init_137 rfl rfl rfl (by decide) ?_
  refine aw_goto (tgt := 108) X dX5_init_140 (by decide) ?_
  refine aw_iload_n X dX5_init_108 rfl ?_
  refine aw_iconst X (4) dX5_init_109 rfl ?_
  refine aw_icmp_ge_f (tgt := 143) X dX5_init_110 (by decide) (by decide) ?_
  refine aw_aload_n X dX5_init_113 rfl ?_
  refine aw_iload_n X dX5_init_114 rfl ?_
  refine aw_iconst X (0) dX5_init_115 rfl ?_
  refine aw_bipush X (90) dX5_init_116 rfl ?_
  refine aw_cVFK (As := [.int _, .int _, .int _]) X hM (c_X5_setHose (kl K) U _ ma _ hM.1 _ _ _ 1 0 rfl rfl (by decide) (by decide)) s_X5_32 k_X5_setHose (by decide) ⟨rfl, rfl⟩ ⟨Nat.le_of_ble_eq_true rfl, Nat.le_of_ble_eq_true rfl⟩ rfl (by exact Nat.le_of_ble_eq_true rfl) rfl dX5_init_118 (fun μ z_10 ez_10 hM => ?_)
  refine aw_aload_n X dX5_init_121 rfl ?_
  refine aw_iload_n X dX5_init_122 rfl ?_
  refine aw_iconst X (1) dX5_init_123 rfl ?_
  refine aw_ldc X dX5_init_124 a_X5_36 ?_
  refine aw_cVFK (As := [.int _, .int _, .int _]) X hM (c_X5_setHose (kl K) U _ ma _ hM.1 _ _ _ 1 1 rfl rfl (by decide) (by decide)) s_X5_32 k_X5_setHose (by decide) ⟨rfl, rfl⟩ ⟨Nat.le_of_ble_eq_true rfl, Nat.le_of_ble_eq_true rfl⟩ rfl (by exact Nat.le_of_ble_eq_true rfl) rfl dX5_init_126 (fun μ z_11 ez_11 hM => ?_)
  refine aw_aload_n X dX5_init_129 rfl ?_
  refine aw_iload_n X dX5_init_130 rfl ?_
  refine aw_iconst X (2) dX5_init_131 rfl ?_
  refine aw_ldc X dX5_init_132 a_X5_36 ?_
  refine aw_cVFK (As := [.int _, .int _, .int _]) X hM (c_X5_setHose (kl K) U _ ma _ hM.1 _ _ _ 1 2 rfl rfl (by decide) (by decide)) s_X5_32 k_X5_setHose (by decide) ⟨rfl, rfl⟩ ⟨Nat.le_of_ble_eq_true rfl, Nat.le_of_ble_eq_true rfl⟩ rfl (by exact Nat.le_of_ble_eq_true rfl) rfl dX5_init_134 (fun μ z_12 ez_12 hM => ?_)
  refine aw_iinc X (1) dX5_init_137 rfl rfl rfl (by decide) ?_
  refine aw_goto (tgt := 108) X dX5_init_140 (by decide) ?_
  refine aw_iload_n X dX5_init_108 rfl ?_
  refine aw_iconst X (4) dX5_init_109 rfl ?_
  refine aw_icmp_ge_f (tgt := 143) X dX5_init_110 (by decide) (by decide) ?_
  refine aw_aload_n X dX5_init_113 rfl ?_
  refine aw_iload_n X dX5_init_114 rfl ?_
  refine aw_iconst X (0) dX5_init_115 rfl ?_
  refine aw_bipush X (90) dX5_init_116 rfl ?_
  refine aw_cVFK (As := [.int _, .int _, .int _]) X hM (c_X5_setHose (kl K) U _ ma _ hM.1 _ _ _ 2 0 rfl rfl (by decide) (by decide)) s_X5_32 k_X5_setHose (by decide) ⟨rfl, rfl⟩ ⟨Nat.le_of_ble_eq_true rfl, Nat.le_of_ble_eq_true rfl⟩ rfl (by exact Nat.le_of_ble_eq_true rfl) rfl dX5_init_118 (fun μ z_13 ez_13 hM => ?_)
  refine aw_aload_n X dX5_init_121 rfl ?_
  refine aw_iload_n X dX5_init_122 rfl ?_
  refine aw_iconst X (1) dX5_init_123 rfl ?_
  refine aw_ldc X dX5_init_124 a_X5_36 ?_
  refine aw_cVFK (As := [.int _, .int _, .int _]) X hM (c_X5_setHose (kl K) U _ ma _ hM.1 _ _ _ 2 1 rfl rfl (by decide) (by decide)) s_X5_32 k_X5_setHose (by decide) ⟨rfl, rfl⟩ ⟨Nat.le_of_ble_eq_true rfl, Nat.le_of_ble_eq_true rfl⟩ rfl (by exact Nat.le_of_ble_eq_true rfl) rfl dX5_init_126 (fun μ z_14 ez_14 hM => ?_)
  refine aw_aload_n X dX5_init_129 rfl ?_
  refine aw_iload_n X dX5_init_130 rfl ?_
  refine aw_iconst X (2) dX5_init_131 rfl ?_
  refine aw_ldc X dX5_init_132 a_X5_36 ?_
  refine aw_cVFK (As := [.int _, .int _, .int _]) X hM (c_X5_setHose (kl K) U _ ma _ hM.1 _ _ _ 2 2 rfl rfl (by decide) (by decide)) s_X5_32 k_X5_setHose (by decide) ⟨rfl, rfl⟩ ⟨Nat.le_of_ble_eq_true rfl, Nat.le_of_ble_eq_true rfl⟩ rfl (by exact Nat.le_of_ble_eq_true rfl) rfl dX5_init_134 (fun μ z_15 ez_15 hM => ?_)
  refine aw_iinc X (1) dX5_init_137 rfl rfl rfl (by decide) ?_
  refine aw_goto (tgt := 108) X dX5_init_140 (by decide) ?_
  refine aw_iload_n X dX5_init_108 rfl ?_
  refine aw_iconst X (4) dX5_init_109 rfl ?_
  refine aw_icmp_ge_f (tgt := 143) X dX5_init_110 (by decide) (by decide) ?_
  refine aw_aload_n X dX5_init_113 rfl ?_
  refine aw_iload_n X dX5_init_114 rfl ?_
  refine aw_iconst X (0) dX5_init_115 rfl ?_
  refine aw_bipush X (90) dX5_init_116 rfl ?_
  refine aw_cVFK (As := [.int _, .int _, .int _]) X hM (c_X5_setHose (kl K) U _ ma _ hM.1 _ _ _ 3 0 rfl rfl (by decide) (by decide)) s_X5_32 k_X5_setHose (by decide) ⟨rfl, rfl⟩ ⟨Nat.le_of_ble_eq_true rfl, Nat.le_of_ble_eq_true rfl⟩ rfl (by exact Nat.le_of_ble_eq_true rfl) rfl dX5_init_118 (fun μ z_16 ez_16 hM => ?_)
  refine aw_aload_n X dX5_init_121 rfl ?_
  refine aw_iload_n X dX5_init_122 rfl ?_
  refine aw_iconst X (1) dX5_init_123 rfl ?_
  refine aw_ldc X dX5_init_124 a_X5_36 ?_
  refine aw_cVFK (As := [.int _, .int _, .int _]) X hM (c_X5_setHose (kl K) U _ ma _ hM.1 _ _ _ 3 1 rfl rfl (by decide) (by decide)) s_X5_32 k_X5_setHose (by decide) ⟨rfl, rfl⟩ ⟨Nat.le_of_ble_eq_true rfl, Nat.le_of_ble_eq_true rfl⟩ rfl (by exact Nat.le_of_ble_eq_true rfl) rfl dX5_init_126 (fun μ z_17 ez_17 hM => ?_)
  refine aw_aload_n X dX5_init_129 rfl ?_
  refine aw_iload_n X dX5_init_130 rfl ?_
  refine aw_iconst X (2) dX5_init_131 rfl ?_
  refine aw_ldc X dX5_init_132 a_X5_36 ?_
  refine aw_cVFK (As := [.int _, .int _, .int _]) X hM (c_X5_setHose (kl K) U _ ma _ hM.1 _ _ _ 3 2 rfl rfl (by decide) (by decide)) s_X5_32 k_X5_setHose (by decide) ⟨rfl, rfl⟩ ⟨Nat.le_of_ble_eq_true rfl, Nat.le_of_ble_eq_true rfl⟩ rfl (by exact Nat.le_of_ble_eq_true rfl) rfl dX5_init_134 (fun μ z_18 ez_18 hM => ?_)
  refine aw_iinc X (1) dX5_init_137 rfl rfl rfl (by decide) ?_
  refine aw_goto (tgt := 108) X dX5_init_140 (by decide) ?_
  refine aw_iload_n X dX5_init_108 rfl ?_
  refine aw_iconst X (4) dX5_init_109 rfl ?_
  refine aw_icmp_ge_t (tgt := 143) X dX5_init_110 (by decide) (by decide) ?_
  refine aw_vret X hQ dX5_init_143 ⟨rfl, ma, rfl, (hM.to (by subst ez_0 ez_1 ez_2 ez_3 ez_4 ez_5 ez_6 ez_7 ez_8 ez_9 ez_10 ez_11 ez_12 ez_13 ez_14 ez_15 ez_16 ez_17 ez_18; exact mI_eq)).1, fun q hq hn => ?_, hfn⟩
  rw [hM.2 q (fun n hn2 => hn n hn2), h1]
  exact hfr q hq hn
