/-! texts, undo, slots, what if, orders -/
theorem lkd : ∀ (l : List (Int × Int)) (d k : Int), (∀ q ∈ l, q.1 ≠ k) → Op.lookupswitch.offset l d k = d := by
  intro l d k
  induction l with
  | nil => intro _; rfl
  | cons x r ih =>
    intro h
    obtain ⟨a, b⟩ := x
    rw [Op.lookupswitch.offset_cons, if_neg (h _ List.mem_cons_self)]
    exact ih (fun q hq => h q (List.mem_cons_of_mem _ hq))
theorem rup_id {rs : xR} {r : Nat} : rup rs r (rs r) = rs := by
  funext s
  unfold rup
  split
  · rename_i h; rw [h]
  · rfl
/-- .. and the trial is left as it may be -/
abbrev CtOT (l : Launch) (U : xU) (y : MethodName) (b : ByteArray) (maxL : Nat) (ret : Option FieldType) (rm : Room) (av : List Value) (lab : Nat → Nat) (μ : xH) (shs : Nat → Nat → Nat) (pa o : Nat → Nat) (r : Int32) (rs : xR) (p : xV) (un : Nat) (sv : Nat → Int32) : Prop := Ct l U y b maxL ret rm av μ (fun v μ' => v = some (.int r) ∧ ∃ rs' : xR, (∀ q, q ≠ 1 → rs' q = rs q) ∧ OR U lab μ μ' shs pa o rs' p un sv)
def cSaf (z : xV) (h : Int32) : Int32 := if isG h = false then -100001 else if isG (z (hz (tn h) 2)) = false then -100005 else if sfN z (tn h) = 200 then -100006 else nI (sfN z (tn h))
def ceN (z : xV) : Nat := ff (fun k => decide (cUnits (gHours z k).2 0 = 0)) 200 0
def cEmp (z : xV) : Int32 := if z 13 = 0 then -100005 else if cUnits (gHours z (ceN z)).2 0 = 0 then nI (ceN z) else -100006
def cIfP (z : xV) (n w : Int32) : Int32 :=
  if n < 1 ∨ 200 < n ∨ w < 0 ∨ 3 < w then -100002
  else if w = 0 then (gHours z (tn n)).1 else if w = 1 then (gHours z (tn n)).2 9 - z 9 else if w = 2 then cSpoilt (gHours z (tn n)).2 - cSpoilt z else (gHours z (tn n)).2 11 - z 11
def cStr (z : xV) (i : Nat) : xV := upd (upd z (80 + i) 1) (hz i 0) 20
def cLea (z : xV) (h : Int32) : Int32 := if isG h = false then -100001 else if isG (z (hz (tn h) 2)) = false then -100005 else if 120 < (gHours (cStr z (tn h)) 200).2 (hz (tn h) 0) then -100006 else (gHours (cStr z (tn h)) 200).2 (hz (tn h) 0)
set_option maxHeartbeats 1000000 in
set_option maxRecDepth 100000 in
theorem c_X4_undo (l : Launch) (U : xU) (lab : Nat → Nat) (μ0 : xH) (shs : Nat → Nat → Nat) (pa o : Nat → Nat) (rs : xR) (p : xV) (un : Nat) (sv : Nat → Int32) (hO0 : ORep U lab μ0 shs pa o rs p un sv) : CtOJ l U yX4_undo cX4_undo 1 (some .int) ({ frames := 3, cells := 0, slots := 0, locals := 69 } : Room) [.ref (o 0)] lab μ0 shs pa o (if un = 0 then -100005 else nI (un - 1)) (if un = 0 then rs else rup rs 0 (rs (3 + (un - 1)))) p (un - 1) sv := by
  refine Ct.of [some (.ref (o 0))] (by decide +kernel) rfl (Nat.le_of_ble_eq_true rfl) (fun K Q X hnm hQ => ?_)
  obtain ⟨μ, hμ, hO⟩ : ∃ μ : xH, μ0 = μ ∧ OR U lab μ0 μ shs pa o rs p un sv := ⟨μ0, rfl, OR.rf hO0⟩
  refine aw_mu hμ ?_
  refine aw_aload_n X dX4_undo_0 rfl ?_
  refine aw_oget X hO f_X4_30 rfl dX4_undo_1 ?_
  by_cases eu : un = 0
  · subst eu
    refine aw_if_le_t (tgt := 16) X dX4_undo_4 (by decide) (by decide) ?_
    refine aw_ldc X dX4_undo_16 a_X4_132 ?_
    exact aw_iret X hQ dX4_undo_18 ⟨rfl, hO⟩
  · obtain ⟨u, rfl⟩ : ∃ u, un = u + 1 := ⟨un - 1, by omega⟩
    have hu : u + 1 ≤ 6 := hO.un6
    refine aw_if_le_f (tgt := 16) X dX4_undo_4 (by decide) (Int32.not_le.mpr (nI_lt (Nat.succ_pos u) (by omega))) ?_
    refine aw_aload_n X dX4_undo_7 rfl ?_
    refine aw_oget X hO f_X4_30 rfl dX4_undo_8 ?_
    refine aw_bipush X (6) dX4_undo_11 rfl ?_
    refine aw_icmp_le_t (tgt := 19) X dX4_undo_13 (by decide) (by rw [show (6 : Int32) = nI 6 from rfl]; exact nI_le (by omega) (by omega)) ?_
    refine aw_aload_n X dX4_undo_19 rfl ?_
    refine aw_dup X dX4_undo_20 rfl ?_
    refine aw_oget X hO f_X4_30 rfl dX4_undo_21 ?_
    refine aw_iconst X (1) dX4_undo_24 rfl ?_
    refine aw_isub X dX4_undo_25 ?_
    refine aw_oputU X hO (u) (by omega) (nI_pred u) f_X4_30 dX4_undo_26 (fun μ hO => ?_)
    refine aw_aload_n X dX4_undo_29 rfl ?_
    refine aw_oget X hO f_X4_10 rfl dX4_undo_30 ?_
    refine aw_aload_n X dX4_undo_33 rfl ?_
    refine aw_oget X hO f_X4_26 rfl dX4_undo_34 ?_
    refine aw_aload_n X dX4_undo_37 rfl ?_
    refine aw_oget X hO f_X4_30 rfl dX4_undo_38 ?_
    refine aw_ohist X hO ((u)) (by omega) rfl dX4_undo_41 ?_
    refine aw_cVK (As := [.ref _]) X (hO.jr 0 (by decide)) (c_X1_copyFrom (kl K) U _ (shs 0) _ (hO.J 0 (by decide)) (shs (3 + (u))) _ (hO.J (3 + (u)) (by omega)) (hO.ne (by omega) (by decide) (by omega))) s_X4_162 k_X1_copyFrom (by decide) ⟨rfl, rfl⟩ ⟨Nat.zero_le _, Nat.zero_le _⟩ rfl (by exact Nat.le_of_ble_eq_true rfl) (hO.jr 0 (by decide)).g0 rfl dX4_undo_42 (fun μ z_1 ez_1 hJ => ?_)
    have hO := hO.upJ 0 (by decide) hJ
    obtain ⟨rs_1, ers_1⟩ : ∃ q : xR, q = rup rs 0 z_1 := ⟨_, rfl⟩
    rw [← ers_1] at hO
    refine aw_aload_n X dX4_undo_45 rfl ?_
    refine aw_oget X hO f_X4_30 rfl dX4_undo_46 ?_
    exact aw_iret X hQ dX4_undo_49 ⟨rfl, by subst ez_1 ers_1; exact hO⟩

set_option maxHeartbeats 1000000 in
set_option maxRecDepth 100000 in
theorem c_X4_save (l : Launch) (U : xU) (lab : Nat → Nat) (μ0 : xH) (shs : Nat → Nat → Nat) (pa o : Nat → Nat) (rs : xR) (p : xV) (un : Nat) (sv : Nat → Int32) (hO0 : ORep U lab μ0 shs pa o rs p un sv) (s : Int32) : CtOJ l U yX4_save cX4_save 2 (some .int) ({ frames := 3, cells := 0, slots := 0, locals := 69 } : Room) [.ref (o 0), .int s] lab μ0 shs pa o (if isS s = false then -100002 else rs 0 6) (if isS s = false then rs else rup rs (9 + tn s) (rs 0)) p un (if isS s = false then sv else upd sv (tn s) 1) := by
  refine Ct.of [some (.ref (o 0)), some (.int s)] (by decide +kernel) rfl (Nat.le_of_ble_eq_true rfl) (fun K Q X hnm hQ => ?_)
  obtain ⟨μ, hμ, hO⟩ : ∃ μ : xH, μ0 = μ ∧ OR U lab μ0 μ shs pa o rs p un sv := ⟨μ0, rfl, OR.rf hO0⟩
  refine aw_mu hμ ?_
  refine aw_iload_n X dX4_save_0 rfl ?_
  refine aw_cSF (As := [.int _]) X (c_X4_isSlot (kl K) U _ _) s_X4_198 k_X4_isSlot (by decide) ⟨rfl, rfl⟩ ⟨Nat.zero_le _, Nat.zero_le _⟩ rfl (by exact Nat.le_of_ble_eq_true rfl) dX4_save_1 ?_
  refine aw_b_ne (tgt := 10) X dX4_save_4 (by decide) (fun c4_1 => ?_) (fun c4_1 => ?_)
  · skip
    obtain ⟨sn, hsn, es, ets⟩ := isS_tn c4_1
    subst es
    refine aw_aload_n X dX4_save_10 rfl ?_
    refine aw_oget X hO f_X4_37 rfl dX4_save_11 ?_
    refine aw_iload_n X dX4_save_14 rfl ?_
    refine aw_oslot X hO (sn) (by omega) rfl dX4_save_15 ?_
    refine aw_aload_n X dX4_save_16 rfl ?_
    refine aw_oget X hO f_X4_10 rfl dX4_save_17 ?_
    refine aw_cVK (As := [.ref _]) X (hO.jr (9 + sn) (by omega)) (c_X1_copyFrom (kl K) U _ (shs (9 + sn)) _ (hO.J (9 + sn) (by omega)) (shs 0) _ (hO.J 0 (by decide)) (hO.ne (by decide) (by omega) (by omega))) s_X4_162 k_X1_copyFrom (by decide) ⟨rfl, rfl⟩ ⟨Nat.zero_le _, Nat.zero_le _⟩ rfl (by exact Nat.le_of_ble_eq_true rfl) (hO.jr (9 + sn) (by omega)).g0 rfl dX4_save_20 (fun μ z_2 ez_2 hJ => ?_)
    have hO := hO.upJ (9 + sn) (by omega) hJ
    obtain ⟨rs_2, ers_2⟩ : ∃ q : xR, q = rup rs (9 + sn) z_2 := ⟨_, rfl⟩
    rw [← ers_2] at hO
    refine aw_aload_n X dX4_save_23 rfl ?_
    refine aw_oget X hO f_X4_40 rfl dX4_save_24 ?_
    refine aw_iload_n X dX4_save_27 rfl ?_
    refine aw_iconst X (1) dX4_save_28 rfl ?_
    refine aw_osave X hO (sn) (by omega) rfl (by decide) dX4_save_29 (fun μ hO => ?_)
    refine aw_aload_n X dX4_save_30 rfl ?_
    refine aw_oget X hO f_X4_10 rfl dX4_save_31 ?_
    refine aw_jget X (hO.jr 0 (by decide)) f_X4_142 rfl dX4_save_34 ?_
    exact aw_iret X hQ dX4_save_37 ⟨congrArg (fun q => some (Value.int q)) (by rw [if_neg (by rw [c4_1]; decide)]; subst ez_2 ers_2; rw [rup_n (by omega)]), by rw [if_neg (by rw [c4_1]; decide), if_neg (by rw [c4_1]; decide), ets]; subst ez_2 ers_2; exact hO⟩
  · skip
    refine aw_ldc X dX4_save_7 a_X4_125 ?_
    exact aw_iret X hQ dX4_save_9 ⟨congrArg (fun q => some (Value.int q)) (by rw [if_pos c4_1]), by rw [if_pos c4_1, if_pos c4_1]; exact hO⟩

set_option maxHeartbeats 1000000 in
set_option maxRecDepth 100000 in
theorem c_X4_restore (l : Launch) (U : xU) (lab : Nat → Nat) (μ0 : xH) (shs : Nat → Nat → Nat) (pa o : Nat → Nat) (rs : xR) (p : xV) (un : Nat) (sv : Nat → Int32) (hO0 : ORep U lab μ0 shs pa o rs p un sv) (s : Int32) : CtO l U yX4_restore cX4_restore 2 (some .int) ({ frames := 4, cells := 0, slots := 0, locals := 89 } : Room) [.ref (o 0), .int s] lab μ0 pa o (if isS s = false then -100002 else if sv (tn s) = 0 then -100005 else rs (9 + tn s) 6) (if isS s = false then rs else if sv (tn s) = 0 then rs else dRs rs un (rs (9 + tn s) 6, rs (9 + tn s))) p (if isS s = false then un else if sv (tn s) = 0 then un else dUn un (rs (9 + tn s) 6, rs (9 + tn s))) sv := by
  refine Ct.of [some (.ref (o 0)), some (.int s)] (by decide +kernel) rfl (Nat.le_of_ble_eq_true rfl) (fun K Q X hnm hQ => ?_)
  obtain ⟨μ, hμ, hO⟩ : ∃ μ : xH, μ0 = μ ∧ OR U lab μ0 μ shs pa o rs p un sv := ⟨μ0, rfl, OR.rf hO0⟩
  refine aw_mu hμ ?_
  refine aw_iload_n X dX4_restore_0 rfl ?_
  refine aw_cSF (As := [.int _]) X (c_X4_isSlot (kl K) U _ _) s_X4_198 k_X4_isSlot (by decide) ⟨rfl, rfl⟩ ⟨Nat.zero_le _, Nat.zero_le _⟩ rfl (by exact Nat.le_of_ble_eq_true rfl) dX4_restore_1 ?_
  refine aw_b_ne (tgt := 10) X dX4_restore_4 (by decide) (fun c4_1 => ?_) (fun c4_1 => ?_)
  · skip
    obtain ⟨sn, hsn, es, ets⟩ := isS_tn c4_1
    subst es
    refine aw_aload_n X dX4_restore_10 rfl ?_
    refine aw_oget X hO f_X4_40 rfl dX4_restore_11 ?_
    refine aw_iload_n X dX4_restore_14 rfl ?_
    refine aw_osav X hO (sn) (by omega) rfl dX4_restore_15 ?_
    refine aw_if_ne (tgt := 22) X dX4_restore_16 (by decide) (fun c16_2 => ?_) (fun c16_2 => ?_)
    · skip
      refine aw_aload_n X dX4_restore_22 rfl ?_
      refine aw_cVOK (As := []) X hO (c_X4_keepPresent (kl K) U lab _ _ pa o _ _ _ _ hO.1) s_X4_44 k_X4_keepPresent (by decide) ⟨rfl, rfl⟩ ⟨Nat.zero_le _, Nat.zero_le _⟩ rfl (by exact Nat.le_of_ble_eq_true rfl) rfl dX4_restore_23 (fun μ hO => ?_)
      obtain ⟨rs_3, ers_3⟩ : ∃ q : xR, q = rup rs 2 (rs 0) := ⟨_, rfl⟩
      rw [← ers_3] at hO
      have e0 : rs_3 0 = rs 0 := by rw [ers_3]; rfl
      refine aw_aload_n X dX4_restore_26 rfl ?_
      refine aw_oget X hO f_X4_10 rfl dX4_restore_27 ?_
      refine aw_aload_n X dX4_restore_30 rfl ?_
      refine aw_oget X hO f_X4_37 rfl dX4_restore_31 ?_
      refine aw_iload_n X dX4_restore_34 rfl ?_
      refine aw_oslot X hO (sn) (by omega) rfl dX4_restore_35 ?_
      refine aw_cVK (As := [.ref _]) X (hO.jr 0 (by decide)) (c_X1_copyFrom (kl K) U _ (shs 0) _ (hO.J 0 (by decide)) (shs (9 + sn)) _ (hO.J (9 + sn) (by omega)) (hO.ne (by omega) (by decide) (by omega))) s_X4_162 k_X1_copyFrom (by decide) ⟨rfl, rfl⟩ ⟨Nat.zero_le _, Nat.zero_le _⟩ rfl (by exact Nat.le_of_ble_eq_true rfl) (hO.jr 0 (by decide)).g0 rfl dX4_restore_36 (fun μ z_4 ez_4 hJ => ?_)
      have hO := hO.upJ 0 (by decide) hJ
      obtain ⟨rs_4, ers_4⟩ : ∃ q : xR, q = rup rs_3 0 z_4 := ⟨_, rfl⟩
      rw [← ers_4] at hO
      refine aw_aload_n X dX4_restore_39 rfl ?_
      refine aw_aload_n X dX4_restore_40 rfl ?_
      refine aw_oget X hO f_X4_10 rfl dX4_restore_41 ?_
      refine aw_jget X (hO.jr 0 (by decide)) f_X4_142 rfl dX4_restore_44 ?_
      have en : rs_4 0 6 = rs (9 + sn) 6 := by rw [ers_4, rup_s, ez_4, ers_3, rup_n (by omega)]
      have ez4 : z_4 = rs (9 + sn) := by rw [ez_4, ers_3, rup_n (by omega)]
      refine aw_cVO (As := [.int _]) X hO (c_X4_recorded (kl K) U lab _ _ pa o _ _ _ _ hO.1 _) s_X4_51 k_X4_recorded (by decide) ⟨rfl, rfl⟩ ⟨Nat.zero_le _, Nat.zero_le _⟩ rfl (by exact Nat.le_of_ble_eq_true rfl) rfl dX4_restore_47 (fun μ shs hO => ?_)
      have h4 : ¬ isS (nI sn) = false := by rw [c4_1]; decide
      exact aw_iret X hQ dX4_restore_50 ⟨congrArg (fun q => some (Value.int q)) (by rw [if_neg h4, ets, if_neg c16_2, en]), _, by rw [if_neg h4, if_neg h4, ets, if_neg c16_2, if_neg c16_2]; rw [en, ers_4, ez4, ers_3] at hO; exact hO⟩
    · skip
      refine aw_ldc X dX4_restore_19 a_X4_132 ?_
      have h4 : ¬ isS (nI sn) = false := by rw [c4_1]; decide
      exact aw_iret X hQ dX4_restore_21 ⟨congrArg (fun q => some (Value.int q)) (by rw [if_neg h4, ets, if_pos c16_2]), _, by rw [if_neg h4, if_neg h4, ets, if_pos c16_2, if_pos c16_2]; exact hO⟩
  · skip
    refine aw_ldc X dX4_restore_7 a_X4_125 ?_
    exact aw_iret X hQ dX4_restore_9 ⟨congrArg (fun q => some (Value.int q)) (by rw [if_pos c4_1]), _, by rw [if_pos c4_1, if_pos c4_1]; exact hO⟩
