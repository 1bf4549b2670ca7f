/-! what the outer object tells -/
def oCount (rs : xR) (un : Nat) (w : Int32) : Int32 := if w = 19 then nI un else cNumber (rs 0) w
def cUnt (z : xV) : Int32 :=
  if z 12 = 0 then -100005
  else if ff (fun k => cFloats z (cDraught z 1) (z 6 + nI k)) 13 0 = 13 then -100006 else nI (ff (fun k => cFloats z (cDraught z 1) (z 6 + nI k)) 13 0)
/-- the tankers of the present have changed places -/
theorem OR.upS {U : xU} {lab : Nat → Nat} {μ0 μ μ' : xH} {shs : Nat → Nat → Nat} {pa o : Nat → Nat} {rs : xR} {p : xV} {un : Nat} {sv : Nat → Int32} (h : OR U lab μ0 μ shs pa o rs p un sv) (r : Nat) (hr : r < 11) {z : xV} (hJ : JS U μ μ' (shs r) z) : ∃ shs', OR U lab μ0 μ' shs' pa o (rup rs r z) p un sv := by
  obtain ⟨sh', e0, es, hR, hF0⟩ := hJ
  obtain ⟨⟨⟨a1, a2, a3, a4, a5⟩, h1, h2, h3, h4⟩, hF⟩ := h
  have key : ∀ n, n < 23 → ∃ m, m < 23 ∧ sh' n = shs r m := by
    intro n hn
    refine Classical.byContradiction (fun q => ?_)
    have := (es (sh' n)).mpr (fun m hm e => q ⟨m, hm, e⟩)
    exact this n hn rfl
  have hne : ∀ q, lab q ≠ 0 → μ' q = μ q := fun q hq => hF0 q (fun n hn e => hq (by rw [e]; exact a2 r n hr hn))
  obtain ⟨shs', es'⟩ : ∃ w : Nat → Nat → Nat, w = fun s => if s = r then sh' else shs s := ⟨_, rfl⟩
  have e1 : shs' r = sh' := by rw [es']; exact if_pos rfl
  have e2 : ∀ s, s ≠ r → shs' s = shs s := fun s hs => by rw [es']; exact if_neg hs
  have e00 : ∀ s, shs' s 0 = shs s 0 := fun s => by
    by_cases q : s = r
    · subst q; rw [e1]; exact e0
    · rw [e2 s q]
  have inn : ∀ s n, n < 23 → ∃ m, m < 23 ∧ shs' s n = shs s m := fun s n hn => by
    by_cases q : s = r
    · subst q; rw [e1]; exact key n hn
    · rw [e2 s q]; exact ⟨n, hn, rfl⟩
  refine ⟨shs', ⟨⟨fun s t n k hs ht hn hk e => ?_, fun s n hs hn => ?_, a3, a4, a5⟩, fun s hs => ?_, ?_, h3, ?_⟩, fun q hq => ?_⟩
  · obtain ⟨n', hn', en⟩ := inn s n hn
    obtain ⟨k', hk', ek⟩ := inn t k hk
    rw [en, ek] at e
    exact a1 s t n' k' hs ht hn' hk' e
  · obtain ⟨n', hn', en⟩ := inn s n hn
    rw [en]; exact a2 s n' hs hn'
  · by_cases e : s = r
    · subst e; rw [rup_s, e1]; exact hR
    · rw [rup_n e, e2 s e]
      exact (h1 s hs).fr hF0 (fun n m hn hm q => e (a1 s r n m hs hr hn hm q))
  · exact trivial
  · have h4' := OW.same h4 (fun i hi => hne _ (by rw [a5 i hi]; decide))
    unfold OWp
    simp only [e00]
    exact h4'
  · exact (hne q (by omega)).trans (hF q hq)
theorem aw_cVS {U : xU} {K : xK} {y : MethodName} {cc : ByteArray} {nL cells slots : Nat} {ret : Option FieldType} {rm : Room} {Q : State → Prop} {lab : Nat → Nat} {μ0 μ : xH} {shs : Nat → Nat → Nat} {pa o : Nat → Nat} {rs : xR} {p : xV} {un : Nat} {sv : Nat → Int32} {pc index : Nat} {ls : List (Option Value)} {st : List Value} {y' : MethodName} {b' : ByteArray} {maxL : Nat} {ret' : Option FieldType} {rm' : Room} (X : Cx U K y cc nL ret rm) {r : Int32} {z1 : xV} (hO : OR U lab μ0 μ shs pa o rs p un sv) (hM : Ct (kl K) U y' b' maxL ret' rm' [.ref (shs 0 0)] μ (fun v μ' => v = some (.int r) ∧ JS U μ μ' (shs 0) z1)) (hs : XV y.cls index y') (hy : XY y' b' maxL ret' 0) (hrm : rm'.frames + 1 ≤ rm.frames ∧ 8 + (maxL + 11) + rm'.locals ≤ rm.locals) (hm : rm'.cells = 0 ∧ rm'.slots = 0) (hf : cells ≤ rm.cells ∧ slots ≤ rm.slots) (hst : (st.map fun v => v.category).sum ≤ 8) (hci : xcl[1]? = some (y'.cls, TX1, 14)) (hdg : decode cc pc = .ok (.invokevirtual index, 3)) (kk : ∀ (μ' : xH) (shs' : Nat → Nat → Nat), OR U lab μ0 μ' shs' pa o (rup rs 0 z1) p un sv → AW U K nL cells slots Q μ' (pc + 3) ls (.int r :: st)) : AW U K nL cells slots Q μ pc ls (.ref (shs 0 0) :: st) := by
  have hR := X.2.2.2.2.2.2.2.1
  refine aw_cV (As := []) X hM hs hy hrm (by rw [hm.1, hm.2, hR]; exact hf) rfl hst (hO.jr 0 (by decide)).g0 hci hdg (fun v μ1 hp => ?_)
  obtain ⟨rfl, hp⟩ := hp
  rw [hm.1, hm.2]
  obtain ⟨shs', hO'⟩ := hO.upS 0 (by decide) hp
  exact kk _ _ hO'
set_option maxHeartbeats 1000000 in
set_option maxRecDepth 100000 in
theorem c_X4_set (l : Launch) (U : xU) (lab : Nat → Nat) (μ0 : xH) (shs : Nat → Nat → Nat) (pa o : Nat → Nat) (rs : xR) (p : xV) (un : Nat) (sv : Nat → Int32) (hO0 : ORep U lab μ0 shs pa o rs p un sv) (s v : Int32) : CtO l U yX4_set cX4_set 3 (some .int) ({ frames := 4, cells := 0, slots := 0, locals := 89 } : Room) [.ref (o 0), .int s, .int v] lab μ0 pa o (gSet (rs 0) s v).1 (dRs rs un (gSet (rs 0) s v)) p (dUn un (gSet (rs 0) s v)) sv := by
  refine Ct.of [some (.ref (o 0)), some (.int s), some (.int v)] (by decide +kernel) rfl (Nat.le_of_ble_eq_true rfl) (fun K Q X hnm hQ => ?_)
  obtain ⟨μ, hμ, hO⟩ : ∃ μ : xH, μ0 = μ ∧ OR U lab μ0 μ shs pa o rs p un sv := ⟨μ0, rfl, OR.rf hO0⟩
  refine aw_mu hμ ?_
  refine aw_aload_n X dX4_set_0 rfl ?_
  refine aw_cVOK (As := []) X hO (c_X4_keepPresent (kl K) U lab _ _ pa o _ _ _ _ hO.1) s_X4_44 k_X4_keepPresent (by decide) ⟨rfl, rfl⟩ ⟨Nat.zero_le _, Nat.zero_le _⟩ rfl (by exact Nat.le_of_ble_eq_true rfl) rfl dX4_set_1 (fun μ hO => ?_)
  obtain ⟨rs_1, ers_1⟩ : ∃ q : xR, q = rup rs 2 (rs 0) := ⟨_, rfl⟩
  rw [← ers_1] at hO
  have e0 : rs_1 0 = rs 0 := by rw [ers_1]; rfl
  refine aw_aload_n X dX4_set_4 rfl ?_
  refine aw_aload_n X dX4_set_5 rfl ?_
  refine aw_oget X hO f_X4_10 rfl dX4_set_6 ?_
  refine aw_iload_n X dX4_set_9 rfl ?_
  refine aw_iload_n X dX4_set_10 rfl ?_
  refine aw_cVJ (As := [.int _, .int _]) X (hO.jr 0 (by decide)) (c_X1_changeSetting (kl K) U _ (shs 0) _ (e0 ▸ hO.J 0 (by decide)) _ _ ) s_X4_47 k_X1_changeSetting (by decide) ⟨rfl, rfl⟩ ⟨Nat.zero_le _, Nat.zero_le _⟩ rfl (by exact Nat.le_of_ble_eq_true rfl) (hO.jr 0 (by decide)).g0 rfl dX4_set_11 (fun μ z_2 ez_2 hJ => ?_)
  have hO := hO.upJ 0 (by decide) hJ
  obtain ⟨rs_2, ers_2⟩ : ∃ q : xR, q = rup rs_1 0 z_2 := ⟨_, rfl⟩
  rw [← ers_2] at hO
  refine aw_cVO (As := [.int _]) X hO (c_X4_recorded (kl K) U lab _ _ pa o _ _ _ _ hO.1 _) s_X4_51 k_X4_recorded (by decide) ⟨rfl, rfl⟩ ⟨Nat.zero_le _, Nat.zero_le _⟩ rfl (by exact Nat.le_of_ble_eq_true rfl) rfl dX4_set_14 (fun μ shs hO => ?_)
  exact aw_iret X hQ dX4_set_17 ⟨rfl, _, by subst ers_1 ez_2 ers_2; exact hO⟩

set_option maxHeartbeats 1000000 in
set_option maxRecDepth 100000 in
theorem c_X4_arrive (l : Launch) (U : xU) (lab : Nat → Nat) (μ0 : xH) (shs : Nat → Nat → Nat) (pa o : Nat → Nat) (rs : xR) (p : xV) (un : Nat) (sv : Nat → Int32) (hO0 : ORep U lab μ0 shs pa o rs p un sv) (a b c d : Int32) : CtO l U yX4_arrive cX4_arrive 5 (some .int) ({ frames := 4, cells := 0, slots := 0, locals := 89 } : Room) [.ref (o 0), .int a, .int b, .int c, .int d] lab μ0 pa o (gArrive (rs 0) a b c d).1 (dRs rs un (gArrive (rs 0) a b c d)) p (dUn un (gArrive (rs 0) a b c d)) sv := by
  refine Ct.of [some (.ref (o 0)), some (.int a), some (.int b), some (.int c), some (.int d)] (by decide +kernel) rfl (Nat.le_of_ble_eq_true rfl) (fun K Q X hnm hQ => ?_)
  obtain ⟨μ, hμ, hO⟩ : ∃ μ : xH, μ0 = μ ∧ OR U lab μ0 μ shs pa o rs p un sv := ⟨μ0, rfl, OR.rf hO0⟩
  refine aw_mu hμ ?_
  refine aw_aload_n X dX4_arrive_0 rfl ?_
  refine aw_cVOK (As := []) X hO (c_X4_keepPresent (kl K) U lab _ _ pa o _ _ _ _ hO.1) s_X4_44 k_X4_keepPresent (by decide) ⟨rfl, rfl⟩ ⟨Nat.zero_le _, Nat.zero_le _⟩ rfl (by exact Nat.le_of_ble_eq_true rfl) rfl dX4_arrive_1 (fun μ hO => ?_)
  obtain ⟨rs_1, ers_1⟩ : ∃ q : xR, q = rup rs 2 (rs 0) := ⟨_, rfl⟩
  rw [← ers_1] at hO
  have e0 : rs_1 0 = rs 0 := by rw [ers_1]; rfl
  refine aw_aload_n X dX4_arrive_4 rfl ?_
  refine aw_aload_n X dX4_arrive_5 rfl ?_
  refine aw_oget X hO f_X4_10 rfl dX4_arrive_6 ?_
  refine aw_iload_n X dX4_arrive_9 rfl ?_
  refine aw_iload_n X dX4_arrive_10 rfl ?_
  refine aw_iload_n X dX4_arrive_11 rfl ?_
  refine aw_iload X dX4_arrive_12 rfl ?_
  refine aw_cVJ (As := [.int _, .int _, .int _, .int _]) X (hO.jr 0 (by decide)) (c_X1_letArrive (kl K) U _ (shs 0) _ (e0 ▸ hO.J 0 (by decide)) _ _ _ _ ) s_X4_55 k_X1_letArrive (by decide) ⟨rfl, rfl⟩ ⟨Nat.zero_le _, Nat.zero_le _⟩ rfl (by exact Nat.le_of_ble_eq_true rfl) (hO.jr 0 (by decide)).g0 rfl dX4_arrive_14 (fun μ z_2 ez_2 hJ => ?_)
  have hO := hO.upJ 0 (by decide) hJ
  obtain ⟨rs_2, ers_2⟩ : ∃ q : xR, q = rup rs_1 0 z_2 := ⟨_, rfl⟩
  rw [← ers_2] at hO
  refine aw_cVO (As := [.int _]) X hO (c_X4_recorded (kl K) U lab _ _ pa o _ _ _ _ hO.1 _) s_X4_51 k_X4_recorded (by decide) ⟨rfl, rfl⟩ ⟨Nat.zero_le _, Nat.zero_le _⟩ rfl (by exact Nat.le_of_ble_eq_true rfl) rfl dX4_arrive_17 (fun μ shs hO => ?_)
  exact aw_iret X hQ dX4_arrive_20 ⟨rfl, _, by subst ers_1 ez_2 ers_2; exact hO⟩

set_option maxHeartbeats 1000000 in
set_option maxRecDepth 100000 in
theorem c_X4_leave (l : Launch) (U : xU) (lab : Nat → Nat) (μ0 : xH) (shs : Nat → Nat → Nat) (pa o : Nat → Nat) (rs : xR) (p : xV) (un : Nat) (sv : Nat → Int32) (hO0 : ORep U lab μ0 shs pa o rs p un sv) : CtO l U yX4_leave cX4_leave 1 (some .int) ({ frames := 4, cells := 0, slots := 0, locals := 89 } : Room) [.ref (o 0)] lab μ0 pa o (gLeave (rs 0)).1 (dRs rs un (gLeave (rs 0))) p (dUn un (gLeave (rs 0))) sv := by
  refine Ct.of [some (.ref (o 0))] (by decide +kernel) rfl (Nat.le_of_ble_eq_true rfl) (fun K Q X hnm hQ => ?_)
  obtain ⟨μ, hμ, hO⟩ : ∃ μ : xH, μ0 = μ ∧ OR U lab μ0 μ shs pa o rs p un sv := ⟨μ0, rfl, OR.rf hO0⟩
  refine aw_mu hμ ?_
  refine aw_aload_n X dX4_leave_0 rfl ?_
  refine aw_cVOK (As := []) X hO (c_X4_keepPresent (kl K) U lab _ _ pa o _ _ _ _ hO.1) s_X4_44 k_X4_keepPresent (by decide) ⟨rfl, rfl⟩ ⟨Nat.zero_le _, Nat.zero_le _⟩ rfl (by exact Nat.le_of_ble_eq_true rfl) rfl dX4_leave_1 (fun μ hO => ?_)
  obtain ⟨rs_1, ers_1⟩ : ∃ q : xR, q = rup rs 2 (rs 0) := ⟨_, rfl⟩
  rw [← ers_1] at hO
  have e0 : rs_1 0 = rs 0 := by rw [ers_1]; rfl
  refine aw_aload_n X dX4_leave_4 rfl ?_
  refine aw_aload_n X dX4_leave_5 rfl ?_
  refine aw_oget X hO f_X4_10 rfl dX4_leave_6 ?_
  refine aw_cVJ (As := []) X (hO.jr 0 (by decide)) (c_X1_letLeave (kl K) U _ (shs 0) _ (e0 ▸ hO.J 0 (by decide))  ) s_X4_63 k_X1_letLeave (by decide) ⟨rfl, rfl⟩ ⟨Nat.zero_le _, Nat.zero_le _⟩ rfl (by exact Nat.le_of_ble_eq_true rfl) (hO.jr 0 (by decide)).g0 rfl dX4_leave_9 (fun μ z_2 ez_2 hJ => ?_)
  have hO := hO.upJ 0 (by decide) hJ
  obtain ⟨rs_2, ers_2⟩ : ∃ q : xR, q = rup rs_1 0 z_2 := ⟨_, rfl⟩
  rw [← ers_2] at hO
  refine aw_cVO (As := [.int _]) X hO (c_X4_recorded (kl K) U lab _ _ pa o _ _ _ _ hO.1 _) s_X4_51 k_X4_recorded (by decide) ⟨rfl, rfl⟩ ⟨Nat.zero_le _, Nat.zero_le _⟩ rfl (by exact Nat.le_of_ble_eq_true rfl) rfl dX4_leave_12 (fun μ shs hO => ?_)
  exact aw_iret X hQ dX4_leave_15 ⟨rfl, _, by subst ers_1 ez_2 ers_2; exact hO⟩

set_option maxHeartbeats 1000000 in
set_option maxRecDepth 100000 in
theorem c_X4_reach (l : Launch) (U : xU) (lab : Nat → Nat) (μ0 : xH) (shs : Nat → Nat → Nat) (pa o : Nat → Nat) (rs : xR) (p : xV) (un : Nat) (sv : Nat → Int32) (hO0 : ORep U lab μ0 shs pa o rs p un sv) (h v : Int32) : CtO l U yX4_reach cX4_reach 3 (some .int) ({ frames := 4, cells := 0, slots := 0, locals := 89 } : Room) [.ref (o 0), .int h, .int v] lab μ0 pa o (gReach (rs 0) h v).1 (dRs rs un (gReach (rs 0) h v)) p (dUn un (gReach (rs 0) h v)) sv := by
  refine Ct.of [some (.ref (o 0)), some (.int h), some (.int v)] (by decide +kernel) rfl (Nat.le_of_ble_eq_true rfl) (fun K Q X hnm hQ => ?_)
  obtain ⟨μ, hμ, hO⟩ : ∃ μ : xH, μ0 = μ ∧ OR U lab μ0 μ shs pa o rs p un sv := ⟨μ0, rfl, OR.rf hO0⟩
  refine aw_mu hμ ?_
  refine aw_aload_n X dX4_reach_0 rfl ?_
  refine aw_cVOK (As := []) X hO (c_X4_keepPresent (kl K) U lab _ _ pa o _ _ _ _ hO.1) s_X4_44 k_X4_keepPresent (by decide) ⟨rfl, rfl⟩ ⟨Nat.zero_le _, Nat.zero_le _⟩ rfl (by exact Nat.le_of_ble_eq_true rfl) rfl dX4_reach_1 (fun μ hO => ?_)
  obtain ⟨rs_1, ers_1⟩ : ∃ q : xR, q = rup rs 2 (rs 0) := ⟨_, rfl⟩
  rw [← ers_1] at hO
  have e0 : rs_1 0 = rs 0 := by rw [ers_1]; rfl
  refine aw_aload_n X dX4_reach_4 rfl ?_
  refine aw_aload_n X dX4_reach_5 rfl ?_
  refine aw_oget X hO f_X4_10 rfl dX4_reach_6 ?_
  refine aw_iload_n X dX4_reach_9 rfl ?_
  refine aw_iload_n X dX4_reach_10 rfl ?_
  refine aw_cVJ (As := [.int _, .int _]) X (hO.jr 0 (by decide)) (c_X1_changeReach (kl K) U _ (shs 0) _ (e0 ▸ hO.J 0 (by decide)) _ _ ) s_X4_66 k_X1_changeReach (by decide) ⟨rfl, rfl⟩ ⟨Nat.zero_le _, Nat.zero_le _⟩ rfl (by exact Nat.le_of_ble_eq_true rfl) (hO.jr 0 (by decide)).g0 rfl dX4_reach_11 (fun μ z_2 ez_2 hJ => ?_)
  have hO := hO.upJ 0 (by decide) hJ
  obtain ⟨rs_2, ers_2⟩ : ∃ q : xR, q = rup rs_1 0 z_2 := ⟨_, rfl⟩
  rw [← ers_2] at hO
  refine aw_cVO (As := [.int _]) X hO (c_X4_recorded (kl K) U lab _ _ pa o _ _ _ _ hO.1 _) s_X4_51 k_X4_recorded (by decide) ⟨rfl, rfl⟩ ⟨Nat.zero_le _, Nat.zero_le _⟩ rfl (by exact Nat.le_of_ble_eq_true rfl) rfl dX4_reach_14 (fun μ shs hO => ?_)
  exact aw_iret X hQ dX4_reach_17 ⟨rfl, _, by subst ers_1 ez_2 ers_2; exact hO⟩

set_option maxHeartbeats 1000000 in
set_option maxRecDepth 100000 in
theorem c_X4_connect (l : Launch) (U : xU) (lab : Nat → Nat) (μ0 : xH) (shs : Nat → Nat → Nat) (pa o : Nat → Nat) (rs : xR) (p : xV) (un : Nat) (sv : Nat → Int32) (hO0 : ORep U lab μ0 shs pa o rs p un sv) (h g : Int32) : CtO l U yX4_connect cX4_connect 3 (some .int) ({ frames := 4, cells := 0, slots := 0, locals := 89 } : Room) [.ref (o 0), .int h, .int g] lab μ0 pa o (gConnect (rs 0) h g).1 (dRs rs un (gConnect (rs 0) h g)) p (dUn un (gConnect (rs 0) h g)) sv := by
  refine Ct.of [some (.ref (o 0)), some (.int h), some (.int g)] (by decide +kernel) rfl (Nat.le_of_ble_eq_true rfl) (fun K Q X hnm hQ => ?_)
  obtain ⟨μ, hμ, hO⟩ : ∃ μ : xH, μ0 = μ ∧ OR U lab μ0 μ shs pa o rs p un sv := ⟨μ0, rfl, OR.rf hO0⟩
  refine aw_mu hμ ?_
  refine aw_aload_n X dX4_connect_0 rfl ?_
  refine aw_cVOK (As := []) X hO (c_X4_keepPresent (kl K) U lab _ _ pa o _ _ _ _ hO.1) s_X4_44 k_X4_keepPresent (by decide) ⟨rfl, rfl⟩ ⟨Nat.zero_le _, Nat.zero_le _⟩ rfl (by exact Nat.le_of_ble_eq_true rfl) rfl dX4_connect_1 (fun μ hO => ?_)
  obtain ⟨rs_1, ers_1⟩ : ∃ q : xR, q = rup rs 2 (rs 0) := ⟨_, rfl⟩
  rw [← ers_1] at hO
  have e0 : rs_1 0 = rs 0 := by rw [ers_1]; rfl
  refine aw_aload_n X dX4_connect_4 rfl ?_
  refine aw_aload_n X dX4_connect_5 rfl ?_
  refine aw_oget X hO f_X4_10 rfl dX4_connect_6 ?_
  refine aw_iload_n X dX4_connect_9 rfl ?_
  refine aw_iload_n X dX4_connect_10 rfl ?_
  refine aw_cVJ (As := [.int _, .int _]) X (hO.jr 0 (by decide)) (c_X1_connectHose (kl K) U _ (shs 0) _ (e0 ▸ hO.J 0 (by decide)) _ _ ) s_X4_69 k_X1_connectHose (by decide) ⟨rfl, rfl⟩ ⟨Nat.zero_le _, Nat.zero_le _⟩ rfl (by exact Nat.le_of_ble_eq_true rfl) (hO.jr 0 (by decide)).g0 rfl dX4_connect_11 (fun μ z_2 ez_2 hJ => ?_)
  have hO := hO.upJ 0 (by decide) hJ
  obtain ⟨rs_2, ers_2⟩ : ∃ q : xR, q = rup rs_1 0 z_2 := ⟨_, rfl⟩
  rw [← ers_2] at hO
  refine aw_cVO (As := [.int _]) X hO (c_X4_recorded (kl K) U lab _ _ pa o _ _ _ _ hO.1 _) s_X4_51 k_X4_recorded (by decide) ⟨rfl, rfl⟩ ⟨Nat.zero_le _, Nat.zero_le _⟩ rfl (by exact Nat.le_of_ble_eq_true rfl) rfl dX4_connect_14 (fun μ shs hO => ?_)
  exact aw_iret X hQ dX4_connect_17 ⟨rfl, _, by subst ers_1 ez_2 ers_2; exact hO⟩

set_option maxHeartbeats 1000000 in
set_option maxRecDepth 100000 in
theorem c_X4_disconnect (l : Launch) (U : xU) (lab : Nat → Nat) (μ0 : xH) (shs : Nat → Nat → Nat) (pa o : Nat → Nat) (rs : xR) (p : xV) (un : Nat) (sv : Nat → Int32) (hO0 : ORep U lab μ0 shs pa o rs p un sv) (h : Int32) : CtO l U yX4_disconnect cX4_disconnect 2 (some .int) ({ frames := 4, cells := 0, slots := 0, locals := 89 } : Room) [.ref (o 0), .int h] lab μ0 pa o (gDisconnect (rs 0) h).1 (dRs rs un (gDisconnect (rs 0) h)) p (dUn un (gDisconnect (rs 0) h)) sv := by
  refine Ct.of [some (.ref (o 0)), some (.int h)] (by decide +kernel) rfl (Nat.le_of_ble_eq_true rfl) (fun K Q X hnm hQ => ?_)
  obtain ⟨μ, hμ, hO⟩ : ∃ μ : xH, μ0 = μ ∧ OR U lab μ0 μ shs pa o rs p un sv := ⟨μ0, rfl, OR.rf hO0⟩
  refine aw_mu hμ ?_
  refine aw_aload_n X dX4_disconnect_0 rfl ?_
  refine aw_cVOK (As := []) X hO (c_X4_keepPresent (kl K) U lab _ _ pa o _ _ _ _ hO.1) s_X4_44 k_X4_keepPresent (by decide) ⟨rfl, rfl⟩ ⟨Nat.zero_le _, Nat.zero_le _⟩ rfl (by exact Nat.le_of_ble_eq_true rfl) rfl dX4_disconnect_1 (fun μ hO => ?_)
  obtain ⟨rs_1, ers_1⟩ : ∃ q : xR, q = rup rs 2 (rs 0) := ⟨_, rfl⟩
  rw [← ers_1] at hO
  have e0 : rs_1 0 = rs 0 := by rw [ers_1]; rfl
  refine aw_aload_n X dX4_disconnect_4 rfl ?_
  refine aw_aload_n X dX4_disconnect_5 rfl ?_
  refine aw_oget X hO f_X4_10 rfl dX4_disconnect_6 ?_
  refine aw_iload_n X dX4_disconnect_9 rfl ?_
  refine aw_cVJ (As := [.int _]) X (hO.jr 0 (by decide)) (c_X1_disconnectHose (kl K) U _ (shs 0) _ (e0 ▸ hO.J 0 (by decide)) _ ) s_X4_72 k_X1_disconnectHose (by decide) ⟨rfl, rfl⟩ ⟨Nat.zero_le _, Nat.zero_le _⟩ rfl (by exact Nat.le_of_ble_eq_true rfl) (hO.jr 0 (by decide)).g0 rfl dX4_disconnect_10 (fun μ z_2 ez_2 hJ => ?_)
  have hO := hO.upJ 0 (by decide) hJ
  obtain ⟨rs_2, ers_2⟩ : ∃ q : xR, q = rup rs_1 0 z_2 := ⟨_, rfl⟩
  rw [← ers_2] at hO
  refine aw_cVO (As := [.int _]) X hO (c_X4_recorded (kl K) U lab _ _ pa o _ _ _ _ hO.1 _) s_X4_51 k_X4_recorded (by decide) ⟨rfl, rfl⟩ ⟨Nat.zero_le _, Nat.zero_le _⟩ rfl (by exact Nat.le_of_ble_eq_true rfl) rfl dX4_disconnect_13 (fun μ shs hO => ?_)
  exact aw_iret X hQ dX4_disconnect_16 ⟨rfl, _, by subst ers_1 ez_2 ers_2; exact hO⟩

set_option maxHeartbeats 1000000 in
set_option maxRecDepth 100000 in
theorem c_X4_flush (l : Launch) (U : xU) (lab : Nat → Nat) (μ0 : xH) (shs : Nat → Nat → Nat) (pa o : Nat → Nat) (rs : xR) (p : xV) (un : Nat) (sv : Nat → Int32) (hO0 : ORep U lab μ0 shs pa o rs p un sv) (h : Int32) : CtO l U yX4_flush cX4_flush 2 (some .int) ({ frames := 4, cells := 0, slots := 0, locals := 89 } : Room) [.ref (o 0), .int h] lab μ0 pa o (gFlush (rs 0) h).1 (dRs rs un (gFlush (rs 0) h)) p (dUn un (gFlush (rs 0) h)) sv := by
  refine Ct.of [some (.ref (o 0)), some (.int h)] (by decide +kernel) rfl (Nat.le_of_ble_eq_true rfl) (fun K Q X hnm hQ => ?_)
  obtain ⟨μ, hμ, hO⟩ : ∃ μ : xH, μ0 = μ ∧ OR U lab μ0 μ shs pa o rs p un sv := ⟨μ0, rfl, OR.rf hO0⟩
  refine aw_mu hμ ?_
  refine aw_aload_n X dX4_flush_0 rfl ?_
  refine aw_cVOK (As := []) X hO (c_X4_keepPresent (kl K) U lab _ _ pa o _ _ _ _ hO.1) s_X4_44 k_X4_keepPresent (by decide) ⟨rfl, rfl⟩ ⟨Nat.zero_le _, Nat.zero_le _⟩ rfl (by exact Nat.le_of_ble_eq_true rfl) rfl dX4_flush_1 (fun μ hO => ?_)
  obtain ⟨rs_1, ers_1⟩ : ∃ q : xR, q = rup rs 2 (rs 0) := ⟨_, rfl⟩
  rw [← ers_1] at hO
  have e0 : rs_1 0 = rs 0 := by rw [ers_1]; rfl
  refine aw_aload_n X dX4_flush_4 rfl ?_
  refine aw_aload_n X dX4_flush_5 rfl ?_
  refine aw_oget X hO f_X4_10 rfl dX4_flush_6 ?_
  refine aw_iload_n X dX4_flush_9 rfl ?_
  refine aw_cVJ (As := [.int _]) X (hO.jr 0 (by decide)) (c_X1_flushHose (kl K) U _ (shs 0) _ (e0 ▸ hO.J 0 (by decide)) _ ) s_X4_75 k_X1_flushHose (by decide) ⟨rfl, rfl⟩ ⟨Nat.zero_le _, Nat.zero_le _⟩ rfl (by exact Nat.le_of_ble_eq_true rfl) (hO.jr 0 (by decide)).g0 rfl dX4_flush_10 (fun μ z_2 ez_2 hJ => ?_)
  have hO := hO.upJ 0 (by decide) hJ
  obtain ⟨rs_2, ers_2⟩ : ∃ q : xR, q = rup rs_1 0 z_2 := ⟨_, rfl⟩
  rw [← ers_2] at hO
  refine aw_cVO (As := [.int _]) X hO (c_X4_recorded (kl K) U lab _ _ pa o _ _ _ _ hO.1 _) s_X4_51 k_X4_recorded (by decide) ⟨rfl, rfl⟩ ⟨Nat.zero_le _, Nat.zero_le _⟩ rfl (by exact Nat.le_of_ble_eq_true rfl) rfl dX4_flush_13 (fun μ shs hO => ?_)
  exact aw_iret X hQ dX4_flush_16 ⟨rfl, _, by subst ers_1 ez_2 ers_2; exact hO⟩

set_option maxHeartbeats 1000000 in
set_option maxRecDepth 100000 in
theorem c_X4_mend (l : Launch) (U : xU) (lab : Nat → Nat) (μ0 : xH) (shs : Nat → Nat → Nat) (pa o : Nat → Nat) (rs : xR) (p : xV) (un : Nat) (sv : Nat → Int32) (hO0 : ORep U lab μ0 shs pa o rs p un sv) (h : Int32) : CtO l U yX4_mend cX4_mend 2 (some .int) ({ frames := 4, cells := 0, slots := 0, locals := 89 } : Room) [.ref (o 0), .int h] lab μ0 pa o (gMend (rs 0) h).1 (dRs rs un (gMend (rs 0) h)) p (dUn un (gMend (rs 0) h)) sv := by
  refine Ct.of [some (.ref (o 0)), some (.int h)] (by decide +kernel) rfl (Nat.le_of_ble_eq_true rfl) (fun K Q X hnm hQ => ?_)
  obtain ⟨μ, hμ, hO⟩ : ∃ μ : xH, μ0 = μ ∧ OR U lab μ0 μ shs pa o rs p un sv := ⟨μ0, rfl, OR.rf hO0⟩
  refine aw_mu hμ ?_
  refine aw_aload_n X dX4_mend_0 rfl ?_
  refine aw_cVOK (As := []) X hO (c_X4_keepPresent (kl K) U lab _ _ pa o _ _ _ _ hO.1) s_X4_44 k_X4_keepPresent (by decide) ⟨rfl, rfl⟩ ⟨Nat.zero_le _, Nat.zero_le _⟩ rfl (by exact Nat.le_of_ble_eq_true rfl) rfl dX4_mend_1 (fun μ hO => ?_)
  obtain ⟨rs_1, ers_1⟩ : ∃ q : xR, q = rup rs 2 (rs 0) := ⟨_, rfl⟩
  rw [← ers_1] at hO
  have e0 : rs_1 0 = rs 0 := by rw [ers_1]; rfl
  refine aw_aload_n X dX4_mend_4 rfl ?_
  refine aw_aload_n X dX4_mend_5 rfl ?_
  refine aw_oget X hO f_X4_10 rfl dX4_mend_6 ?_
  refine aw_iload_n X dX4_mend_9 rfl ?_
  refine aw_cVJ (As := [.int _]) X (hO.jr 0 (by decide)) (c_X1_mendHose (kl K) U _ (shs 0) _ (e0 ▸ hO.J 0 (by decide)) _ ) s_X4_78 k_X1_mendHose (by decide) ⟨rfl, rfl⟩ ⟨Nat.zero_le _, Nat.zero_le _⟩ rfl (by exact Nat.le_of_ble_eq_true rfl) (hO.jr 0 (by decide)).g0 rfl dX4_mend_10 (fun μ z_2 ez_2 hJ => ?_)
  have hO := hO.upJ 0 (by decide) hJ
  obtain ⟨rs_2, ers_2⟩ : ∃ q : xR, q = rup rs_1 0 z_2 := ⟨_, rfl⟩
  rw [← ers_2] at hO
  refine aw_cVO (As := [.int _]) X hO (c_X4_recorded (kl K) U lab _ _ pa o _ _ _ _ hO.1 _) s_X4_51 k_X4_recorded (by decide) ⟨rfl, rfl⟩ ⟨Nat.zero_le _, Nat.zero_le _⟩ rfl (by exact Nat.le_of_ble_eq_true rfl) rfl dX4_mend_13 (fun μ shs hO => ?_)
  exact aw_iret X hQ dX4_mend_16 ⟨rfl, _, by subst ers_1 ez_2 ers_2; exact hO⟩

set_option maxHeartbeats 1000000 in
set_option maxRecDepth 100000 in
theorem c_X4_boom (l : Launch) (U : xU) (lab : Nat → Nat) (μ0 : xH) (shs : Nat → Nat → Nat) (pa o : Nat → Nat) (rs : xR) (p : xV) (un : Nat) (sv : Nat → Int32) (hO0 : ORep U lab μ0 shs pa o rs p un sv) (b : Int32) (hb : xz b) : CtO l U yX4_boom cX4_boom 2 (some .int) ({ frames := 4, cells := 0, slots := 0, locals := 89 } : Room) [.ref (o 0), .int b] lab μ0 pa o (gBoom (rs 0) b).1 (dRs rs un (gBoom (rs 0) b)) p (dUn un (gBoom (rs 0) b)) sv := by
  refine Ct.of [some (.ref (o 0)), some (.int b)] (by decide +kernel) rfl (Nat.le_of_ble_eq_true rfl) (fun K Q X hnm hQ => ?_)
  obtain ⟨μ, hμ, hO⟩ : ∃ μ : xH, μ0 = μ ∧ OR U lab μ0 μ shs pa o rs p un sv := ⟨μ0, rfl, OR.rf hO0⟩
  refine aw_mu hμ ?_
  refine aw_aload_n X dX4_boom_0 rfl ?_
  refine aw_cVOK (As := []) X hO (c_X4_keepPresent (kl K) U lab _ _ pa o _ _ _ _ hO.1) s_X4_44 k_X4_keepPresent (by decide) ⟨rfl, rfl⟩ ⟨Nat.zero_le _, Nat.zero_le _⟩ rfl (by exact Nat.le_of_ble_eq_true rfl) rfl dX4_boom_1 (fun μ hO => ?_)
  obtain ⟨rs_1, ers_1⟩ : ∃ q : xR, q = rup rs 2 (rs 0) := ⟨_, rfl⟩
  rw [← ers_1] at hO
  have e0 : rs_1 0 = rs 0 := by rw [ers_1]; rfl
  refine aw_aload_n X dX4_boom_4 rfl ?_
  refine aw_aload_n X dX4_boom_5 rfl ?_
  refine aw_oget X hO f_X4_10 rfl dX4_boom_6 ?_
  refine aw_iload_n X dX4_boom_9 rfl ?_
  refine aw_cVJ (As := [.int _]) X (hO.jr 0 (by decide)) (c_X1_changeBoom (kl K) U _ (shs 0) _ (e0 ▸ hO.J 0 (by decide)) _ hb) s_X4_81 k_X1_changeBoom (by decide) ⟨rfl, rfl⟩ ⟨Nat.zero_le _, Nat.zero_le _⟩ rfl (by exact Nat.le_of_ble_eq_true rfl) (hO.jr 0 (by decide)).g0 rfl dX4_boom_10 (fun μ z_2 ez_2 hJ => ?_)
  have hO := hO.upJ 0 (by decide) hJ
  obtain ⟨rs_2, ers_2⟩ : ∃ q : xR, q = rup rs_1 0 z_2 := ⟨_, rfl⟩
  rw [← ers_2] at hO
  refine aw_cVO (As := [.int _]) X hO (c_X4_recorded (kl K) U lab _ _ pa o _ _ _ _ hO.1 _) s_X4_51 k_X4_recorded (by decide) ⟨rfl, rfl⟩ ⟨Nat.zero_le _, Nat.zero_le _⟩ rfl (by exact Nat.le_of_ble_eq_true rfl) rfl dX4_boom_13 (fun μ shs hO => ?_)
  exact aw_iret X hQ dX4_boom_16 ⟨rfl, _, by subst ers_1 ez_2 ers_2; exact hO⟩

set_option maxHeartbeats 1000000 in
set_option maxRecDepth 100000 in
theorem c_X4_draw (l : Launch) (U : xU) (lab : Nat → Nat) (μ0 : xH) (shs : Nat → Nat → Nat) (pa o : Nat → Nat) (rs : xR) (p : xV) (un : Nat) (sv : Nat → Int32) (hO0 : ORep U lab μ0 shs pa o rs p un sv) (g u : Int32) : CtO l U yX4_draw cX4_draw 3 (some .int) ({ frames := 4, cells := 0, slots := 0, locals := 89 } : Room) [.ref (o 0), .int g, .int u] lab μ0 pa o (gDraw (rs 0) g u).1 (dRs rs un (gDraw (rs 0) g u)) p (dUn un (gDraw (rs 0) g u)) sv := by
  refine Ct.of [some (.ref (o 0)), some (.int g), some (.int u)] (by decide +kernel) rfl (Nat.le_of_ble_eq_true rfl) (fun K Q X hnm hQ => ?_)
  obtain ⟨μ, hμ, hO⟩ : ∃ μ : xH, μ0 = μ ∧ OR U lab μ0 μ shs pa o rs p un sv := ⟨μ0, rfl, OR.rf hO0⟩
  refine aw_mu hμ ?_
  refine aw_aload_n X dX4_draw_0 rfl ?_
  refine aw_cVOK (As := []) X hO (c_X4_keepPresent (kl K) U lab _ _ pa o _ _ _ _ hO.1) s_X4_44 k_X4_keepPresent (by decide) ⟨rfl, rfl⟩ ⟨Nat.zero_le _, Nat.zero_le _⟩ rfl (by exact Nat.le_of_ble_eq_true rfl) rfl dX4_draw_1 (fun μ hO => ?_)
  obtain ⟨rs_1, ers_1⟩ : ∃ q : xR, q = rup rs 2 (rs 0) := ⟨_, rfl⟩
  rw [← ers_1] at hO
  have e0 : rs_1 0 = rs 0 := by rw [ers_1]; rfl
  refine aw_aload_n X dX4_draw_4 rfl ?_
  refine aw_aload_n X dX4_draw_5 rfl ?_
  refine aw_oget X hO f_X4_10 rfl dX4_draw_6 ?_
  refine aw_iload_n X dX4_draw_9 rfl ?_
  refine aw_iload_n X dX4_draw_10 rfl ?_
  refine aw_cVJ (As := [.int _, .int _]) X (hO.jr 0 (by decide)) (c_X1_drawUnits (kl K) U _ (shs 0) _ (e0 ▸ hO.J 0 (by decide)) _ _ ) s_X4_85 k_X1_drawUnits (by decide) ⟨rfl, rfl⟩ ⟨Nat.zero_le _, Nat.zero_le _⟩ rfl (by exact Nat.le_of_ble_eq_true rfl) (hO.jr 0 (by decide)).g0 rfl dX4_draw_11 (fun μ z_2 ez_2 hJ => ?_)
  have hO := hO.upJ 0 (by decide) hJ
  obtain ⟨rs_2, ers_2⟩ : ∃ q : xR, q = rup rs_1 0 z_2 := ⟨_, rfl⟩
  rw [← ers_2] at hO
  refine aw_cVO (As := [.int _]) X hO (c_X4_recorded (kl K) U lab _ _ pa o _ _ _ _ hO.1 _) s_X4_51 k_X4_recorded (by decide) ⟨rfl, rfl⟩ ⟨Nat.zero_le _, Nat.zero_le _⟩ rfl (by exact Nat.le_of_ble_eq_true rfl) rfl dX4_draw_14 (fun μ shs hO => ?_)
  exact aw_iret X hQ dX4_draw_17 ⟨rfl, _, by subst ers_1 ez_2 ers_2; exact hO⟩

set_option maxHeartbeats 1000000 in
set_option maxRecDepth 100000 in
theorem c_X4_pass (l : Launch) (U : xU) (lab : Nat → Nat) (μ0 : xH) (shs : Nat → Nat → Nat) (pa o : Nat → Nat) (rs : xR) (p : xV) (un : Nat) (sv : Nat → Int32) (hO0 : ORep U lab μ0 shs pa o rs p un sv) (n : Int32) : CtO l U yX4_pass cX4_pass 2 (some .int) ({ frames := 6, cells := 0, slots := 0, locals := 132 } : Room) [.ref (o 0), .int n] lab μ0 pa o (gPass (rs 0) n).1 (dRs rs un (gPass (rs 0) n)) p (dUn un (gPass (rs 0) n)) sv := by
  refine Ct.of [some (.ref (o 0)), some (.int n)] (by decide +kernel) rfl (Nat.le_of_ble_eq_true rfl) (fun K Q X hnm hQ => ?_)
  obtain ⟨μ, hμ, hO⟩ : ∃ μ : xH, μ0 = μ ∧ OR U lab μ0 μ shs pa o rs p un sv := ⟨μ0, rfl, OR.rf hO0⟩
  refine aw_mu hμ ?_
  refine aw_aload_n X dX4_pass_0 rfl ?_
  refine aw_cVOK (As := []) X hO (c_X4_keepPresent (kl K) U lab _ _ pa o _ _ _ _ hO.1) s_X4_44 k_X4_keepPresent (by decide) ⟨rfl, rfl⟩ ⟨Nat.zero_le _, Nat.zero_le _⟩ rfl (by exact Nat.le_of_ble_eq_true rfl) rfl dX4_pass_1 (fun μ hO => ?_)
  obtain ⟨rs_1, ers_1⟩ : ∃ q : xR, q = rup rs 2 (rs 0) := ⟨_, rfl⟩
  rw [← ers_1] at hO
  have e0 : rs_1 0 = rs 0 := by rw [ers_1]; rfl
  refine aw_aload_n X dX4_pass_4 rfl ?_
  refine aw_aload_n X dX4_pass_5 rfl ?_
  refine aw_oget X hO f_X4_10 rfl dX4_pass_6 ?_
  refine aw_iload_n X dX4_pass_9 rfl ?_
  refine aw_cVJ (As := [.int _]) X (hO.jr 0 (by decide)) (c_X1_letPass (kl K) U _ (shs 0) _ (e0 ▸ hO.J 0 (by decide)) _ ) s_X4_88 k_X1_letPass (by decide) ⟨rfl, rfl⟩ ⟨Nat.zero_le _, Nat.zero_le _⟩ rfl (by exact Nat.le_of_ble_eq_true rfl) (hO.jr 0 (by decide)).g0 rfl dX4_pass_10 (fun μ z_2 ez_2 hJ => ?_)
  have hO := hO.upJ 0 (by decide) hJ
  obtain ⟨rs_2, ers_2⟩ : ∃ q : xR, q = rup rs_1 0 z_2 := ⟨_, rfl⟩
  rw [← ers_2] at hO
  refine aw_cVO (As := [.int _]) X hO (c_X4_recorded (kl K) U lab _ _ pa o _ _ _ _ hO.1 _) s_X4_51 k_X4_recorded (by decide) ⟨rfl, rfl⟩ ⟨Nat.zero_le _, Nat.zero_le _⟩ rfl (by exact Nat.le_of_ble_eq_true rfl) rfl dX4_pass_13 (fun μ shs hO => ?_)
  exact aw_iret X hQ dX4_pass_16 ⟨rfl, _, by subst ers_1 ez_2 ers_2; exact hO⟩

set_option maxHeartbeats 1000000 in
set_option maxRecDepth 100000 in
theorem c_X4_berth (l : Launch) (U : xU) (lab : Nat → Nat) (μ0 : xH) (shs : Nat → Nat → Nat) (pa o : Nat → Nat) (rs : xR) (p : xV) (un : Nat) (sv : Nat → Int32) (hO0 : ORep U lab μ0 shs pa o rs p un sv) : CtO l U yX4_berth cX4_berth 1 (some .int) ({ frames := 4, cells := 0, slots := 0, locals := 89 } : Room) [.ref (o 0)] lab μ0 pa o (gBerth (rs 0)).1 (dRs rs un (gBerth (rs 0))) p (dUn un (gBerth (rs 0))) sv := by
  refine Ct.of [some (.ref (o 0))] (by decide +kernel) rfl (Nat.le_of_ble_eq_true rfl) (fun K Q X hnm hQ => ?_)
  obtain ⟨μ, hμ, hO⟩ : ∃ μ : xH, μ0 = μ ∧ OR U lab μ0 μ shs pa o rs p un sv := ⟨μ0, rfl, OR.rf hO0⟩
  refine aw_mu hμ ?_
  refine aw_aload_n X dX4_berth_0 rfl ?_
  refine aw_cVOK (As := []) X hO (c_X4_keepPresent (kl K) U lab _ _ pa o _ _ _ _ hO.1) s_X4_44 k_X4_keepPresent (by decide) ⟨rfl, rfl⟩ ⟨Nat.zero_le _, Nat.zero_le _⟩ rfl (by exact Nat.le_of_ble_eq_true rfl) rfl dX4_berth_1 (fun μ hO => ?_)
  obtain ⟨rs_1, ers_1⟩ : ∃ q : xR, q = rup rs 2 (rs 0) := ⟨_, rfl⟩
  rw [← ers_1] at hO
  have e0 : rs_1 0 = rs 0 := by rw [ers_1]; rfl
  refine aw_aload_n X dX4_berth_4 rfl ?_
  refine aw_aload_n X dX4_berth_5 rfl ?_
  refine aw_oget X hO f_X4_10 rfl dX4_berth_6 ?_
  refine aw_cVS X hO (c_X1_letBerth (kl K) U _ (shs 0) _ (e0 ▸ hO.J 0 (by decide))) s_X4_59 k_X1_letBerth (by decide) ⟨rfl, rfl⟩ ⟨Nat.zero_le _, Nat.zero_le _⟩ (by exact Nat.le_of_ble_eq_true rfl) rfl dX4_berth_9 (fun μ shs hO => ?_)
  refine aw_cVO (As := [.int _]) X hO (c_X4_recorded (kl K) U lab _ _ pa o _ _ _ _ hO.1 _) s_X4_51 k_X4_recorded (by decide) ⟨rfl, rfl⟩ ⟨Nat.zero_le _, Nat.zero_le _⟩ rfl (by exact Nat.le_of_ble_eq_true rfl) rfl dX4_berth_12 (fun μ shs hO => ?_)
  exact aw_iret X hQ dX4_berth_15 ⟨rfl, _, by subst ers_1; exact hO⟩

set_option maxHeartbeats 1000000 in
set_option maxRecDepth 100000 in
theorem c_X4_tanker (l : Launch) (U : xU) (lab : Nat → Nat) (μ0 : xH) (shs : Nat → Nat → Nat) (pa o : Nat → Nat) (rs : xR) (p : xV) (un : Nat) (sv : Nat → Int32) (hO0 : ORep U lab μ0 shs pa o rs p un sv) (q w : Int32) : CtF l U yX4_tanker cX4_tanker 3 (some .int) ({ frames := 4, cells := 0, slots := 0, locals := 88 } : Room) [.ref (o 0), .int q, .int w] μ0 (cTanker (rs 0) q w) := by
  refine Ct.of [some (.ref (o 0)), some (.int q), some (.int w)] (by decide +kernel) rfl (Nat.le_of_ble_eq_true rfl) (fun K Q X hnm hQ => ?_)
  have hO := OR.rf hO0
  refine aw_aload_n X dX4_tanker_0 rfl ?_
  refine aw_oget X hO f_X4_10 rfl dX4_tanker_1 ?_
  refine aw_iload_n X dX4_tanker_4 rfl ?_
  refine aw_iload_n X dX4_tanker_5 rfl ?_
  refine aw_cVF (As := [.int _, .int _]) X (c_X1_aboutTanker (kl K) U _ (shs 0) _ (hO.jr 0 (by decide)).1 _ _) s_X4_113 k_X1_aboutTanker (by decide) ⟨rfl, rfl⟩ ⟨Nat.zero_le _, Nat.zero_le _⟩ rfl (by exact Nat.le_of_ble_eq_true rfl) (hO.jr 0 (by decide)).g0 rfl dX4_tanker_6 ?_
  exact aw_iret X hQ dX4_tanker_9 ⟨rfl, rfl⟩

set_option maxHeartbeats 1000000 in
set_option maxRecDepth 100000 in
theorem c_X4_hose (l : Launch) (U : xU) (lab : Nat → Nat) (μ0 : xH) (shs : Nat → Nat → Nat) (pa o : Nat → Nat) (rs : xR) (p : xV) (un : Nat) (sv : Nat → Int32) (hO0 : ORep U lab μ0 shs pa o rs p un sv) (h w : Int32) : CtF l U yX4_hose cX4_hose 3 (some .int) ({ frames := 2, cells := 0, slots := 0, locals := 43 } : Room) [.ref (o 0), .int h, .int w] μ0 (cHose (rs 0) h w) := by
  refine Ct.of [some (.ref (o 0)), some (.int h), some (.int w)] (by decide +kernel) rfl (Nat.le_of_ble_eq_true rfl) (fun K Q X hnm hQ => ?_)
  have hO := OR.rf hO0
  refine aw_aload_n X dX4_hose_0 rfl ?_
  refine aw_oget X hO f_X4_10 rfl dX4_hose_1 ?_
  refine aw_iload_n X dX4_hose_4 rfl ?_
  refine aw_iload_n X dX4_hose_5 rfl ?_
  refine aw_cVF (As := [.int _, .int _]) X (c_X1_aboutHose (kl K) U _ (shs 0) _ (hO.jr 0 (by decide)).1 _ _) s_X4_116 k_X1_aboutHose (by decide) ⟨rfl, rfl⟩ ⟨Nat.zero_le _, Nat.zero_le _⟩ rfl (by exact Nat.le_of_ble_eq_true rfl) (hO.jr 0 (by decide)).g0 rfl dX4_hose_6 ?_
  exact aw_iret X hQ dX4_hose_9 ⟨rfl, rfl⟩

set_option maxHeartbeats 1000000 in
set_option maxRecDepth 100000 in
theorem c_X4_grade (l : Launch) (U : xU) (lab : Nat → Nat) (μ0 : xH) (shs : Nat → Nat → Nat) (pa o : Nat → Nat) (rs : xR) (p : xV) (un : Nat) (sv : Nat → Int32) (hO0 : ORep U lab μ0 shs pa o rs p un sv) (g w : Int32) : CtF l U yX4_grade cX4_grade 3 (some .int) ({ frames := 3, cells := 0, slots := 0, locals := 66 } : Room) [.ref (o 0), .int g, .int w] μ0 (cGrade (rs 0) g w) := by
  refine Ct.of [some (.ref (o 0)), some (.int g), some (.int w)] (by decide +kernel) rfl (Nat.le_of_ble_eq_true rfl) (fun K Q X hnm hQ => ?_)
  have hO := OR.rf hO0
  refine aw_aload_n X dX4_grade_0 rfl ?_
  refine aw_oget X hO f_X4_10 rfl dX4_grade_1 ?_
  refine aw_iload_n X dX4_grade_4 rfl ?_
  refine aw_iload_n X dX4_grade_5 rfl ?_
  refine aw_cVF (As := [.int _, .int _]) X (c_X1_aboutGrade (kl K) U _ (shs 0) _ (hO.jr 0 (by decide)).1 _ _) s_X4_119 k_X1_aboutGrade (by decide) ⟨rfl, rfl⟩ ⟨Nat.zero_le _, Nat.zero_le _⟩ rfl (by exact Nat.le_of_ble_eq_true rfl) (hO.jr 0 (by decide)).g0 rfl dX4_grade_6 ?_
  exact aw_iret X hQ dX4_grade_9 ⟨rfl, rfl⟩

set_option maxHeartbeats 1000000 in
set_option maxRecDepth 100000 in
theorem c_X4_count (l : Launch) (U : xU) (lab : Nat → Nat) (μ0 : xH) (shs : Nat → Nat → Nat) (pa o : Nat → Nat) (rs : xR) (p : xV) (un : Nat) (sv : Nat → Int32) (hO0 : ORep U lab μ0 shs pa o rs p un sv) (w : Int32) (hw : ¬ w = 18) : CtF l U yX4_count cX4_count 2 (some .int) ({ frames := 4, cells := 0, slots := 0, locals := 83 } : Room) [.ref (o 0), .int w] μ0 (oCount rs un w) := by
  refine Ct.of [some (.ref (o 0)), some (.int w)] (by decide +kernel) rfl (Nat.le_of_ble_eq_true rfl) (fun K Q X hnm hQ => ?_)
  have hO := OR.rf hO0
  refine aw_iload_n X dX4_count_0 rfl ?_
  refine aw_bipush X (18) dX4_count_1 rfl ?_
  refine aw_icmp_ne_t (tgt := 14) X dX4_count_3 (by decide) hw ?_
  refine aw_iload_n X dX4_count_14 rfl ?_
  refine aw_bipush X (19) dX4_count_15 rfl ?_
  refine aw_icmp_ne (tgt := 25) X dX4_count_17 (by decide) (fun c17_1 => ?_) (fun c17_1 => ?_)
  · skip
    refine aw_aload_n X dX4_count_25 rfl ?_
    refine aw_oget X hO f_X4_10 rfl dX4_count_26 ?_
    refine aw_iload_n X dX4_count_29 rfl ?_
    refine aw_cVF (As := [.int _]) X (c_X1_number (kl K) U _ (shs 0) _ (hO.jr 0 (by decide)).1 _) s_X4_122 k_X1_number (by decide) ⟨rfl, rfl⟩ ⟨Nat.zero_le _, Nat.zero_le _⟩ rfl (by exact Nat.le_of_ble_eq_true rfl) (hO.jr 0 (by decide)).g0 rfl dX4_count_30 ?_
    exact aw_iret X hQ dX4_count_33 ⟨congrArg (fun q => some (Value.int q)) (by simp [oCount, c17_1]), rfl⟩
  · skip
    refine aw_aload_n X dX4_count_20 rfl ?_
    refine aw_oget X hO f_X4_30 rfl dX4_count_21 ?_
    exact aw_iret X hQ dX4_count_24 ⟨congrArg (fun q => some (Value.int q)) (by simp [oCount, c17_1]), rfl⟩

set_option maxHeartbeats 1000000 in
set_option maxRecDepth 100000 in
theorem c_X4_tide (l : Launch) (U : xU) (lab : Nat → Nat) (μ0 : xH) (shs : Nat → Nat → Nat) (pa o : Nat → Nat) (rs : xR) (p : xV) (un : Nat) (sv : Nat → Int32) (hO0 : ORep U lab μ0 shs pa o rs p un sv) (h : Int32) : CtF l U yX4_tide cX4_tide 2 (some .int) ({ frames := 2, cells := 0, slots := 0, locals := 43 } : Room) [.ref (o 0), .int h] μ0 (if h < 0 then -100002 else cTide (rs 0) h) := by
  refine Ct.of [some (.ref (o 0)), some (.int h)] (by decide +kernel) rfl (Nat.le_of_ble_eq_true rfl) (fun K Q X hnm hQ => ?_)
  have hO := OR.rf hO0
  refine aw_iload_n X dX4_tide_0 rfl ?_
  refine aw_if_ge (tgt := 9) X dX4_tide_1 (by decide) (fun c1_1 => ?_) (fun c1_1 => ?_)
  · skip
    refine aw_aload_n X dX4_tide_9 rfl ?_
    refine aw_oget X hO f_X4_10 rfl dX4_tide_10 ?_
    refine aw_iload_n X dX4_tide_13 rfl ?_
    refine aw_cVF (As := [.int _]) X (c_X1_tideAt (kl K) U _ (shs 0) _ (hO.jr 0 (by decide)).1 _) s_X4_126 k_X1_tideAt (by decide) ⟨rfl, rfl⟩ ⟨Nat.zero_le _, Nat.zero_le _⟩ rfl (by exact Nat.le_of_ble_eq_true rfl) (hO.jr 0 (by decide)).g0 rfl dX4_tide_14 ?_
    exact aw_iret X hQ dX4_tide_17 ⟨congrArg (fun q => some (Value.int q)) (by simp [c1_1, Int32.not_lt.mpr c1_1]), rfl⟩
  · skip
    refine aw_ldc X dX4_tide_4 a_X4_125 ?_
    refine aw_goto (tgt := 17) X dX4_tide_6 (by decide) ?_
    exact aw_iret X hQ dX4_tide_17 ⟨congrArg (fun q => some (Value.int q)) (by simp [c1_1, Int32.not_le.mp c1_1]), rfl⟩

set_option maxHeartbeats 1000000 in
set_option maxRecDepth 100000 in
theorem c_X4_untilFloats (l : Launch) (U : xU) (lab : Nat → Nat) (μ0 : xH) (shs : Nat → Nat → Nat) (pa o : Nat → Nat) (rs : xR) (p : xV) (un : Nat) (sv : Nat → Int32) (hO0 : ORep U lab μ0 shs pa o rs p un sv) : CtF l U yX4_untilFloats cX4_untilFloats 3 (some .int) ({ frames := 3, cells := 0, slots := 0, locals := 65 } : Room) [.ref (o 0)] μ0 (cUnt (rs 0)) := by
  refine Ct.of [some (.ref (o 0)), none, none] (by decide +kernel) rfl (Nat.le_of_ble_eq_true rfl) (fun K Q X hnm hQ => ?_)
  have hO := OR.rf hO0
  refine aw_aload_n X dX4_untilFloats_0 rfl ?_
  refine aw_oget X hO f_X4_10 rfl dX4_untilFloats_1 ?_
  refine aw_jget X (hO.jr 0 (by decide)) f_X4_129 rfl dX4_untilFloats_4 ?_
  refine aw_if_ne (tgt := 13) X dX4_untilFloats_7 (by decide) (fun c7_1 => ?_) (fun c7_1 => ?_)
  · skip
    refine aw_aload_n X dX4_untilFloats_13 rfl ?_
    refine aw_oget X hO f_X4_10 rfl dX4_untilFloats_14 ?_
    refine aw_jget X (hO.jr 0 (by decide)) f_X4_133 rfl dX4_untilFloats_17 ?_
    refine aw_iconst X (1) dX4_untilFloats_20 rfl ?_
    refine aw_tankAt X (hO.jr 0 (by decide)) (1) (by decide) (by decide) dX4_untilFloats_21 ?_
    refine aw_cVF (As := []) X (c_X3_draught (kl K) U _ (shs 0) _ (hO.jr 0 (by decide)).1 (1) (by decide)) s_X4_137 k_X3_draught (by decide) ⟨rfl, rfl⟩ ⟨Nat.zero_le _, Nat.zero_le _⟩ rfl (by exact Nat.le_of_ble_eq_true rfl) ((hO.jr 0 (by decide)).gT _ (by decide)) rfl dX4_untilFloats_22 ?_
    refine aw_istore_n X dX4_untilFloats_25 rfl (by decide) ?_
    refine aw_iconst X (0) dX4_untilFloats_26 rfl ?_
    refine aw_istore_n X dX4_untilFloats_27 rfl (by decide) ?_
    have loop : ∀ (d k : Nat), k + d = 13 → ff (fun k => cFloats (rs 0) (cDraught (rs 0) 1) (rs 0 6 + nI k)) d k = ff (fun k => cFloats (rs 0) (cDraught (rs 0) 1) (rs 0 6 + nI k)) 13 0 → AW U K 3 0 0 Q μ0 28 [some (.ref (o 0)), some (.int (cDraught (rs 0) 1)), some (.int (nI k))] [] := by
      intro d
      induction d with
      | zero =>
        intro k hk hR
        obtain rfl : k = 13 := by omega
        refine aw_iload_n X dX4_untilFloats_28 rfl ?_
        refine aw_bipush X (12) dX4_untilFloats_29 rfl ?_
        refine aw_icmp_gt_t (tgt := 62) X dX4_untilFloats_31 (by decide) (by decide) ?_
        refine aw_ldc X dX4_untilFloats_62 a_X4_94 ?_
        exact aw_iret X hQ dX4_untilFloats_64 ⟨congrArg (fun q => some (Value.int q)) (by rw [cUnt, if_neg c7_1, ← hR]; rfl), rfl⟩
      | succ d ih =>
        intro k hk hR
        refine aw_iload_n X dX4_untilFloats_28 rfl ?_
        refine aw_bipush X (12) dX4_untilFloats_29 rfl ?_
        refine aw_icmp_gt_f (tgt := 62) X dX4_untilFloats_31 (by decide) (by rw [show (12 : Int32) = nI 12 from rfl]; exact Int32.not_lt.mpr (nI_le (by omega) (by omega))) ?_
        refine aw_aload_n X dX4_untilFloats_34 rfl ?_
        refine aw_oget X hO f_X4_10 rfl dX4_untilFloats_35 ?_
        refine aw_iload_n X dX4_untilFloats_38 rfl ?_
        refine aw_aload_n X dX4_untilFloats_39 rfl ?_
        refine aw_oget X hO f_X4_10 rfl dX4_untilFloats_40 ?_
        refine aw_jget X (hO.jr 0 (by decide)) f_X4_142 rfl dX4_untilFloats_43 ?_
        refine aw_iload_n X dX4_untilFloats_46 rfl ?_
        refine aw_iadd X dX4_untilFloats_47 ?_
        refine aw_cVF (As := [.int _, .int _]) X (c_X1_floatsAt (kl K) U _ (shs 0) _ (hO.jr 0 (by decide)).1 _ _) s_X4_145 k_X1_floatsAt (by decide) ⟨rfl, rfl⟩ ⟨Nat.zero_le _, Nat.zero_le _⟩ rfl (by exact Nat.le_of_ble_eq_true rfl) (hO.jr 0 (by decide)).g0 rfl dX4_untilFloats_48 ?_
        refine aw_b_eq (tgt := 56) X dX4_untilFloats_51 (by decide) (fun c51_2 => ?_) (fun c51_2 => ?_)
        · skip
          refine aw_iinc X (1) dX4_untilFloats_56 rfl rfl rfl (by decide) ?_
          refine aw_goto (tgt := 28) X dX4_untilFloats_59 (by decide) ?_
          rw [ff, if_neg (by rw [c51_2]; decide)] at hR
          refine aw_sub [some (.ref (o 0)), some (.int (cDraught (rs 0) 1)), some (.int (nI (k + 1)))] ⟨rfl, rfl, congrArg (fun q => some (Value.int q)) (nI_1 k), trivial⟩ ?_
          exact ih (k + 1) (by omega) hR
        · skip
          refine aw_iload_n X dX4_untilFloats_54 rfl ?_
          rw [ff, if_pos c51_2] at hR
          exact aw_iret X hQ dX4_untilFloats_55 ⟨congrArg (fun q => some (Value.int q)) (by rw [cUnt, if_neg c7_1, ← hR, if_neg (by omega)]), rfl⟩
    refine aw_sub [some (.ref (o 0)), some (.int (cDraught (rs 0) 1)), some (.int (nI 0))] ⟨rfl, rfl, rfl, trivial⟩ ?_
    exact loop 13 0 (by omega) rfl
  · skip
    refine aw_ldc X dX4_untilFloats_10 a_X4_132 ?_
    exact aw_iret X hQ dX4_untilFloats_12 ⟨congrArg (fun q => some (Value.int q)) (by rw [cUnt, if_pos c7_1]), rfl⟩
