/-! a new jetty -/
def JNew (U : xU) (μ0 μ : xH) (a : Nat) : Prop := ∃ sh : Nat → Nat, sh 0 = a ∧ JRep U μ sh zI ∧ (∀ n, 0 < n → n < 23 → μ0 (sh n) = none) ∧ ∀ q, (∀ n, n < 23 → q ≠ sh n) → μ q = μ0 q
def jpos (n : Nat) : Nat := if n < 11 then n else if n < 17 then 11 + 2 * (n - 11) else 12 + 2 * (n - 17)
theorem jpos_i : ∀ i j, i < 23 → j < 23 → jpos i = jpos j → i = j := by
  intro i j hi hj h
  unfold jpos at h
  repeat' split at h
  all_goals omega
theorem jpos_lt {n : Nat} (h : n < 23) : jpos n < 23 := by
  unfold jpos
  repeat' split
  all_goals omega
theorem jpos_on {m : Nat} (h : m < 23) : ∃ n, n < 23 ∧ jpos n = m := by
  by_cases h1 : m < 11
  · exact ⟨m, h, by unfold jpos; rw [if_pos h1]⟩
  by_cases h2 : (m - 11) % 2 = 0
  · exact ⟨11 + (m - 11) / 2, by omega, by unfold jpos; rw [if_neg (by omega), if_pos (by omega)]; omega⟩
  · exact ⟨17 + (m - 12) / 2, by omega, by unfold jpos; rw [if_neg (by omega), if_neg (by omega)]; omega⟩
theorem JC_0 {U : xU} {sh : Nat → Nat} {z : xV} {n : Nat} {e : va_E} (hn : n = 0) (h : e = .inr (1, jfs sh z)) : JC U sh z n e := by
  rw [JC, if_pos hn]; exact h
theorem JC_a {U : xU} {sh : Nat → Nat} {z : xV} {n c : Nat} {e : va_E} {f : Nat → Int32} (hn : n = 1 + c) (hc : c < 4) (h : e = .inl (uC U 0, jlen c, .inl f)) (hf : ∀ k, k < jlen c → f k = z (jbase c + k)) : JC U sh z n e := by
  subst hn
  rw [JC, if_neg (by omega), if_pos (by omega), Nat.add_sub_cancel_left]
  exact ⟨f, h, hf⟩
theorem JC_5 {U : xU} {sh : Nat → Nat} {z : xV} {n : Nat} {e : va_E} {f : Nat → Option Nat} (hn : n = 5) (h : e = .inl (uC U 3, 4, .inr (.inr (.inr (.inr f))))) (hf : ∀ i, i < 4 → f i = some (sh (7 + i))) : JC U sh z n e := by
  subst hn
  rw [JC, if_neg (by omega), if_neg (by omega), if_pos rfl]
  exact ⟨f, h, hf⟩
theorem JC_6 {U : xU} {sh : Nat → Nat} {z : xV} {n : Nat} {e : va_E} {f : Nat → Option Nat} (hn : n = 6) (h : e = .inl (uC U 4, 6, .inr (.inr (.inr (.inr f))))) (hf : ∀ i, i < 6 → f i = some (sh (11 + i))) : JC U sh z n e := by
  subst hn
  rw [JC, if_neg (by omega), if_neg (by omega), if_neg (by omega), if_pos rfl]
  exact ⟨f, h, hf⟩
theorem JC_h {U : xU} {sh : Nat → Nat} {z : xV} {n i : Nat} {e : va_E} (hn : n = 7 + i) (hi : i < 4) (h : e = .inr (0, hfs z i)) : JC U sh z n e := by
  subst hn
  rw [JC, if_neg (by omega), if_neg (by omega), if_neg (by omega), if_neg (by omega), if_pos (by omega), Nat.add_sub_cancel_left]
  exact h
theorem JC_t {U : xU} {sh : Nat → Nat} {z : xV} {n p : Nat} {e : va_E} (hn : n = 11 + p) (hp : p < 6) (h : e = .inr (3, [.ref (sh (17 + p)), .int (z (tz p 4))])) : JC U sh z n e := by
  subst hn
  rw [JC, if_neg (by omega), if_neg (by omega), if_neg (by omega), if_neg (by omega), if_neg (by omega), if_pos (by omega), Nat.add_sub_cancel_left]
  exact h
theorem JC_u {U : xU} {sh : Nat → Nat} {z : xV} {n p : Nat} {e : va_E} {f : Nat → Int32} (hn : n = 17 + p) (hp : p < 6) (h : e = .inl (uC U 0, 4, .inl f)) (hf : ∀ k, k < 4 → f k = z (tz p k)) : JC U sh z n e := by
  subst hn
  rw [JC, if_neg (by omega), if_neg (by omega), if_neg (by omega), if_neg (by omega), if_neg (by omega), if_neg (by omega), Nat.add_sub_cancel_left]
  exact ⟨f, h, hf⟩
theorem zI_0 {k : Nat} (h : 6 ≤ k) (h2 : k < 26 ∨ 50 ≤ k) : zI k = 0 := by
  unfold zI
  rw [if_neg (by omega), if_neg (by omega)]
theorem zI_s : ∀ k, k < jlen 0 → xsV 0 k = zI (jbase 0 + k) := by
  intro k hk
  simp only [jlen, jbase, if_pos] at *
  unfold zI
  rw [Nat.zero_add, if_pos hk]
theorem zI_a1 : ∀ k, k < jlen 1 → (0 : Int32) = zI (jbase 1 + k) := fun k hk => by
  have hk : k < 4 := hk
  exact (zI_0 (k := 14 + k) (by omega) (by omega)).symm
theorem zI_a2 : ∀ k, k < jlen 2 → (0 : Int32) = zI (jbase 2 + k) := fun k hk => by
  have hk : k < 4 := hk
  exact (zI_0 (k := 18 + k) (by omega) (by omega)).symm
theorem zI_a3 : ∀ k, k < jlen 3 → (0 : Int32) = zI (jbase 3 + k) := fun k hk => by
  have hk : k < 4 := hk
  exact (zI_0 (k := 22 + k) (by omega) (by omega)).symm
theorem zI_h {i : Nat} (hi : i < 4) : hfs zI i = [.int 90, .int (-100006), .int (-100006), .int 0, .int 0, .int 0, .int 0] := by
  rcases (show i = 0 ∨ i = 1 ∨ i = 2 ∨ i = 3 by omega) with rfl | rfl | rfl | rfl <;> rfl
theorem zI_t {p : Nat} (hp : p < 6) : zI (tz p 4) = 0 := zI_0 (by simp only [tz]; omega) (by simp only [tz]; omega)
theorem zI_u {p : Nat} (hp : p < 6) : ∀ k, k < 4 → (0 : Int32) = zI (tz p k) := fun k hk => (zI_0 (by simp only [tz]; omega) (by simp only [tz]; omega)).symm
theorem zI_z : xBz zI := by
  refine ⟨Or.inl rfl, Or.inl rfl, fun i hi => ?_⟩
  rcases (show i = 0 ∨ i = 1 ∨ i = 2 ∨ i = 3 by omega) with rfl | rfl | rfl | rfl <;> exact ⟨Or.inl rfl, Or.inl rfl⟩
theorem jnew {U : xU} {μ0 μ : xH} {A : List Nat} {E : List va_E} {a : Nat} (hG : GH μ0 μ A E) (hl : A.length = 23) (ha : A[0]? = some a) (hE : ∀ n, n < 23 → ∃ e, E[jpos n]? = some e ∧ JC U (fun n => A.getD (jpos n) 0) zI n e) : JNew U μ0 μ a := by
  have hat : ∀ m, m < 23 → A[m]? = some (A.getD m 0) := fun m hm => by
    rw [List.getD_eq_getElem?_getD, List.getElem?_eq_getElem (by omega)]
    rfl
  refine ⟨fun n => A.getD (jpos n) 0, ?_, ⟨fun i j hi hj e => ?_, zI_z, fun n hn => ?_⟩, fun n h0 hn => ?_, fun q hq => ?_⟩
  · show A.getD (jpos 0) 0 = a
    rw [List.getD_eq_getElem?_getD, show jpos 0 = 0 from rfl, ha]
    rfl
  · have h1 := hat _ (jpos_lt hi)
    have h2 := hat _ (jpos_lt hj)
    have e : A.getD (jpos i) 0 = A.getD (jpos j) 0 := e
    rw [e] at h1
    exact jpos_i i j hi hj (hG.2.2.1 _ _ _ h1 h2)
  · obtain ⟨e, h1, h2⟩ := hE n hn
    exact ⟨e, hG.2.1 _ _ _ (hat _ (jpos_lt hn)) h1, h2⟩
  · refine hG.2.2.2.2 _ _ (hat _ (jpos_lt hn)) ?_
    unfold jpos
    repeat' split
    all_goals omega
  · refine hG.2.2.2.1 q (fun hm => ?_)
    obtain ⟨m, hm⟩ := List.mem_iff_getElem?.mp hm
    have hml : m < 23 := by
      have := (List.getElem?_eq_some_iff.mp hm).1
      omega
    obtain ⟨n, hn, hnm⟩ := jpos_on hml
    refine hq n hn ?_
    show q = A.getD (jpos n) 0
    rw [hnm, List.getD_eq_getElem?_getD, hm]
    rfl
set_option maxHeartbeats 4000000 in
set_option maxRecDepth 100000 in
theorem c_X1_init (l : Launch) (U : xU) (μ0 : xH) (a : Nat) (h0 : μ0 a = some (.inr (1, [.null, .null, .null, .null, .null, .null, .int 0, .int 0, .int 0, .int 0, .int 0, .int 0, .int 0, .int 0]))) : Ct l U yX1_init cX1_init 2 none ({ frames := 2, cells := 22, slots := 92, locals := 40 } : Room) [.ref a] μ0 (fun v μ => v = none ∧ JNew U μ0 μ a) := by
  refine Ct.of [some (.ref a), none] (by decide +kernel) rfl (Nat.le_of_ble_eq_true rfl) (fun K Q X hnm hQ => ?_)
  obtain ⟨μ, hμ, hG⟩ : ∃ μ : xH, μ0 = μ ∧ GH μ0 μ [a] [.inr (1, [.null, .null, .null, .null, .null, .null, .int 0, .int 0, .int 0, .int 0, .int 0, .int 0, .int 0, .int 0])] := ⟨μ0, rfl, GH.one h0⟩
  refine aw_mu hμ ?_
  refine aw_aload_n X dX1_init_0 rfl ?_
  refine aw_obj X l_X1_3 (by exact ⟨by decide, Nat.le_of_ble_eq_true rfl⟩) dX1_init_1 ?_
  refine aw_aload_n X dX1_init_4 rfl ?_
  refine aw_gets X (t := 0) (by decide) (by decide +kernel) dX1_init_5 ?_
  refine aw_gclone X hG l_X1_13 (by exact ⟨by decide, Nat.le_of_ble_eq_true rfl⟩) (by exact ⟨Nat.le_of_ble_eq_true rfl, Nat.le_of_ble_eq_true rfl⟩) dX1_init_8 (fun q1 μ hG => ?_)
  have hG : GH μ0 μ [a, q1] [.inr (1, [.null, .null, .null, .null, .null, .null, .int 0, .int 0, .int 0, .int 0, .int 0, .int 0, .int 0, .int 0]), .inl (uC U 0, 6, .inl (xsV 0))] := hG
  refine aw_castA X e_X1_14 (hG.2.1 1 _ _ rfl rfl) dX1_init_11 ?_
  refine aw_gputF X hnm hG 0 (.array .int) rfl rfl rfl f_X1_18 rfl (by decide +kernel) ⟨rfl, rfl⟩ (by exact Nat.le_of_ble_eq_true rfl) dX1_init_14 (fun μ hG => ?_)
  have hG : GH μ0 μ [a, q1] [.inr (1, [.ref q1, .null, .null, .null, .null, .null, .int 0, .int 0, .int 0, .int 0, .int 0, .int 0, .int 0, .int 0]), .inl (uC U 0, 6, .inl (xsV 0))] := hG
  refine aw_aload_n X dX1_init_17 rfl ?_
  refine aw_iconst X (4) dX1_init_18 rfl ?_
  refine aw_gnewa X hG (ty := .int) (t0 := 0) ac_int rfl rfl 4 rfl (by decide) rfl (by exact Nat.le_of_ble_eq_true rfl) (by exact ⟨Nat.le_of_ble_eq_true rfl, Nat.le_of_ble_eq_true rfl⟩) dX1_init_19 (fun q2 μ hG => ?_)
  have hG : GH μ0 μ [a, q1, q2] [.inr (1, [.ref q1, .null, .null, .null, .null, .null, .int 0, .int 0, .int 0, .int 0, .int 0, .int 0, .int 0, .int 0]), .inl (uC U 0, 6, .inl (xsV 0)), .inl (uC U 0, 4, .inl (fun _ => 0))] := hG
  refine aw_gputF X hnm hG 0 (.array .int) rfl rfl rfl f_X1_23 rfl (by decide +kernel) ⟨rfl, rfl⟩ (by exact Nat.le_of_ble_eq_true rfl) dX1_init_21 (fun μ hG => ?_)
  have hG : GH μ0 μ [a, q1, q2] [.inr (1, [.ref q1, .ref q2, .null, .null, .null, .null, .int 0, .int 0, .int 0, .int 0, .int 0, .int 0, .int 0, .int 0]), .inl (uC U 0, 6, .inl (xsV 0)), .inl (uC U 0, 4, .inl (fun _ => 0))] := hG
  refine aw_aload_n X dX1_init_24 rfl ?_
  refine aw_iconst X (4) dX1_init_25 rfl ?_
  refine aw_gnewa X hG (ty := .int) (t0 := 0) ac_int rfl rfl 4 rfl (by decide) rfl (by exact Nat.le_of_ble_eq_true rfl) (by exact ⟨Nat.le_of_ble_eq_true rfl, Nat.le_of_ble_eq_true rfl⟩) dX1_init_26 (fun q3 μ hG => ?_)
  have hG : GH μ0 μ [a, q1, q2, q3] [.inr (1, [.ref q1, .ref q2, .null, .null, .null, .null, .int 0, .int 0, .int 0, .int 0, .int 0, .int 0, .int 0, .int 0]), .inl (uC U 0, 6, .inl (xsV 0)), .inl (uC U 0, 4, .inl (fun _ => 0)), .inl (uC U 0, 4, .inl (fun _ => 0))] := hG
  refine aw_gputF X hnm hG 0 (.array .int) rfl rfl rfl f_X1_26 rfl (by decide +kernel) ⟨rfl, rfl⟩ (by exact Nat.le_of_ble_eq_true rfl) dX1_init_28 (fun μ hG => ?_)
  have hG : GH μ0 μ [a, q1, q2, q3] [.inr (1, [.ref q1, .ref q2, .ref q3, .null, .null, .null, .int 0, .int 0, .int 0, .int 0, .int 0, .int 0, .int 0, .int 0]), .inl (uC U 0, 6, .inl (xsV 0)), .inl (uC U 0, 4, .inl (fun _ => 0)), .inl (uC U 0, 4, .inl (fun _ => 0))] := hG
  refine aw_aload_n X dX1_init_31 rfl ?_
  refine aw_iconst X (4) dX1_init_32 rfl ?_
  refine aw_gnewa X hG (ty := .int) (t0 := 0) ac_int rfl rfl 4 rfl (by decide) rfl (by exact Nat.le_of_ble_eq_true rfl) (by exact ⟨Nat.le_of_ble_eq_true rfl, Nat.le_of_ble_eq_true rfl⟩) dX1_init_33 (fun q4 μ hG => ?_)
  have hG : GH μ0 μ [a, q1, q2, q3, q4] [.inr (1, [.ref q1, .ref q2, .ref q3, .null, .null, .null, .int 0, .int 0, .int 0, .int 0, .int 0, .int 0, .int 0, .int 0]), .inl (uC U 0, 6, .inl (xsV 0)), .inl (uC U 0, 4, .inl (fun _ => 0)), .inl (uC U 0, 4, .inl (fun _ => 0)), .inl (uC U 0, 4, .inl (fun _ => 0))] := hG
  refine aw_gputF X hnm hG 0 (.array .int) rfl rfl rfl f_X1_29 rfl (by decide +kernel) ⟨rfl, rfl⟩ (by exact Nat.le_of_ble_eq_true rfl) dX1_init_35 (fun μ hG => ?_)
  have hG : GH μ0 μ [a, q1, q2, q3, q4] [.inr (1, [.ref q1, .ref q2, .ref q3, .ref q4, .null, .null, .int 0, .int 0, .int 0, .int 0, .int 0, .int 0, .int 0, .int 0]), .inl (uC U 0, 6, .inl (xsV 0)), .inl (uC U 0, 4, .inl (fun _ => 0)), .inl (uC U 0, 4, .inl (fun _ => 0)), .inl (uC U 0, 4, .inl (fun _ => 0))] := hG
  refine aw_aload_n X dX1_init_38 rfl ?_
  refine aw_iconst X (4) dX1_init_39 rfl ?_
  refine aw_gnewq X hG (t0 := 3) e_X1_32 (X.2.2.2.2.2.2.2.2.1.2.2.2.1.1) rfl 4 (by decide) rfl (by exact Nat.le_of_ble_eq_true rfl) (by exact ⟨Nat.le_of_ble_eq_true rfl, Nat.le_of_ble_eq_true rfl⟩) dX1_init_40 (fun q5 μ hG => ?_)
  have hG : GH μ0 μ [a, q1, q2, q3, q4, q5] [.inr (1, [.ref q1, .ref q2, .ref q3, .ref q4, .null, .null, .int 0, .int 0, .int 0, .int 0, .int 0, .int 0, .int 0, .int 0]), .inl (uC U 0, 6, .inl (xsV 0)), .inl (uC U 0, 4, .inl (fun _ => 0)), .inl (uC U 0, 4, .inl (fun _ => 0)), .inl (uC U 0, 4, .inl (fun _ => 0)), .inl (uC U 3, 4, .inr (.inr (.inr (.inr (fun _ => none)))))] := hG
  refine aw_gputF X hnm hG 0 (.array (.object RX0)) rfl rfl rfl f_X1_34 rfl (by decide +kernel) ⟨rfl, rfl⟩ (by exact Nat.le_of_ble_eq_true rfl) dX1_init_43 (fun μ hG => ?_)
  have hG : GH μ0 μ [a, q1, q2, q3, q4, q5] [.inr (1, [.ref q1, .ref q2, .ref q3, .ref q4, .ref q5, .null, .int 0, .int 0, .int 0, .int 0, .int 0, .int 0, .int 0, .int 0]), .inl (uC U 0, 6, .inl (xsV 0)), .inl (uC U 0, 4, .inl (fun _ => 0)), .inl (uC U 0, 4, .inl (fun _ => 0)), .inl (uC U 0, 4, .inl (fun _ => 0)), .inl (uC U 3, 4, .inr (.inr (.inr (.inr (fun _ => none)))))] := hG
  refine aw_aload_n X dX1_init_46 rfl ?_
  refine aw_bipush X (6) dX1_init_47 rfl ?_
  refine aw_gnewq X hG (t0 := 4) e_X1_38 (X.2.2.2.2.2.2.2.2.1.2.2.2.1.2.1) rfl 6 (by decide) rfl (by exact Nat.le_of_ble_eq_true rfl) (by exact ⟨Nat.le_of_ble_eq_true rfl, Nat.le_of_ble_eq_true rfl⟩) dX1_init_49 (fun q6 μ hG => ?_)
  have hG : GH μ0 μ [a, q1, q2, q3, q4, q5, q6] [.inr (1, [.ref q1, .ref q2, .ref q3, .ref q4, .ref q5, .null, .int 0, .int 0, .int 0, .int 0, .int 0, .int 0, .int 0, .int 0]), .inl (uC U 0, 6, .inl (xsV 0)), .inl (uC U 0, 4, .inl (fun _ => 0)), .inl (uC U 0, 4, .inl (fun _ => 0)), .inl (uC U 0, 4, .inl (fun _ => 0)), .inl (uC U 3, 4, .inr (.inr (.inr (.inr (fun _ => none))))), .inl (uC U 4, 6, .inr (.inr (.inr (.inr (fun _ => none)))))] := hG
  refine aw_gputF X hnm hG 0 (.array (.object RX3)) rfl rfl rfl f_X1_40 rfl (by decide +kernel) ⟨rfl, rfl⟩ (by exact Nat.le_of_ble_eq_true rfl) dX1_init_52 (fun μ hG => ?_)
  have hG : GH μ0 μ [a, q1, q2, q3, q4, q5, q6] [.inr (1, [.ref q1, .ref q2, .ref q3, .ref q4, .ref q5, .ref q6, .int 0, .int 0, .int 0, .int 0, .int 0, .int 0, .int 0, .int 0]), .inl (uC U 0, 6, .inl (xsV 0)), .inl (uC U 0, 4, .inl (fun _ => 0)), .inl (uC U 0, 4, .inl (fun _ => 0)), .inl (uC U 0, 4, .inl (fun _ => 0)), .inl (uC U 3, 4, .inr (.inr (.inr (.inr (fun _ => none))))), .inl (uC U 4, 6, .inr (.inr (.inr (.inr (fun _ => none)))))] := hG
  refine aw_aload_n X dX1_init_55 rfl ?_
  refine aw_iconst X (0) dX1_init_56 rfl ?_
  refine aw_gput X hG 0 .boolean rfl rfl f_X1_44 rfl (by decide +kernel) (xfit_z (by decide)) (by exact Nat.le_of_ble_eq_true rfl) dX1_init_57 (fun μ hG => ?_)
  have hG : GH μ0 μ [a, q1, q2, q3, q4, q5, q6] [.inr (1, [.ref q1, .ref q2, .ref q3, .ref q4, .ref q5, .ref q6, .int 0, .int 0, .int 0, .int 0, .int 0, .int 0, .int 0, .int 0]), .inl (uC U 0, 6, .inl (xsV 0)), .inl (uC U 0, 4, .inl (fun _ => 0)), .inl (uC U 0, 4, .inl (fun _ => 0)), .inl (uC U 0, 4, .inl (fun _ => 0)), .inl (uC U 3, 4, .inr (.inr (.inr (.inr (fun _ => none))))), .inl (uC U 4, 6, .inr (.inr (.inr (.inr (fun _ => none)))))] := hG
  refine aw_aload_n X dX1_init_60 rfl ?_
  refine aw_iconst X (0) dX1_init_61 rfl ?_
  refine aw_gput X hG 0 .int rfl rfl f_X1_48 rfl (by decide +kernel) xfit_i (by exact Nat.le_of_ble_eq_true rfl) dX1_init_62 (fun μ hG => ?_)
  have hG : GH μ0 μ [a, q1, q2, q3, q4, q5, q6] [.inr (1, [.ref q1, .ref q2, .ref q3, .ref q4, .ref q5, .ref q6, .int 0, .int 0, .int 0, .int 0, .int 0, .int 0, .int 0, .int 0]), .inl (uC U 0, 6, .inl (xsV 0)), .inl (uC U 0, 4, .inl (fun _ => 0)), .inl (uC U 0, 4, .inl (fun _ => 0)), .inl (uC U 0, 4, .inl (fun _ => 0)), .inl (uC U 3, 4, .inr (.inr (.inr (.inr (fun _ => none))))), .inl (uC U 4, 6, .inr (.inr (.inr (.inr (fun _ => none)))))] := hG
  refine aw_aload_n X dX1_init_65 rfl ?_
  refine aw_iconst X (0) dX1_init_66 rfl ?_
  refine aw_gput X hG 0 .int rfl rfl f_X1_52 rfl (by decide +kernel) xfit_i (by exact Nat.le_of_ble_eq_true rfl) dX1_init_67 (fun μ hG => ?_)
  have hG : GH μ0 μ [a, q1, q2, q3, q4, q5, q6] [.inr (1, [.ref q1, .ref q2, .ref q3, .ref q4, .ref q5, .ref q6, .int 0, .int 0, .int 0, .int 0, .int 0, .int 0, .int 0, .int 0]), .inl (uC U 0, 6, .inl (xsV 0)), .inl (uC U 0, 4, .inl (fun _ => 0)), .inl (uC U 0, 4, .inl (fun _ => 0)), .inl (uC U 0, 4, .inl (fun _ => 0)), .inl (uC U 3, 4, .inr (.inr (.inr (.inr (fun _ => none))))), .inl (uC U 4, 6, .inr (.inr (.inr (.inr (fun _ => none)))))] := hG
  refine aw_aload_n X dX1_init_70 rfl ?_
  refine aw_iconst X (0) dX1_init_71 rfl ?_
  refine aw_gput X hG 0 .boolean rfl rfl f_X1_55 rfl (by decide +kernel) (xfit_z (by decide)) (by exact Nat.le_of_ble_eq_true rfl) dX1_init_72 (fun μ hG => ?_)
  have hG : GH μ0 μ [a, q1, q2, q3, q4, q5, q6] [.inr (1, [.ref q1, .ref q2, .ref q3, .ref q4, .ref q5, .ref q6, .int 0, .int 0, .int 0, .int 0, .int 0, .int 0, .int 0, .int 0]), .inl (uC U 0, 6, .inl (xsV 0)), .inl (uC U 0, 4, .inl (fun _ => 0)), .inl (uC U 0, 4, .inl (fun _ => 0)), .inl (uC U 0, 4, .inl (fun _ => 0)), .inl (uC U 3, 4, .inr (.inr (.inr (.inr (fun _ => none))))), .inl (uC U 4, 6, .inr (.inr (.inr (.inr (fun _ => none)))))] := hG
  refine aw_aload_n X dX1_init_75 rfl ?_
  refine aw_iconst X (0) dX1_init_76 rfl ?_
  refine aw_gput X hG 0 .int rfl rfl f_X1_58 rfl (by decide +kernel) xfit_i (by exact Nat.le_of_ble_eq_true rfl) dX1_init_77 (fun μ hG => ?_)
  have hG : GH μ0 μ [a, q1, q2, q3, q4, q5, q6] [.inr (1, [.ref q1, .ref q2, .ref q3, .ref q4, .ref q5, .ref q6, .int 0, .int 0, .int 0, .int 0, .int 0, .int 0, .int 0, .int 0]), .inl (uC U 0, 6, .inl (xsV 0)), .inl (uC U 0, 4, .inl (fun _ => 0)), .inl (uC U 0, 4, .inl (fun _ => 0)), .inl (uC U 0, 4, .inl (fun _ => 0)), .inl (uC U 3, 4, .inr (.inr (.inr (.inr (fun _ => none))))), .inl (uC U 4, 6, .inr (.inr (.inr (.inr (fun _ => none)))))] := hG
  refine aw_aload_n X dX1_init_80 rfl ?_
  refine aw_iconst X (0) dX1_init_81 rfl ?_
  refine aw_gput X hG 0 .int rfl rfl f_X1_61 rfl (by decide +kernel) xfit_i (by exact Nat.le_of_ble_eq_true rfl) dX1_init_82 (fun μ hG => ?_)
  have hG : GH μ0 μ [a, q1, q2, q3, q4, q5, q6] [.inr (1, [.ref q1, .ref q2, .ref q3, .ref q4, .ref q5, .ref q6, .int 0, .int 0, .int 0, .int 0, .int 0, .int 0, .int 0, .int 0]), .inl (uC U 0, 6, .inl (xsV 0)), .inl (uC U 0, 4, .inl (fun _ => 0)), .inl (uC U 0, 4, .inl (fun _ => 0)), .inl (uC U 0, 4, .inl (fun _ => 0)), .inl (uC U 3, 4, .inr (.inr (.inr (.inr (fun _ => none))))), .inl (uC U 4, 6, .inr (.inr (.inr (.inr (fun _ => none)))))] := hG
  refine aw_aload_n X dX1_init_85 rfl ?_
  refine aw_iconst X (0) dX1_init_86 rfl ?_
  refine aw_gput X hG 0 .int rfl rfl f_X1_64 rfl (by decide +kernel) xfit_i (by exact Nat.le_of_ble_eq_true rfl) dX1_init_87 (fun μ hG => ?_)
  have hG : GH μ0 μ [a, q1, q2, q3, q4, q5, q6] [.inr (1, [.ref q1, .ref q2, .ref q3, .ref q4, .ref q5, .ref q6, .int 0, .int 0, .int 0, .int 0, .int 0, .int 0, .int 0, .int 0]), .inl (uC U 0, 6, .inl (xsV 0)), .inl (uC U 0, 4, .inl (fun _ => 0)), .inl (uC U 0, 4, .inl (fun _ => 0)), .inl (uC U 0, 4, .inl (fun _ => 0)), .inl (uC U 3, 4, .inr (.inr (.inr (.inr (fun _ => none))))), .inl (uC U 4, 6, .inr (.inr (.inr (.inr (fun _ => none)))))] := hG
  refine aw_aload_n X dX1_init_90 rfl ?_
  refine aw_iconst X (0) dX1_init_91 rfl ?_
  refine aw_gput X hG 0 .int rfl rfl f_X1_67 rfl (by decide +kernel) xfit_i (by exact Nat.le_of_ble_eq_true rfl) dX1_init_92 (fun μ hG => ?_)
  have hG : GH μ0 μ [a, q1, q2, q3, q4, q5, q6] [.inr (1, [.ref q1, .ref q2, .ref q3, .ref q4, .ref q5, .ref q6, .int 0, .int 0, .int 0, .int 0, .int 0, .int 0, .int 0, .int 0]), .inl (uC U 0, 6, .inl (xsV 0)), .inl (uC U 0, 4, .inl (fun _ => 0)), .inl (uC U 0, 4, .inl (fun _ => 0)), .inl (uC U 0, 4, .inl (fun _ => 0)), .inl (uC U 3, 4, .inr (.inr (.inr (.inr (fun _ => none))))), .inl (uC U 4, 6, .inr (.inr (.inr (.inr (fun _ => none)))))] := hG
  refine aw_iconst X (0) dX1_init_95 rfl ?_
  refine aw_istore_n X dX1_init_96 rfl (by decide) ?_
  refine aw_iload_n X dX1_init_97 rfl ?_
  refine aw_iconst X (4) dX1_init_98 rfl ?_
  refine aw_icmp_ge_f (tgt := 121) X dX1_init_99 (by decide) (by decide) ?_
  refine aw_aload_n X dX1_init_102 rfl ?_
  refine aw_gget X hG 0 rfl rfl f_X1_34 rfl dX1_init_103 ?_
  refine aw_iload_n X dX1_init_106 rfl ?_
  refine aw_gnew X hG (ci := 0) (N := 7) (fs := [.int 0, .int 0, .int 0, .int 0, .int 0, .int 0, .int 0]) rfl e_X1_32 i_X0 k_X0_init.2.1 tyX0 tyX0_ok df_X0 (by exact ⟨Nat.le_of_ble_eq_true rfl, Nat.le_of_ble_eq_true rfl⟩) dX1_init_107 (fun q7 μ hG => ?_)
  have hG : GH μ0 μ [a, q1, q2, q3, q4, q5, q6, q7] [.inr (1, [.ref q1, .ref q2, .ref q3, .ref q4, .ref q5, .ref q6, .int 0, .int 0, .int 0, .int 0, .int 0, .int 0, .int 0, .int 0]), .inl (uC U 0, 6, .inl (xsV 0)), .inl (uC U 0, 4, .inl (fun _ => 0)), .inl (uC U 0, 4, .inl (fun _ => 0)), .inl (uC U 0, 4, .inl (fun _ => 0)), .inl (uC U 3, 4, .inr (.inr (.inr (.inr (fun _ => none))))), .inl (uC U 4, 6, .inr (.inr (.inr (.inr (fun _ => none))))), .inr (0, [.int 0, .int 0, .int 0, .int 0, .int 0, .int 0, .int 0])] := hG
  refine aw_dup X dX1_init_110 rfl ?_
  refine aw_cIN (As := []) X (c_X0_init (kl K) U _ q7 (hG.2.1 7 _ _ rfl rfl)) s_X1_70 k_X0_init (by decide) (by rw [X.2.2.2.2.2.2.2.1]; exact ⟨Nat.le_of_ble_eq_true rfl, Nat.le_of_ble_eq_true rfl⟩) rfl (by exact Nat.le_of_ble_eq_true rfl) dX1_init_111 (fun v μ hp => ?_)
  obtain ⟨rfl, hp⟩ := hp
  have hG := hG.app (i := 7) rfl hp
  have hG : GH μ0 μ [a, q1, q2, q3, q4, q5, q6, q7] [.inr (1, [.ref q1, .ref q2, .ref q3, .ref q4, .ref q5, .ref q6, .int 0, .int 0, .int 0, .int 0, .int 0, .int 0, .int 0, .int 0]), .inl (uC U 0, 6, .inl (xsV 0)), .inl (uC U 0, 4, .inl (fun _ => 0)), .inl (uC U 0, 4, .inl (fun _ => 0)), .inl (uC U 0, 4, .inl (fun _ => 0)), .inl (uC U 3, 4, .inr (.inr (.inr (.inr (fun _ => none))))), .inl (uC U 4, 6, .inr (.inr (.inr (.inr (fun _ => none))))), .inr (0, [.int 90, .int (-100006), .int (-100006), .int 0, .int 0, .int 0, .int 0])] := hG
  refine aw_gaast X hG 5 7 (t0 := 3) (r := (RX0, TX0, 7)) rfl 0 rfl rfl rfl rfl rfl (xin_d rfl) rfl dX1_init_114 (fun μ hG => ?_)
  have hG : GH μ0 μ [a, q1, q2, q3, q4, q5, q6, q7] [.inr (1, [.ref q1, .ref q2, .ref q3, .ref q4, .ref q5, .ref q6, .int 0, .int 0, .int 0, .int 0, .int 0, .int 0, .int 0, .int 0]), .inl (uC U 0, 6, .inl (xsV 0)), .inl (uC U 0, 4, .inl (fun _ => 0)), .inl (uC U 0, 4, .inl (fun _ => 0)), .inl (uC U 0, 4, .inl (fun _ => 0)), .inl (uC U 3, 4, .inr (.inr (.inr (.inr (va_up (fun _ => none) 0 (some q7)))))), .inl (uC U 4, 6, .inr (.inr (.inr (.inr (fun _ => none))))), .inr (0, [.int 90, .int (-100006), .int (-100006), .int 0, .int 0, .int 0, .int 0])] := hG
  refine aw_iinc X (1) dX1_init_115 rfl rfl rfl (by decide) ?_
  refine aw_goto (tgt := 97) X dX1_init_118 (by decide) ?_
  refine aw_iload_n X dX1_init_97 rfl ?_
  refine aw_iconst X (4) dX1_init_98 rfl ?_
  refine aw_icmp_ge_f (tgt := 121) X dX1_init_99 (by decide) (by decide) ?_
  refine aw_aload_n X dX1_init_102 rfl ?_
  refine aw_gget X hG 0 rfl rfl f_X1_34 rfl dX1_init_103 ?_
  refine aw_iload_n X dX1_init_106 rfl ?_
  refine aw_gnew X hG (ci := 0) (N := 7) (fs := [.int 0, .int 0, .int 0, .int 0, .int 0, .int 0, .int 0]) rfl e_X1_32 i_X0 k_X0_init.2.1 tyX0 tyX0_ok df_X0 (by exact ⟨Nat.le_of_ble_eq_true rfl, Nat.le_of_ble_eq_true rfl⟩) dX1_init_107 (fun q8 μ hG => ?_)
  have hG : GH μ0 μ [a, q1, q2, q3, q4, q5, q6, q7, q8] [.inr (1, [.ref q1, .ref q2, .ref q3, .ref q4, .ref q5, .ref q6, .int 0, .int 0, .int 0, .int 0, .int 0, .int 0, .int 0, .int 0]), .inl (uC U 0, 6, .inl (xsV 0)), .inl (uC U 0, 4, .inl (fun _ => 0)), .inl (uC U 0, 4, .inl (fun _ => 0)), .inl (uC U 0, 4, .inl (fun _ => 0)), .inl (uC U 3, 4, .inr (.inr (.inr (.inr (va_up (fun _ => none) 0 (some q7)))))), .inl (uC U 4, 6, .inr (.inr (.inr (.inr (fun _ => none))))), .inr (0, [.int 90, .int (-100006), .int (-100006), .int 0, .int 0, .int 0, .int 0]), .inr (0, [.int 0, .int 0, .int 0, .int 0, .int 0, .int 0, .int 0])] := hG
  refine aw_dup X dX1_init_110 rfl ?_
  refine aw_cIN (As := []) X (c_X0_init (kl K) U _ q8 (hG.2.1 8 _ _ rfl rfl)) s_X1_70 k_X0_init (by decide) (by rw [X.2.2.2.2.2.2.2.1]; exact ⟨Nat.le_of_ble_eq_true rfl, Nat.le_of_ble_eq_true rfl⟩) rfl (by exact Nat.le_of_ble_eq_true rfl) dX1_init_111 (fun v μ hp => ?_)
  obtain ⟨rfl, hp⟩ := hp
  have hG := hG.app (i := 8) rfl hp
  have hG : GH μ0 μ [a, q1, q2, q3, q4, q5, q6, q7, q8] [.inr (1, [.ref q1, .ref q2, .ref q3, .ref q4, .ref q5, .ref q6, .int 0, .int 0, .int 0, .int 0, .int 0, .int 0, .int 0, .int 0]), .inl (uC U 0, 6, .inl (xsV 0)), .inl (uC U 0, 4, .inl (fun _ => 0)), .inl (uC U 0, 4, .inl (fun _ => 0)), .inl (uC U 0, 4, .inl (fun _ => 0)), .inl (uC U 3, 4, .inr (.inr (.inr (.inr (va_up (fun _ => none) 0 (some q7)))))), .inl (uC U 4, 6, .inr (.inr (.inr (.inr (fun _ => none))))), .inr (0, [.int 90, .int (-100006), .int (-100006), .int 0, .int 0, .int 0, .int 0]), .inr (0, [.int 90, .int (-100006), .int (-100006), .int 0, .int 0, .int 0, .int 0])] := hG
  refine aw_gaast X hG 5 8 (t0 := 3) (r := (RX0, TX0, 7)) rfl 1 rfl rfl rfl rfl rfl (xin_d rfl) rfl dX1_init_114 (fun μ hG => ?_)
  have hG : GH μ0 μ [a, q1, q2, q3, q4, q5, q6, q7, q8] [.inr (1, [.ref q1, .ref q2, .ref q3, .ref q4, .ref q5, .ref q6, .int 0, .int 0, .int 0, .int 0, .int 0, .int 0, .int 0, .int 0]), .inl (uC U 0, 6, .inl (xsV 0)), .inl (uC U 0, 4, .inl (fun _ => 0)), .inl (uC U 0, 4, .inl (fun _ => 0)), .inl (uC U 0, 4, .inl (fun _ => 0)), .inl (uC U 3, 4, .inr (.inr (.inr (.inr (va_up (va_up (fun _ => none) 0 (some q7)) 1 (some q8)))))), .inl (uC U 4, 6, .inr (.inr (.inr (.inr (fun _ => none))))), .inr (0, [.int 90, .int (-100006), .int (-100006), .int 0, .int 0, .int 0, .int 0]), .inr (0, [.int 90, .int (-100006), .int (-100006), .int 0, .int 0, .int 0, .int 0])] := hG
  refine aw_iinc X (1) dX1_init_115 rfl rfl rfl (by decide) ?_
  refine aw_goto (tgt := 97) X dX1_init_118 (by decide) ?_
  refine aw_iload_n X dX1_init_97 rfl ?_
  refine aw_iconst X (4) dX1_init_98 rfl ?_
  refine aw_icmp_ge_f (tgt := 121) X dX1_init_99 (by decide) (by decide) ?_
  refine aw_aload_n X dX1_init_102 rfl ?_
  refine aw_gget X hG 0 rfl rfl f_X1_34 rfl dX1_init_103 ?_
  refine aw_iload_n X dX1_init_106 rfl ?_
  refine aw_gnew X hG (ci := 0) (N := 7) (fs := [.int 0, .int 0, .int 0, .int 0, .int 0, .int 0, .int 0]) rfl e_X1_32 i_X0 k_X0_init.2.1 tyX0 tyX0_ok df_X0 (by exact ⟨Nat.le_of_ble_eq_true rfl, Nat.le_of_ble_eq_true rfl⟩) dX1_init_107 (fun q9 μ hG => ?_)
  have hG : GH μ0 μ [a, q1, q2, q3, q4, q5, q6, q7, q8, q9] [.inr (1, [.ref q1, .ref q2, .ref q3, .ref q4, .ref q5, .ref q6, .int 0, .int 0, .int 0, .int 0, .int 0, .int 0, .int 0, .int 0]), .inl (uC U 0, 6, .inl (xsV 0)), .inl (uC U 0, 4, .inl (fun _ => 0)), .inl (uC U 0, 4, .inl (fun _ => 0)), .inl (uC U 0, 4, .inl (fun _ => 0)), .inl (uC U 3, 4, .inr (.inr (.inr (.inr (va_up (va_up (fun _ => none) 0 (some q7)) 1 (some q8)))))), .inl (uC U 4, 6, .inr (.inr (.inr (.inr (fun _ => none))))), .inr (0, [.int 90, .int (-100006), .int (-100006), .int 0, .int 0, .int 0, .int 0]), .inr (0, [.int 90, .int (-100006), .int (-100006), .int 0, .int 0, .int 0, .int 0]), .inr (0, [.int 0, .int 0, .int 0, .int 0, .int 0, .int 0, .int 0])] := hG
  refine aw_dup X dX1_init_110 rfl ?_
  refine aw_cIN (As := []) X (c_X0_init (kl K) U _ q9 (hG.2.1 9 _ _ rfl rfl)) s_X1_70 k_X0_init (by decide) (by rw [X.2.2.2.2.2.2.2.1]; exact ⟨Nat.le_of_ble_eq_true rfl, Nat.le_of_ble_eq_true rfl⟩) rfl (by exact Nat.le_of_ble_eq_true rfl) dX1_init_111 (fun v μ hp => ?_)
  obtain ⟨rfl, hp⟩ := hp
  have hG := hG.app (i := 9) rfl hp
  have hG : GH μ0 μ [a, q1, q2, q3, q4, q5, q6, q7, q8, q9] [.inr (1, [.ref q1, .ref q2, .ref q3, .ref q4, .ref q5, .ref q6, .int 0, .int 0, .int 0, .int 0, .int 0, .int 0, .int 0, .int 0]), .inl (uC U 0, 6, .inl (xsV 0)), .inl (uC U 0, 4, .inl (fun _ => 0)), .inl (uC U 0, 4, .inl (fun _ => 0)), .inl (uC U 0, 4, .inl (fun _ => 0)), .inl (uC U 3, 4, .inr (.inr (.inr (.inr (va_up (va_up (fun _ => none) 0 (some q7)) 1 (some q8)))))), .inl (uC U 4, 6, .inr (.inr (.inr (.inr (fun _ => none))))), .inr (0, [.int 90, .int (-100006), .int (-100006), .int 0, .int 0, .int 0, .int 0]), .inr (0, [.int 90, .int (-100006), .int (-100006), .int 0, .int 0, .int 0, .int 0]), .inr (0, [.int 90, .int (-100006), .int (-100006), .int 0, .int 0, .int 0, .int 0])] := hG
  refine aw_gaast X hG 5 9 (t0 := 3) (r := (RX0, TX0, 7)) rfl 2 rfl rfl rfl rfl rfl (xin_d rfl) rfl dX1_init_114 (fun μ hG => ?_)
  have hG : GH μ0 μ [a, q1, q2, q3, q4, q5, q6, q7, q8, q9] [.inr (1, [.ref q1, .ref q2, .ref q3, .ref q4, .ref q5, .ref q6, .int 0, .int 0, .int 0, .int 0, .int 0, .int 0, .int 0, .int 0]), .inl (uC U 0, 6, .inl (xsV 0)), .inl (uC U 0, 4, .inl (fun _ => 0)), .inl (uC U 0, 4, .inl (fun _ => 0)), .inl (uC U 0, 4, .inl (fun _ => 0)), .inl (uC U 3, 4, .inr (.inr (.inr (.inr (va_up (va_up (va_up (fun _ => none) 0 (some q7)) 1 (some q8)) 2 (some q9)))))), .inl (uC U 4, 6, .inr (.inr (.inr (.inr (fun _ => none))))), .inr (0, [.int 90, .int (-100006), .int (-100006), .int 0, .int 0, .int 0, .int 0]), .inr (0, [.int 90, .int (-100006), .int (-100006), .int 0, .int 0, .int 0, .int 0]), .inr (0, [.int 90, .int (-100006), .int (-100006), .int 0, .int 0, .int 0, .int 0])] := hG
  refine aw_iinc X (1) dX1_init_115 rfl rfl rfl (by decide) ?_
  refine aw_goto (tgt := 97) X dX1_init_118 (by decide) ?_
  refine aw_iload_n X dX1_init_97 rfl ?_
  refine aw_iconst X (4) dX1_init_98 rfl ?_
  refine aw_icmp_ge_f (tgt := 121) X dX1_init_99 (by decide) (by decide) ?_
  refine aw_aload_n X dX1_init_102 rfl ?_
  refine aw_gget X hG 0 rfl rfl f_X1_34 rfl dX1_init_103 ?_
  refine aw_iload_n X dX1_init_106 rfl ?_
  refine aw_gnew X hG (ci := 0) (N := 7) (fs := [.int 0, .int 0, .int 0, .int 0, .int 0, .int 0, .int 0]) rfl e_X1_32 i_X0 k_X0_init.2.1 tyX0 tyX0_ok df_X0 (by exact ⟨Nat.le_of_ble_eq_true rfl, Nat.le_of_ble_eq_true rfl⟩) dX1_init_107 (fun q10 μ hG => ?_)
  have hG : GH μ0 μ [a, q1, q2, q3, q4, q5, q6, q7, q8, q9, q10] [.inr (1, [.ref q1, .ref q2, .ref q3, .ref q4, .ref q5, .ref q6, .int 0, .int 0, .int 0, .int 0, .int 0, .int 0, .int 0, .int 0]), .inl (uC U 0, 6, .inl (xsV 0)), .inl (uC U 0, 4, .inl (fun _ => 0)), .inl (uC U 0, 4, .inl (fun _ => 0)), .inl (uC U 0, 4, .inl (fun _ => 0)), .inl (uC U 3, 4, .inr (.inr (.inr (.inr (va_up (va_up (va_up (fun _ => none) 0 (some q7)) 1 (some q8)) 2 (some q9)))))), .inl (uC U 4, 6, .inr (.inr (.inr (.inr (fun _ => none))))), .inr (0, [.int 90, .int (-100006), .int (-100006), .int 0, .int 0, .int 0, .int 0]), .inr (0, [.int 90, .int (-100006), .int (-100006), .int 0, .int 0, .int 0, .int 0]), .inr (0, [.int 90, .int (-100006), .int (-100006), .int 0, .int 0, .int 0, .int 0]), .inr (0, [.int 0, .int 0, .int 0, .int 0, .int 0, .int 0, .int 0])] := hG
  refine aw_dup X dX1_init_110 rfl ?_
  refine aw_cIN (As := []) X (c_X0_init (kl K) U _ q10 (hG.2.1 10 _ _ rfl rfl)) s_X1_70 k_X0_init (by decide) (by rw [X.2.2.2.2.2.2.2.1]; exact ⟨Nat.le_of_ble_eq_true rfl, Nat.le_of_ble_eq_true rfl⟩) rfl (by exact Nat.le_of_ble_eq_true rfl) dX1_init_111 (fun v μ hp => ?_)
  obtain ⟨rfl, hp⟩ := hp
  have hG := hG.app (i := 10) rfl hp
  have hG : GH μ0 μ [a, q1, q2, q3, q4, q5, q6, q7, q8, q9, q10] [.inr (1, [.ref q1, .ref q2, .ref q3, .ref q4, .ref q5, .ref q6, .int 0, .int 0, .int 0, .int 0, .int 0, .int 0, .int 0, .int 0]), .inl (uC U 0, 6, .inl (xsV 0)), .inl (uC U 0, 4, .inl (fun _ => 0)), .inl (uC U 0, 4, .inl (fun _ => 0)), .inl (uC U 0, 4, .inl (fun _ => 0)), .inl (uC U 3, 4, .inr (.inr (.inr (.inr (va_up (va_up (va_up (fun _ => none) 0 (some q7)) 1 (some q8)) 2 (some q9)))))), .inl (uC U 4, 6, .inr (.inr (.inr (.inr (fun _ => none))))), .inr (0, [.int 90, .int (-100006), .int (-100006), .int 0, .int 0, .int 0, .int 0]), .inr (0, [.int 90, .int (-100006), .int (-100006), .int 0, .int 0, .int 0, .int 0]), .inr (0, [.int 90, .int (-100006), .int (-100006), .int 0, .int 0, .int 0, .int 0]), .inr (0, [.int 90, .int (-100006), .int (-100006), .int 0, .int 0, .int 0, .int 0])] := hG
  refine aw_gaast X hG 5 10 (t0 := 3) (r := (RX0, TX0, 7)) rfl 3 rfl rfl rfl rfl rfl (xin_d rfl) rfl dX1_init_114 (fun μ hG => ?_)
  have hG : GH μ0 μ [a, q1, q2, q3, q4, q5, q6, q7, q8, q9, q10] [.inr (1, [.ref q1, .ref q2, .ref q3, .ref q4, .ref q5, .ref q6, .int 0, .int 0, .int 0, .int 0, .int 0, .int 0, .int 0, .int 0]), .inl (uC U 0, 6, .inl (xsV 0)), .inl (uC U 0, 4, .inl (fun _ => 0)), .inl (uC U 0, 4, .inl (fun _ => 0)), .inl (uC U 0, 4, .inl (fun _ => 0)), .inl (uC U 3, 4, .inr (.inr (.inr (.inr (va_up (va_up (va_up (va_up (fun _ => none) 0 (some q7)) 1 (some q8)) 2 (some q9)) 3 (some q10)))))), .inl (uC U 4, 6, .inr (.inr (.inr (.inr (fun _ => none))))), .inr (0, [.int 90, .int (-100006), .int (-100006), .int 0, .int 0, .int 0, .int 0]), .inr (0, [.int 90, .int (-100006), .int (-100006), .int 0, .int 0, .int 0, .int 0]), .inr (0, [.int 90, .int (-100006), .int (-100006), .int 0, .int 0, .int 0, .int 0]), .inr (0, [.int 90, .int (-100006), .int (-100006), .int 0, .int 0, .int 0, .int 0])] := hG
  refine aw_iinc X (1) dX1_init_115 rfl rfl rfl (by decide) ?_
  refine aw_goto (tgt := 97) X dX1_init_118 (by decide) ?_
  refine aw_iload_n X dX1_init_97 rfl ?_
  refine aw_iconst X (4) dX1_init_98 rfl ?_
  refine aw_icmp_ge_t (tgt := 121) X dX1_init_99 (by decide) (by decide) ?_
  refine aw_iconst X (0) dX1_init_121 rfl ?_
  refine aw_istore_n X dX1_init_122 rfl (by decide) ?_
  refine aw_iload_n X dX1_init_123 rfl ?_
  refine aw_aload_n X dX1_init_124 rfl ?_
  refine aw_gget X hG 0 rfl rfl f_X1_40 rfl dX1_init_125 ?_
  refine aw_galen X hG 6 (t0 := 4) (ty := (.object RX3)) (v := 6) rfl rfl rfl rfl dX1_init_128 ?_
  refine aw_icmp_ge_f (tgt := 151) X dX1_init_129 (by decide) (by decide) ?_
  refine aw_aload_n X dX1_init_132 rfl ?_
  refine aw_gget X hG 0 rfl rfl f_X1_40 rfl dX1_init_133 ?_
  refine aw_iload_n X dX1_init_136 rfl ?_
  refine aw_gnew X hG (ci := 3) (N := 2) (fs := [.null, .int 0]) rfl e_X1_38 i_X3 k_X3_init.2.1 tyX3 tyX3_ok df_X3 (by exact ⟨Nat.le_of_ble_eq_true rfl, Nat.le_of_ble_eq_true rfl⟩) dX1_init_137 (fun q11 μ hG => ?_)
  have hG : GH μ0 μ [a, q1, q2, q3, q4, q5, q6, q7, q8, q9, q10, q11] [.inr (1, [.ref q1, .ref q2, .ref q3, .ref q4, .ref q5, .ref q6, .int 0, .int 0, .int 0, .int 0, .int 0, .int 0, .int 0, .int 0]), .inl (uC U 0, 6, .inl (xsV 0)), .inl (uC U 0, 4, .inl (fun _ => 0)), .inl (uC U 0, 4, .inl (fun _ => 0)), .inl (uC U 0, 4, .inl (fun _ => 0)), .inl (uC U 3, 4, .inr (.inr (.inr (.inr (va_up (va_up (va_up (va_up (fun _ => none) 0 (some q7)) 1 (some q8)) 2 (some q9)) 3 (some q10)))))), .inl (uC U 4, 6, .inr (.inr (.inr (.inr (fun _ => none))))), .inr (0, [.int 90, .int (-100006), .int (-100006), .int 0, .int 0, .int 0, .int 0]), .inr (0, [.int 90, .int (-100006), .int (-100006), .int 0, .int 0, .int 0, .int 0]), .inr (0, [.int 90, .int (-100006), .int (-100006), .int 0, .int 0, .int 0, .int 0]), .inr (0, [.int 90, .int (-100006), .int (-100006), .int 0, .int 0, .int 0, .int 0]), .inr (3, [.null, .int 0])] := hG
  refine aw_dup X dX1_init_140 rfl ?_
  refine aw_cIN (As := []) X (c_X3_init (kl K) U _ q11 (hG.2.1 11 _ _ rfl rfl)) s_X1_71 k_X3_init (by decide) (by rw [X.2.2.2.2.2.2.2.1]; exact ⟨Nat.le_of_ble_eq_true rfl, Nat.le_of_ble_eq_true rfl⟩) rfl (by exact Nat.le_of_ble_eq_true rfl) dX1_init_141 (fun v μ hp => ?_)
  obtain ⟨rfl, q12, hp⟩ := hp
  have hG := hG.app (i := 11) rfl hp
  have hG : GH μ0 μ [a, q1, q2, q3, q4, q5, q6, q7, q8, q9, q10, q11, q12] [.inr (1, [.ref q1, .ref q2, .ref q3, .ref q4, .ref q5, .ref q6, .int 0, .int 0, .int 0, .int 0, .int 0, .int 0, .int 0, .int 0]), .inl (uC U 0, 6, .inl (xsV 0)), .inl (uC U 0, 4, .inl (fun _ => 0)), .inl (uC U 0, 4, .inl (fun _ => 0)), .inl (uC U 0, 4, .inl (fun _ => 0)), .inl (uC U 3, 4, .inr (.inr (.inr (.inr (va_up (va_up (va_up (va_up (fun _ => none) 0 (some q7)) 1 (some q8)) 2 (some q9)) 3 (some q10)))))), .inl (uC U 4, 6, .inr (.inr (.inr (.inr (fun _ => none))))), .inr (0, [.int 90, .int (-100006), .int (-100006), .int 0, .int 0, .int 0, .int 0]), .inr (0, [.int 90, .int (-100006), .int (-100006), .int 0, .int 0, .int 0, .int 0]), .inr (0, [.int 90, .int (-100006), .int (-100006), .int 0, .int 0, .int 0, .int 0]), .inr (0, [.int 90, .int (-100006), .int (-100006), .int 0, .int 0, .int 0, .int 0]), .inr (3, [.ref q12, .int 0]), .inl (uC U 0, 4, .inl (fun _ => 0))] := hG
  refine aw_gaast X hG 6 11 (t0 := 4) (r := (RX3, TX3, 2)) rfl 0 rfl rfl rfl rfl rfl (xin_d rfl) rfl dX1_init_144 (fun μ hG => ?_)
  have hG : GH μ0 μ [a, q1, q2, q3, q4, q5, q6, q7, q8, q9, q10, q11, q12] [.inr (1, [.ref q1, .ref q2, .ref q3, .ref q4, .ref q5, .ref q6, .int 0, .int 0, .int 0, .int 0, .int 0, .int 0, .int 0, .int 0]), .inl (uC U 0, 6, .inl (xsV 0)), .inl (uC U 0, 4, .inl (fun _ => 0)), .inl (uC U 0, 4, .inl (fun _ => 0)), .inl (uC U 0, 4, .inl (fun _ => 0)), .inl (uC U 3, 4, .inr (.inr (.inr (.inr (va_up (va_up (va_up (va_up (fun _ => none) 0 (some q7)) 1 (some q8)) 2 (some q9)) 3 (some q10)))))), .inl (uC U 4, 6, .inr (.inr (.inr (.inr (va_up (fun _ => none) 0 (some q11)))))), .inr (0, [.int 90, .int (-100006), .int (-100006), .int 0, .int 0, .int 0, .int 0]), .inr (0, [.int 90, .int (-100006), .int (-100006), .int 0, .int 0, .int 0, .int 0]), .inr (0, [.int 90, .int (-100006), .int (-100006), .int 0, .int 0, .int 0, .int 0]), .inr (0, [.int 90, .int (-100006), .int (-100006), .int 0, .int 0, .int 0, .int 0]), .inr (3, [.ref q12, .int 0]), .inl (uC U 0, 4, .inl (fun _ => 0))] := hG
  refine aw_iinc X (1) dX1_init_145 rfl rfl rfl (by decide) ?_
  refine aw_goto (tgt := 123) X dX1_init_148 (by decide) ?_
  refine aw_iload_n X dX1_init_123 rfl ?_
  refine aw_aload_n X dX1_init_124 rfl ?_
  refine aw_gget X hG 0 rfl rfl f_X1_40 rfl dX1_init_125 ?_
  refine aw_galen X hG 6 (t0 := 4) (ty := (.object RX3)) (v := 6) rfl rfl rfl rfl dX1_init_128 ?_
  refine aw_icmp_ge_f (tgt := 151) X dX1_init_129 (by decide) (by decide) ?_
  refine aw_aload_n X dX1_init_132 rfl ?_
  refine aw_gget X hG 0 rfl rfl f_X1_40 rfl dX1_init_133 ?_
  refine aw_iload_n X dX1_init_136 rfl ?_
  refine aw_gnew X hG (ci := 3) (N := 2) (fs := [.null, .int 0]) rfl e_X1_38 i_X3 k_X3_init.2.1 tyX3 tyX3_ok df_X3 (by exact ⟨Nat.le_of_ble_eq_true rfl, Nat.le_of_ble_eq_true rfl⟩) dX1_init_137 (fun q13 μ hG => ?_)
  have hG : GH μ0 μ [a, q1, q2, q3, q4, q5, q6, q7, q8, q9, q10, q11, q12, q13] [.inr (1, [.ref q1, .ref q2, .ref q3, .ref q4, .ref q5, .ref q6, .int 0, .int 0, .int 0, .int 0, .int 0, .int 0, .int 0, .int 0]), .inl (uC U 0, 6, .inl (xsV 0)), .inl (uC U 0, 4, .inl (fun _ => 0)), .inl (uC U 0, 4, .inl (fun _ => 0)), .inl (uC U 0, 4, .inl (fun _ => 0)), .inl (uC U 3, 4, .inr (.inr (.inr (.inr (va_up (va_up (va_up (va_up (fun _ => none) 0 (some q7)) 1 (some q8)) 2 (some q9)) 3 (some q10)))))), .inl (uC U 4, 6, .inr (.inr (.inr (.inr (va_up (fun _ => none) 0 (some q11)))))), .inr (0, [.int 90, .int (-100006), .int (-100006), .int 0, .int 0, .int 0, .int 0]), .inr (0, [.int 90, .int (-100006), .int (-100006), .int 0, .int 0, .int 0, .int 0]), .inr (0, [.int 90, .int (-100006), .int (-100006), .int 0, .int 0, .int 0, .int 0]), .inr (0, [.int 90, .int (-100006), .int (-100006), .int 0, .int 0, .int 0, .int 0]), .inr (3, [.ref q12, .int 0]), .inl (uC U 0, 4, .inl (fun _ => 0)), .inr (3, [.null, .int 0])] := hG
  refine aw_dup X dX1_init_140 rfl ?_
  refine aw_cIN (As := []) X (c_X3_init (kl K) U _ q13 (hG.2.1 13 _ _ rfl rfl)) s_X1_71 k_X3_init (by decide) (by rw [X.2.2.2.2.2.2.2.1]; exact ⟨Nat.le_of_ble_eq_true rfl, Nat.le_of_ble_eq_true rfl⟩) rfl (by exact Nat.le_of_ble_eq_true rfl) dX1_init_141 (fun v μ hp => ?_)
  obtain ⟨rfl, q14, hp⟩ := hp
  have hG := hG.app (i := 13) rfl hp
  have hG : GH μ0 μ [a, q1, q2, q3, q4, q5, q6, q7, q8, q9, q10, q11, q12, q13, q14] [.inr (1, [.ref q1, .ref q2, .ref q3, .ref q4, .ref q5, .ref q6, .int 0, .int 0, .int 0, .int 0, .int 0, .int 0, .int 0, .int 0]), .inl (uC U 0, 6, .inl (xsV 0)), .inl (uC U 0, 4, .inl (fun _ => 0)), .inl (uC U 0, 4, .inl (fun _ => 0)), .inl (uC U 0, 4, .inl (fun _ => 0)), .inl (uC U 3, 4, .inr (.inr (.inr (.inr (va_up (va_up (va_up (va_up (fun _ => none) 0 (some q7)) 1 (some q8)) 2 (some q9)) 3 (some q10)))))), .inl (uC U 4, 6, .inr (.inr (.inr (.inr (va_up (fun _ => none) 0 (some q11)))))), .inr (0, [.int 90, .int (-100006), .int (-100006), .int 0, .int 0, .int 0, .int 0]), .inr (0, [.int 90, .int (-100006), .int (-100006), .int 0, .int 0, .int 0, .int 0]), .inr (0, [.int 90, .int (-100006), .int (-100006), .int 0, .int 0, .int 0, .int 0]), .inr (0, [.int 90, .int (-100006), .int (-100006), .int 0, .int 0, .int 0, .int 0]), .inr (3, [.ref q12, .int 0]), .inl (uC U 0, 4, .inl (fun _ => 0)), .inr (3, [.ref q14, .int 0]), .inl (uC U 0, 4, .inl (fun _ => 0))] := hG
  refine aw_gaast X hG 6 13 (t0 := 4) (r := (RX3, TX3, 2)) rfl 1 rfl rfl rfl rfl rfl (xin_d rfl) rfl dX1_init_144 (fun μ hG => ?_)
  have hG : GH μ0 μ [a, q1, q2, q3, q4, q5, q6, q7, q8, q9, q10, q11, q12, q13, q14] [.inr (1, [.ref q1, .ref q2, .ref q3, .ref q4, .ref q5, .ref q6, .int 0, .int 0, .int 0, .int 0, .int 0, .int 0, .int 0, .int 0]), .inl (uC U 0, 6, .inl (xsV 0)), .inl (uC U 0, 4, .inl (fun _ => 0)), .inl (uC U 0, 4, .inl (fun _ => 0)), .inl (uC U 0, 4, .inl (fun _ => 0)), .inl (uC U 3, 4, .inr (.inr (.inr (.inr (va_up (va_up (va_up (va_up (fun _ => none) 0 (some q7)) 1 (some q8)) 2 (some q9)) 3 (some q10)))))), .inl (uC U 4, 6, .inr (.inr (.inr (.inr (va_up (va_up (fun _ => none) 0 (some q11)) 1 (some q13)))))), .inr (0, [.int 90, .int (-100006), .int (-100006), .int 0, .int 0, .int 0, .int 0]), .inr (0, [.int 90, .int (-100006), .int (-100006), .int 0, .int 0, .int 0, .int 0]), .inr (0, [.int 90, .int (-100006), .int (-100006), .int 0, .int 0, .int 0, .int 0]), .inr (0, [.int 90, .int (-100006), .int (-100006), .int 0, .int 0, .int 0, .int 0]), .inr (3, [.ref q12, .int 0]), .inl (uC U 0, 4, .inl (fun _ => 0)), .inr (3, [.ref q14, .int 0]), .inl (uC U 0, 4, .inl (fun _ => 0))] := hG
  refine aw_iinc X (1) dX1_init_145 rfl rfl rfl (by decide) ?_
  refine aw_goto (tgt := 123) X dX1_init_148 (by decide) ?_
  refine aw_iload_n X dX1_init_123 rfl ?_
  refine aw_aload_n X dX1_init_124 rfl ?_
  refine aw_gget X hG 0 rfl rfl f_X1_40 rfl dX1_init_125 ?_
  refine aw_galen X hG 6 (t0 := 4) (ty := (.object RX3)) (v := 6) rfl rfl rfl rfl dX1_init_128 ?_
  refine aw_icmp_ge_f (tgt := 151) X dX1_init_129 (by decide) (by decide) ?_
  refine aw_aload_n X dX1_init_132 rfl ?_
  refine aw_gget X hG 0 rfl rfl f_X1_40 rfl dX1_init_133 ?_
  refine aw_iload_n X dX1_init_136 rfl ?_
  refine aw_gnew X hG (ci := 3) (N := 2) (fs := [.null, .int 0]) rfl e_X1_38 i_X3 k_X3_init.2.1 tyX3 tyX3_ok df_X3 (by exact ⟨Nat.le_of_ble_eq_true rfl, Nat.le_of_ble_eq_true rfl⟩) dX1_init_137 (fun q15 μ hG => ?_)
  have hG : GH μ0 μ [a, q1, q2, q3, q4, q5, q6, q7, q8, q9, q10, q11, q12, q13, q14, q15] [.inr (1, [.ref q1, .ref q2, .ref q3, .ref q4, .ref q5, .ref q6, .int 0, .int 0, .int 0, .int 0, .int 0, .int 0, .int 0, .int 0]), .inl (uC U 0, 6, .inl (xsV 0)), .inl (uC U 0, 4, .inl (fun _ => 0)), .inl (uC U 0, 4, .inl (fun _ => 0)), .inl (uC U 0, 4, .inl (fun _ => 0)), .inl (uC U 3, 4, .inr (.inr (.inr (.inr (va_up (va_up (va_up (va_up (fun _ => none) 0 (some q7)) 1 (some q8)) 2 (some q9)) 3 (some q10)))))), .inl (uC U 4, 6, .inr (.inr (.inr (.inr (va_up (va_up (fun _ => none) 0 (some q11)) 1 (some q13)))))), .inr (0, [.int 90, .int (-100006), .int (-100006), .int 0, .int 0, .int 0, .int 0]), .inr (0, [.int 90, .int (-100006), .int (-100006), .int 0, .int 0, .int 0, .int 0]), .inr (0, [.int 90, .int (-100006), .int (-100006), .int 0, .int 0, .int 0, .int 0]), .inr (0, [.int 90, .int (-100006), .int (-100006), .int 0, .int 0, .int 0, .int 0]), .inr (3, [.ref q12, .int 0]), .inl (uC U 0, 4, .inl (fun _ => 0)), .inr (3, [.ref q14, .int 0]), .inl (uC U 0, 4, .inl (fun _ => 0)), .inr (3, [.null, .int 0])] := hG
  refine aw_dup X dX1_init_140 rfl ?_
  refine aw_cIN (As := []) X (c_X3_init (kl K) U _ q15 (hG.2.1 15 _ _ rfl rfl)) s_X1_71 k_X3_init (by decide) (by rw [X.2.2.2.2.2.2.2.1]; exact ⟨Nat.le_of_ble_eq_true rfl, Nat.le_of_ble_eq_true rfl⟩) rfl (by exact Nat.le_of_ble_eq_true rfl) dX1_init_141 (fun v μ hp => ?_)
  obtain ⟨rfl, q16, hp⟩ := hp
  have hG := hG.app (i := 15) rfl hp
  have hG : GH μ0 μ [a, q1, q2, q3, q4, q5, q6, q7, q8, q9, q10, q11, q12, q13, q14, q15, q16] [.inr (1, [.ref q1, .ref q2, .ref q3, .ref q4, .ref q5, .ref q6, .int 0, .int 0, .int 0, .int 0, .int 0, .int 0, .int 0, .int 0]), .inl (uC U 0, 6, .inl (xsV 0)), .inl (uC U 0, 4, .inl (fun _ => 0)), .inl (uC U 0, 4, .inl (fun _ => 0)), .inl (uC U 0, 4, .inl (fun _ => 0)), .inl (uC U 3, 4, .inr (.inr (.inr (.inr (va_up (va_up (va_up (va_up (fun _ => none) 0 (some q7)) 1 (some q8)) 2 (some q9)) 3 (some q10)))))), .inl (uC U 4, 6, .inr (.inr (.inr (.inr (va_up (va_up (fun _ => none) 0 (some q11)) 1 (some q13)))))), .inr (0, [.int 90, .int (-100006), .int (-100006), .int 0, .int 0, .int 0, .int 0]), .inr (0, [.int 90, .int (-100006), .int (-100006), .int 0, .int 0, .int 0, .int 0]), .inr (0, [.int 90, .int (-100006), .int (-100006), .int 0, .int 0, .int 0, .int 0]), .inr (0, [.int 90, .int (-100006), .int (-100006), .int 0, .int 0, .int 0, .int 0]), .inr (3, [.ref q12, .int 0]), .inl (uC U 0, 4, .inl (fun _ => 0)), .inr (3, [.ref q14, .int 0]), .inl (uC U 0, 4, .inl (fun _ => 0)), .inr (3, [.ref q16, .int 0]), .inl (uC U 0, 4, .inl (fun _ => 0))] := hG
  refine aw_gaast X hG 6 15 (t0 := 4) (r := (RX3, TX3, 2)) rfl 2 rfl rfl rfl rfl rfl (xin_d rfl) rfl dX1_init_144 (fun μ hG => ?_)
  have hG : GH μ0 μ [a, q1, q2, q3, q4, q5, q6, q7, q8, q9, q10, q11, q12, q13, q14, q15, q16] [.inr (1, [.ref q1, .ref q2, .ref q3, .ref q4, .ref q5, .ref q6, .int 0, .int 0, .int 0, .int 0, .int 0, .int 0, .int 0, .int 0]), .inl (uC U 0, 6, .inl (xsV 0)), .inl (uC U 0, 4, .inl (fun _ => 0)), .inl (uC U 0, 4, .inl (fun _ => 0)), .inl (uC U 0, 4, .inl (fun _ => 0)), .inl (uC U 3, 4, .inr (.inr (.inr (.inr (va_up (va_up (va_up (va_up (fun _ => none) 0 (some q7)) 1 (some q8)) 2 (some q9)) 3 (some q10)))))), .inl (uC U 4, 6, .inr (.inr (.inr (.inr (va_up (va_up (va_up (fun _ => none) 0 (some q11)) 1 (some q13)) 2 (some q15)))))), .inr (0, [.int 90, .int (-100006), .int (-100006), .int 0, .int 0, .int 0, .int 0]), .inr (0, [.int 90, .int (-100006), .int (-100006), .int 0, .int 0, .int 0, .int 0]), .inr (0, [.int 90, .int (-100006), .int (-100006), .int 0, .int 0, .int 0, .int 0]), .inr (0, [.int 90, .int (-100006), .int (-100006), .int 0, .int 0, .int 0, .int 0]), .inr (3, [.ref q12, .int 0]), .inl (uC U 0, 4, .inl (fun _ => 0)), .inr (3, [.ref q14, .int 0]), .inl (uC U 0, 4, .inl (fun _ => 0)), .inr (3, [.ref q16, .int 0]), .inl (uC U 0, 4, .inl (fun _ => 0))] := hG
  refine aw_iinc X (1) dX1_init_145 rfl rfl rfl (by decide) ?_
  refine aw_goto (tgt := 123) X dX1_init_148 (by decide) ?_
  refine aw_iload_n X dX1_init_123 rfl ?_
  refine aw_aload_n X dX1_init_124 rfl ?_
  refine aw_gget X hG 0 rfl rfl f_X1_40 rfl dX1_init_125 ?_
  refine aw_galen X hG 6 (t0 := 4) (ty := (.object RX3)) (v := 6) rfl rfl rfl rfl dX1_init_128 ?_
  refine aw_icmp_ge_f (tgt := 151) X dX1_init_129 (by decide) (by decide) ?_
  refine aw_aload_n X dX1_init_132 rfl ?_
  refine aw_gget X hG 0 rfl rfl f_X1_40 rfl dX1_init_133 ?_
  refine aw_iload_n X dX1_init_136 rfl ?_
  refine aw_gnew X hG (ci := 3) (N := 2) (fs := [.null, .int 0]) rfl e_X1_38 i_X3 k_X3_init.2.1 tyX3 tyX3_ok df_X3 (by exact ⟨Nat.le_of_ble_eq_true rfl, Nat.le_of_ble_eq_true rfl⟩) dX1_init_137 (fun q17 μ hG => ?_)
  have hG : GH μ0 μ [a, q1, q2, q3, q4, q5, q6, q7, q8, q9, q10, q11, q12, q13, q14, q15, q16, q17] [.inr (1, [.ref q1, .ref q2, .ref q3, .ref q4, .ref q5, .ref q6, .int 0, .int 0, .int 0, .int 0, .int 0, .int 0, .int 0, .int 0]), .inl (uC U 0, 6, .inl (xsV 0)), .inl (uC U 0, 4, .inl (fun _ => 0)), .inl (uC U 0, 4, .inl (fun _ => 0)), .inl (uC U 0, 4, .inl (fun _ => 0)), .inl (uC U 3, 4, .inr (.inr (.inr (.inr (va_up (va_up (va_up (va_up (fun _ => none) 0 (some q7)) 1 (some q8)) 2 (some q9)) 3 (some q10)))))), .inl (uC U 4, 6, .inr (.inr (.inr (.inr (va_up (va_up (va_up (fun _ => none) 0 (some q11)) 1 (some q13)) 2 (some q15)))))), .inr (0, [.int 90, .int (-100006), .int (-100006), .int 0, .int 0, .int 0, .int 0]), .inr (0, [.int 90, .int (-100006), .int (-100006), .int 0, .int 0, .int 0, .int 0]), .inr (0, [.int 90, .int (-100006), .int (-100006), .int 0, .int 0, .int 0, .int 0]), .inr (0, [.int 90, .int (-100006), .int (-100006), .int 0, .int 0, .int 0, .int 0]), .inr (3, [.ref q12, .int 0]), .inl (uC U 0, 4, .inl (fun _ => 0)), .inr (3, [.ref q14, .int 0]), .inl (uC U 0, 4, .inl (fun _ => 0)), .inr (3, [.ref q16, .int 0]), .inl (uC U 0, 4, .inl (fun _ => 0)), .inr (3, [.null, .int 0])] := hG
  refine aw_dup X dX1_init_140 rfl ?_
  refine aw_cIN (As := []) X (c_X3_init (kl K) U _ q17 (hG.2.1 17 _ _ rfl rfl)) s_X1_71 k_X3_init (by decide) (by rw [X.2.2.2.2.2.2.2.1]; exact ⟨Nat.le_of_ble_eq_true rfl, Nat.le_of_ble_eq_true rfl⟩) rfl (by exact Nat.le_of_ble_eq_true rfl) dX1_init_141 (fun v μ hp => ?_)
  obtain ⟨rfl, q18, hp⟩ := hp
  have hG := hG.app (i := 17) rfl hp
  have hG : GH μ0 μ [a, q1, q2, q3, q4, q5, q6, q7, q8, q9, q10, q11, q12, q13, q14, q15, q16, q17, q18] [.inr (1, [.ref q1, .ref q2, .ref q3, .ref q4, .ref q5, .ref q6, .int 0, .int 0, .int 0, .int 0, .int 0, .int 0, .int 0, .int 0]), .inl (uC U 0, 6, .inl (xsV 0)), .inl (uC U 0, 4, .inl (fun _ => 0)), .inl (uC U 0, 4, .inl (fun _ => 0)), .inl (uC U 0, 4, .inl (fun _ => 0)), .inl (uC U 3, 4, .inr (.inr (.inr (.inr (va_up (va_up (va_up (va_up (fun _ => none) 0 (some q7)) 1 (some q8)) 2 (some q9)) 3 (some q10)))))), .inl (uC U 4, 6, .inr (.inr (.inr (.inr (va_up (va_up (va_up (fun _ => none) 0 (some q11)) 1 (some q13)) 2 (some q15)))))), .inr (0, [.int 90, .int (-100006), .int (-100006), .int 0, .int 0, .int 0, .int 0]), .inr (0, [.int 90, .int (-100006), .int (-100006), .int 0, .int 0, .int 0, .int 0]), .inr (0, [.int 90, .int (-100006), .int (-100006), .int 0, .int 0, .int 0, .int 0]), .inr (0, [.int 90, .int (-100006), .int (-100006), .int 0, .int 0, .int 0, .int 0]), .inr (3, [.ref q12, .int 0]), .inl (uC U 0, 4, .inl (fun _ => 0)), .inr (3, [.ref q14, .int 0]), .inl (uC U 0, 4, .inl (fun _ => 0)), .inr (3, [.ref q16, .int 0]), .inl (uC U 0, 4, .inl (fun _ => 0)), .inr (3, [.ref q18, .int 0]), .inl (uC U 0, 4, .inl (fun _ => 0))] := hG
  refine aw_gaast X hG 6 17 (t0 := 4) (r := (RX3, TX3, 2)) rfl 3 rfl rfl rfl rfl rfl (xin_d rfl) rfl dX1_init_144 (fun μ hG => ?_)
  have hG : GH μ0 μ [a, q1, q2, q3, q4, q5, q6, q7, q8, q9, q10, q11, q12, q13, q14, q15, q16, q17, q18] [.inr (1, [.ref q1, .ref q2, .ref q3, .ref q4, .ref q5, .ref q6, .int 0, .int 0, .int 0, .int 0, .int 0, .int 0, .int 0, .int 0]), .inl (uC U 0, 6, .inl (xsV 0)), .inl (uC U 0, 4, .inl (fun _ => 0)), .inl (uC U 0, 4, .inl (fun _ => 0)), .inl (uC U 0, 4, .inl (fun _ => 0)), .inl (uC U 3, 4, .inr (.inr (.inr (.inr (va_up (va_up (va_up (va_up (fun _ => none) 0 (some q7)) 1 (some q8)) 2 (some q9)) 3 (some q10)))))), .inl (uC U 4, 6, .inr (.inr (.inr (.inr (va_up (va_up (va_up (va_up (fun _ => none) 0 (some q11)) 1 (some q13)) 2 (some q15)) 3 (some q17)))))), .inr (0, [.int 90, .int (-100006), .int (-100006), .int 0, .int 0, .int 0, .int 0]), .inr (0, [.int 90, .int (-100006), .int (-100006), .int 0, .int 0, .int 0, .int 0]), .inr (0, [.int 90, .int (-100006), .int (-100006), .int 0, .int 0, .int 0, .int 0]), .inr (0, [.int 90, .int (-100006), .int (-100006), .int 0, .int 0, .int 0, .int 0]), .inr (3, [.ref q12, .int 0]), .inl (uC U 0, 4, .inl (fun _ => 0)), .inr (3, [.ref q14, .int 0]), .inl (uC U 0, 4, .inl (fun _ => 0)), .inr (3, [.ref q16, .int 0]), .inl (uC U 0, 4, .inl (fun _ => 0)), .inr (3, [.ref q18, .int 0]), .inl (uC U 0, 4, .inl (fun _ => 0))] := hG
  refine aw_iinc X (1) dX1_init_145 rfl rfl rfl (by decide) ?_
  refine aw_goto (tgt := 123) X dX1_init_148 (by decide) ?_
  refine aw_iload_n X dX1_init_123 rfl ?_
  refine aw_aload_n X dX1_init_124 rfl ?_
  refine aw_gget X hG 0 rfl rfl f_X1_40 rfl dX1_init_125 ?_
  refine aw_galen X hG 6 (t0 := 4) (ty := (.object RX3)) (v := 6) rfl rfl rfl rfl dX1_init_128 ?_
  refine aw_icmp_ge_f (tgt := 151) X dX1_init_129 (by decide) (by decide) ?_
  refine aw_aload_n X dX1_init_132 rfl ?_
  refine aw_gget X hG 0 rfl rfl f_X1_40 rfl dX1_init_133 ?_
  refine aw_iload_n X dX1_init_136 rfl ?_
  refine aw_gnew X hG (ci := 3) (N := 2) (fs := [.null, .int 0]) rfl e_X1_38 i_X3 k_X3_init.2.1 tyX3 tyX3_ok df_X3 (by exact ⟨Nat.le_of_ble_eq_true rfl, Nat.le_of_ble_eq_true rfl⟩) dX1_init_137 (fun q19 μ hG => ?_)
  have hG : GH μ0 μ [a, q1, q2, q3, q4, q5, q6, q7, q8, q9, q10, q11, q12, q13, q14, q15, q16, q17, q18, q19] [.inr (1, [.ref q1, .ref q2, .ref q3, .ref q4, .ref q5, .ref q6, .int 0, .int 0, .int 0, .int 0, .int 0, .int 0, .int 0, .int 0]), .inl (uC U 0, 6, .inl (xsV 0)), .inl (uC U 0, 4, .inl (fun _ => 0)), .inl (uC U 0, 4, .inl (fun _ => 0)), .inl (uC U 0, 4, .inl (fun _ => 0)), .inl (uC U 3, 4, .inr (.inr (.inr (.inr (va_up (va_up (va_up (va_up (fun _ => none) 0 (some q7)) 1 (some q8)) 2 (some q9)) 3 (some q10)))))), .inl (uC U 4, 6, .inr (.inr (.inr (.inr (va_up (va_up (va_up (va_up (fun _ => none) 0 (some q11)) 1 (some q13)) 2 (some q15)) 3 (some q17)))))), .inr (0, [.int 90, .int (-100006), .int (-100006), .int 0, .int 0, .int 0, .int 0]), .inr (0, [.int 90, .int (-100006), .int (-100006), .int 0, .int 0, .int 0, .int 0]), .inr (0, [.int 90, .int (-100006), .int (-100006), .int 0, .int 0, .int 0, .int 0]), .inr (0, [.int 90, .int (-100006), .int (-100006), .int 0, .int 0, .int 0, .int 0]), .inr (3, [.ref q12, .int 0]), .inl (uC U 0, 4, .inl (fun _ => 0)), .inr (3, [.ref q14, .int 0]), .inl (uC U 0, 4, .inl (fun _ => 0)), .inr (3, [.ref q16, .int 0]), .inl (uC U 0, 4, .inl (fun _ => 0)), .inr (3, [.ref q18, .int 0]), .inl (uC U 0, 4, .inl (fun _ => 0)), .inr (3, [.null, .int 0])] := hG
  refine aw_dup X dX1_init_140 rfl ?_
  refine aw_cIN (As := []) X (c_X3_init (kl K) U _ q19 (hG.2.1 19 _ _ rfl rfl)) s_X1_71 k_X3_init (by decide) (by rw [X.2.2.2.2.2.2.2.1]; exact ⟨Nat.le_of_ble_eq_true rfl, Nat.le_of_ble_eq_true rfl⟩) rfl (by exact Nat.le_of_ble_eq_true rfl) dX1_init_141 (fun v μ hp => ?_)
  obtain ⟨rfl, q20, hp⟩ := hp
  have hG := hG.app (i := 19) rfl hp
  have hG : GH μ0 μ [a, q1, q2, q3, q4, q5, q6, q7, q8, q9, q10, q11, q12, q13, q14, q15, q16, q17, q18, q19, q20] [.inr (1, [.ref q1, .ref q2, .ref q3, .ref q4, .ref q5, .ref q6, .int 0, .int 0, .int 0, .int 0, .int 0, .int 0, .int 0, .int 0]), .inl (uC U 0, 6, .inl (xsV 0)), .inl (uC U 0, 4, .inl (fun _ => 0)), .inl (uC U 0, 4, .inl (fun _ => 0)), .inl (uC U 0, 4, .inl (fun _ => 0)), .inl (uC U 3, 4, .inr (.inr (.inr (.inr (va_up (va_up (va_up (va_up (fun _ => none) 0 (some q7)) 1 (some q8)) 2 (some q9)) 3 (some q10)))))), .inl (uC U 4, 6, .inr (.inr (.inr (.inr (va_up (va_up (va_up (va_up (fun _ => none) 0 (some q11)) 1 (some q13)) 2 (some q15)) 3 (some q17)))))), .inr (0, [.int 90, .int (-100006), .int (-100006), .int 0, .int 0, .int 0, .int 0]), .inr (0, [.int 90, .int (-100006), .int (-100006), .int 0, .int 0, .int 0, .int 0]), .inr (0, [.int 90, .int (-100006), .int (-100006), .int 0, .int 0, .int 0, .int 0]), .inr (0, [.int 90, .int (-100006), .int (-100006), .int 0, .int 0, .int 0, .int 0]), .inr (3, [.ref q12, .int 0]), .inl (uC U 0, 4, .inl (fun _ => 0)), .inr (3, [.ref q14, .int 0]), .inl (uC U 0, 4, .inl (fun _ => 0)), .inr (3, [.ref q16, .int 0]), .inl (uC U 0, 4, .inl (fun _ => 0)), .inr (3, [.ref q18, .int 0]), .inl (uC U 0, 4, .inl (fun _ => 0)), .inr (3, [.ref q20, .int 0]), .inl (uC U 0, 4, .inl (fun _ => 0))] := hG
  refine aw_gaast X hG 6 19 (t0 := 4) (r := (RX3, TX3, 2)) rfl 4 rfl rfl rfl rfl rfl (xin_d rfl) rfl dX1_init_144 (fun μ hG => ?_)
  have hG : GH μ0 μ [a, q1, q2, q3, q4, q5, q6, q7, q8, q9, q10, q11, q12, q13, q14, q15, q16, q17, q18, q19, q20] [.inr (1, [.ref q1, .ref q2, .ref q3, .ref q4, .ref q5, .ref q6, .int 0, .int 0, .int 0, .int 0, .int 0, .int 0, .int 0, .int 0]), .inl (uC U 0, 6, .inl (xsV 0)), .inl (uC U 0, 4, .inl (fun _ => 0)), .inl (uC U 0, 4, .inl (fun _ => 0)), .inl (uC U 0, 4, .inl (fun _ => 0)), .inl (uC U 3, 4, .inr (.inr (.inr (.inr (va_up (va_up (va_up (va_up (fun _ => none) 0 (some q7)) 1 (some q8)) 2 (some q9)) 3 (some q10)))))), .inl (uC U 4, 6, .inr (.inr (.inr (.inr (va_up (va_up (va_up (va_up (va_up (fun _ => none) 0 (some q11)) 1 (some q13)) 2 (some q15)) 3 (some q17)) 4 (some q19)))))), .inr (0, [.int 90, .int (-100006), .int (-100006), .int 0, .int 0, .int 0, .int 0]), .inr (0, [.int 90, .int (-100006), .int (-100006), .int 0, .int 0, .int 0, .int 0]), .inr (0, [.int 90, .int (-100006), .int (-100006), .int 0, .int 0, .int 0, .int 0]), .inr (0, [.int 90, .int (-100006), .int (-100006), .int 0, .int 0, .int 0, .int 0]), .inr (3, [.ref q12, .int 0]), .inl (uC U 0, 4, .inl (fun _ => 0)), .inr (3, [.ref q14, .int 0]), .inl (uC U 0, 4, .inl (fun _ => 0)), .inr (3, [.ref q16, .int 0]), .inl (uC U 0, 4, .inl (fun _ => 0)), .inr (3, [.ref q18, .int 0]), .inl (uC U 0, 4, .inl (fun _ => 0)), .inr (3, [.ref q20, .int 0]), .inl (uC U 0, 4, .inl (fun _ => 0))] := hG
  refine aw_iinc X (1) dX1_init_145 rfl rfl rfl (by decide) ?_
  refine aw_goto (tgt := 123) X dX1_init_148 (by decide) ?_
  refine aw_iload_n X dX1_init_123 rfl ?_
  refine aw_aload_n X dX1_init_124 rfl ?_
  refine aw_gget X hG 0 rfl rfl f_X1_40 rfl dX1_init_125 ?_
  refine aw_galen X hG 6 (t0 := 4) (ty := (.object RX3)) (v := 6) rfl rfl rfl rfl dX1_init_128 ?_
  refine aw_icmp_ge_f (tgt := 151) X dX1_init_129 (by decide) (by decide) ?_
  refine aw_aload_n X dX1_init_132 rfl ?_
  refine aw_gget X hG 0 rfl rfl f_X1_40 rfl dX1_init_133 ?_
  refine aw_iload_n X dX1_init_136 rfl ?_
  refine aw_gnew X hG (ci := 3) (N := 2) (fs := [.null, .int 0]) rfl e_X1_38 i_X3 k_X3_init.2.1 tyX3 tyX3_ok df_X3 (by exact ⟨Nat.le_of_ble_eq_true rfl, Nat.le_of_ble_eq_true rfl⟩) dX1_init_137 (fun q21 μ hG => ?_)
  have hG : GH μ0 μ [a, q1, q2, q3, q4, q5, q6, q7, q8, q9, q10, q11, q12, q13, q14, q15, q16, q17, q18, q19, q20, q21] [.inr (1, [.ref q1, .ref q2, .ref q3, .ref q4, .ref q5, .ref q6, .int 0, .int 0, .int 0, .int 0, .int 0, .int 0, .int 0, .int 0]), .inl (uC U 0, 6, .inl (xsV 0)), .inl (uC U 0, 4, .inl (fun _ => 0)), .inl (uC U 0, 4, .inl (fun _ => 0)), .inl (uC U 0, 4, .inl (fun _ => 0)), .inl (uC U 3, 4, .inr (.inr (.inr (.inr (va_up (va_up (va_up (va_up (fun _ => none) 0 (some q7)) 1 (some q8)) 2 (some q9)) 3 (some q10)))))), .inl (uC U 4, 6, .inr (.inr (.inr (.inr (va_up (va_up (va_up (va_up (va_up (fun _ => none) 0 (some q11)) 1 (some q13)) 2 (some q15)) 3 (some q17)) 4 (some q19)))))), .inr (0, [.int 90, .int (-100006), .int (-100006), .int 0, .int 0, .int 0, .int 0]), .inr (0, [.int 90, .int (-100006), .int (-100006), .int 0, .int 0, .int 0, .int 0]), .inr (0, [.int 90, .int (-100006), .int (-100006), .int 0, .int 0, .int 0, .int 0]), .inr (0, [.int 90, .int (-100006), .int (-100006), .int 0, .int 0, .int 0, .int 0]), .inr (3, [.ref q12, .int 0]), .inl (uC U 0, 4, .inl (fun _ => 0)), .inr (3, [.ref q14, .int 0]), .inl (uC U 0, 4, .inl (fun _ => 0)), .inr (3, [.ref q16, .int 0]), .inl (uC U 0, 4, .inl (fun _ => 0)), .inr (3, [.ref q18, .int 0]), .inl (uC U 0, 4, .inl (fun _ => 0)), .inr (3, [.ref q20, .int 0]), .inl (uC U 0, 4, .inl (fun _ => 0)), .inr (3, [.null, .int 0])] := hG
  refine aw_dup X dX1_init_140 rfl ?_
  refine aw_cIN (As := []) X (c_X3_init (kl K) U _ q21 (hG.2.1 21 _ _ rfl rfl)) s_X1_71 k_X3_init (by decide) (by rw [X.2.2.2.2.2.2.2.1]; exact ⟨Nat.le_of_ble_eq_true rfl, Nat.le_of_ble_eq_true rfl⟩) rfl (by exact Nat.le_of_ble_eq_true rfl) dX1_init_141 (fun v μ hp => ?_)
  obtain ⟨rfl, q22, hp⟩ := hp
  have hG := hG.app (i := 21) rfl hp
  have hG : GH μ0 μ [a, q1, q2, q3, q4, q5, q6, q7, q8, q9, q10, q11, q12, q13, q14, q15, q16, q17, q18, q19, q20, q21, q22] [.inr (1, [.ref q1, .ref q2, .ref q3, .ref q4, .ref q5, .ref q6, .int 0, .int 0, .int 0, .int 0, .int 0, .int 0, .int 0, .int 0]), .inl (uC U 0, 6, .inl (xsV 0)), .inl (uC U 0, 4, .inl (fun _ => 0)), .inl (uC U 0, 4, .inl (fun _ => 0)), .inl (uC U 0, 4, .inl (fun _ => 0)), .inl (uC U 3, 4, .inr (.inr (.inr (.inr (va_up (va_up (va_up (va_up (fun _ => none) 0 (some q7)) 1 (some q8)) 2 (some q9)) 3 (some q10)))))), .inl (uC U 4, 6, .inr (.inr (.inr (.inr (va_up (va_up (va_up (va_up (va_up (fun _ => none) 0 (some q11)) 1 (some q13)) 2 (some q15)) 3 (some q17)) 4 (some q19)))))), .inr (0, [.int 90, .int (-100006), .int (-100006), .int 0, .int 0, .int 0, .int 0]), .inr (0, [.int 90, .int (-100006), .int (-100006), .int 0, .int 0, .int 0, .int 0]), .inr (0, [.int 90, .int (-100006), .int (-100006), .int 0, .int 0, .int 0, .int 0]), .inr (0, [.int 90, .int (-100006), .int (-100006), .int 0, .int 0, .int 0, .int 0]), .inr (3, [.ref q12, .int 0]), .inl (uC U 0, 4, .inl (fun _ => 0)), .inr (3, [.ref q14, .int 0]), .inl (uC U 0, 4, .inl (fun _ => 0)), .inr (3, [.ref q16, .int 0]), .inl (uC U 0, 4, .inl (fun _ => 0)), .inr (3, [.ref q18, .int 0]), .inl (uC U 0, 4, .inl (fun _ => 0)), .inr (3, [.ref q20, .int 0]), .inl (uC U 0, 4, .inl (fun _ => 0)), .inr (3, [.ref q22, .int 0]), .inl (uC U 0, 4, .inl (fun _ => 0))] := hG
  refine aw_gaast X hG 6 21 (t0 := 4) (r := (RX3, TX3, 2)) rfl 5 rfl rfl rfl rfl rfl (xin_d rfl) rfl dX1_init_144 (fun μ hG => ?_)
  have hG : GH μ0 μ [a, q1, q2, q3, q4, q5, q6, q7, q8, q9, q10, q11, q12, q13, q14, q15, q16, q17, q18, q19, q20, q21, q22] [.inr (1, [.ref q1, .ref q2, .ref q3, .ref q4, .ref q5, .ref q6, .int 0, .int 0, .int 0, .int 0, .int 0, .int 0, .int 0, .int 0]), .inl (uC U 0, 6, .inl (xsV 0)), .inl (uC U 0, 4, .inl (fun _ => 0)), .inl (uC U 0, 4, .inl (fun _ => 0)), .inl (uC U 0, 4, .inl (fun _ => 0)), .inl (uC U 3, 4, .inr (.inr (.inr (.inr (va_up (va_up (va_up (va_up (fun _ => none) 0 (some q7)) 1 (some q8)) 2 (some q9)) 3 (some q10)))))), .inl (uC U 4, 6, .inr (.inr (.inr (.inr (va_up (va_up (va_up (va_up (va_up (va_up (fun _ => none) 0 (some q11)) 1 (some q13)) 2 (some q15)) 3 (some q17)) 4 (some q19)) 5 (some q21)))))), .inr (0, [.int 90, .int (-100006), .int (-100006), .int 0, .int 0, .int 0, .int 0]), .inr (0, [.int 90, .int (-100006), .int (-100006), .int 0, .int 0, .int 0, .int 0]), .inr (0, [.int 90, .int (-100006), .int (-100006), .int 0, .int 0, .int 0, .int 0]), .inr (0, [.int 90, .int (-100006), .int (-100006), .int 0, .int 0, .int 0, .int 0]), .inr (3, [.ref q12, .int 0]), .inl (uC U 0, 4, .inl (fun _ => 0)), .inr (3, [.ref q14, .int 0]), .inl (uC U 0, 4, .inl (fun _ => 0)), .inr (3, [.ref q16, .int 0]), .inl (uC U 0, 4, .inl (fun _ => 0)), .inr (3, [.ref q18, .int 0]), .inl (uC U 0, 4, .inl (fun _ => 0)), .inr (3, [.ref q20, .int 0]), .inl (uC U 0, 4, .inl (fun _ => 0)), .inr (3, [.ref q22, .int 0]), .inl (uC U 0, 4, .inl (fun _ => 0))] := hG
  refine aw_iinc X (1) dX1_init_145 rfl rfl rfl (by decide) ?_
  refine aw_goto (tgt := 123) X dX1_init_148 (by decide) ?_
  refine aw_iload_n X dX1_init_123 rfl ?_
  refine aw_aload_n X dX1_init_124 rfl ?_
  refine aw_gget X hG 0 rfl rfl f_X1_40 rfl dX1_init_125 ?_
  refine aw_galen X hG 6 (t0 := 4) (ty := (.object RX3)) (v := 6) rfl rfl rfl rfl dX1_init_128 ?_
  refine aw_icmp_ge_t (tgt := 151) X dX1_init_129 (by decide) (by decide) ?_
  refine aw_vret X hQ dX1_init_151 ⟨rfl, jnew hG rfl rfl (fun n hn => ?_)⟩
  rcases (show n = 0 ∨ n = 1 ∨ n = 2 ∨ n = 3 ∨ n = 4 ∨ n = 5 ∨ n = 6 ∨ n = 7 ∨ n = 8 ∨ n = 9 ∨ n = 10 ∨ n = 11 ∨ n = 12 ∨ n = 13 ∨ n = 14 ∨ n = 15 ∨ n = 16 ∨ n = 17 ∨ n = 18 ∨ n = 19 ∨ n = 20 ∨ n = 21 ∨ n = 22 by omega) with rfl | rfl | rfl | rfl | rfl | rfl | rfl | rfl | rfl | rfl | rfl | rfl | rfl | rfl | rfl | rfl | rfl | rfl | rfl | rfl | rfl | rfl | rfl
  · exact ⟨_, rfl, JC_0 rfl rfl⟩
  · exact ⟨_, rfl, JC_a (c := 0) rfl (by decide) rfl zI_s⟩
  · exact ⟨_, rfl, JC_a (c := 1) rfl (by decide) rfl zI_a1⟩
  · exact ⟨_, rfl, JC_a (c := 2) rfl (by decide) rfl zI_a2⟩
  · exact ⟨_, rfl, JC_a (c := 3) rfl (by decide) rfl zI_a3⟩
  · exact ⟨_, rfl, JC_5 rfl rfl (fun i hi => by rcases (show i = 0 ∨ i = 1 ∨ i = 2 ∨ i = 3 by omega) with rfl | rfl | rfl | rfl <;> rfl)⟩
  · exact ⟨_, rfl, JC_6 rfl rfl (fun i hi => by rcases (show i = 0 ∨ i = 1 ∨ i = 2 ∨ i = 3 ∨ i = 4 ∨ i = 5 by omega) with rfl | rfl | rfl | rfl | rfl | rfl <;> rfl)⟩
  · exact ⟨_, rfl, JC_h (i := 0) rfl (by decide) (by rw [zI_h (by decide)])⟩
  · exact ⟨_, rfl, JC_h (i := 1) rfl (by decide) (by rw [zI_h (by decide)])⟩
  · exact ⟨_, rfl, JC_h (i := 2) rfl (by decide) (by rw [zI_h (by decide)])⟩
  · exact ⟨_, rfl, JC_h (i := 3) rfl (by decide) (by rw [zI_h (by decide)])⟩
  · exact ⟨_, rfl, JC_t (p := 0) rfl (by decide) (by rw [zI_t (by decide)]; rfl)⟩
  · exact ⟨_, rfl, JC_t (p := 1) rfl (by decide) (by rw [zI_t (by decide)]; rfl)⟩
  · exact ⟨_, rfl, JC_t (p := 2) rfl (by decide) (by rw [zI_t (by decide)]; rfl)⟩
  · exact ⟨_, rfl, JC_t (p := 3) rfl (by decide) (by rw [zI_t (by decide)]; rfl)⟩
  · exact ⟨_, rfl, JC_t (p := 4) rfl (by decide) (by rw [zI_t (by decide)]; rfl)⟩
  · exact ⟨_, rfl, JC_t (p := 5) rfl (by decide) (by rw [zI_t (by decide)]; rfl)⟩
  · exact ⟨_, rfl, JC_u (p := 0) rfl (by decide) rfl (zI_u (by decide))⟩
  · exact ⟨_, rfl, JC_u (p := 1) rfl (by decide) rfl (zI_u (by decide))⟩
  · exact ⟨_, rfl, JC_u (p := 2) rfl (by decide) rfl (zI_u (by decide))⟩
  · exact ⟨_, rfl, JC_u (p := 3) rfl (by decide) rfl (zI_u (by decide))⟩
  · exact ⟨_, rfl, JC_u (p := 4) rfl (by decide) rfl (zI_u (by decide))⟩
  · exact ⟨_, rfl, JC_u (p := 5) rfl (by decide) rfl (zI_u (by decide))⟩
