/-- what stands from lo to hi comes from w -/
def vcp (w z : xV) (lo hi : Nat) : xV := fun k => if lo ≤ k ∧ k < hi then w k else z k
theorem jreg_84 {n k : Nat} (hn : n < 23) (h : jreg n k) : k < 84 := by
  unfold jreg at h
  by_cases a0 : n = 0
  · rw [if_pos a0] at h; omega
  rw [if_neg a0] at h
  by_cases a5 : n < 5
  · rw [if_pos a5] at h
    simp only [jbase, jlen] at h
    by_cases a1 : n - 1 = 0
    · rw [if_pos a1, if_pos a1] at h; omega
    · rw [if_neg a1, if_neg a1] at h; omega
  rw [if_neg a5] at h
  by_cases a7 : n < 7
  · rw [if_pos a7] at h; exact h.elim
  rw [if_neg a7] at h
  by_cases a11 : n < 11
  · rw [if_pos a11] at h; simp only [hz] at h; omega
  rw [if_neg a11] at h
  by_cases a17 : n < 17
  · rw [if_pos a17] at h; simp only [tz] at h; omega
  rw [if_neg a17] at h
  simp only [tz] at h
  omega
theorem JRep.congr {U : xU} {μ : xH} {sh : Nat → Nat} {z z' : xV} (h : JRep U μ sh z) (e : ∀ k, k < 84 → z' k = z k) : JRep U μ sh z' := by
  obtain ⟨h1, ⟨b1, b2, b3⟩, h3⟩ := h
  refine ⟨h1, ⟨by rw [e 13 (by decide)]; exact b1, by rw [e 7 (by decide)]; exact b2, fun i hi => ⟨by rw [e _ (by simp only [hz]; omega)]; exact (b3 i hi).1, by rw [e _ (by omega)]; exact (b3 i hi).2⟩⟩, fun n hn => ?_⟩
  obtain ⟨x, g1, g2⟩ := h3 n hn
  exact ⟨x, g1, g2.congr (fun k hk => e k (jreg_84 hn hk)) hn⟩
theorem JR.congr {U : xU} {μ0 μ : xH} {sh : Nat → Nat} {z z' : xV} (h : JR U μ0 μ sh z) (e : ∀ k, k < 84 → z' k = z k) : JR U μ0 μ sh z' := ⟨h.1.congr e, h.2⟩
theorem JRep.fr {U : xU} {μ0 μ : xH} {sh sh2 : Nat → Nat} {z : xV} (h : JRep U μ0 sh2 z) (hF : JFr sh μ0 μ) (hD : ∀ n m, n < 23 → m < 23 → sh2 n ≠ sh m) : JRep U μ sh2 z := by
  obtain ⟨h1, h2, h3⟩ := h
  refine ⟨h1, h2, fun n hn => ?_⟩
  obtain ⟨x, g1, g2⟩ := h3 n hn
  exact ⟨x, by rw [hF _ (fun m hm => hD n m hn hm)]; exact g1, g2⟩
section XCOPY
variable {U : xU} {K : xK} {y : MethodName} {cc : ByteArray} {nL cells slots : Nat} {ret : Option FieldType} {rm : Room} {Q : State → Prop} {μ0 μ1 μ : xH} {sh sh2 : Nat → Nat} {z z2 : xV} {pc index : Nat} {ls : List (Option Value)} {st : List Value}
theorem aw_jcopy (X : Cx U K y cc nL ret rm) (hJ : JR U μ0 μ sh z) (hO : JR U μ1 μ sh2 z2) (c : Nat) (hc : c < 4) (lo hi : Nat) (hlo : jbase c = lo) (hhi : jbase c + jlen c = hi) {n : Int32} (hn : n.toNatClampNeg = jlen c ∧ ¬ n < 0) (hl : Cond.methodLink y.cls index arraycopyName ∈ xgood) (hrm : 1 ≤ rm.frames ∧ (st.map fun v => v.category).sum + (nativeFrameWords "java/lang/System" "arraycopy" 5 + 11) ≤ rm.locals) (hdg : decode cc pc = .ok (.invokestatic index, 3)) (kk : ∀ (μ' : xH) (z' : xV), z' = vcp z2 z lo hi → JR U μ0 μ' sh z' → AW U K nL cells slots Q μ' (pc + 3) ls st) : AW U K nL cells slots Q μ pc ls (.int n :: .int 0 :: .ref (sh (1 + c)) :: .int 0 :: .ref (sh2 (1 + c)) :: st) := by
  subst hlo; subst hhi
  obtain ⟨f, f1, f2⟩ := hO.gA c hc
  obtain ⟨g, g1, g2⟩ := hJ.gA c hc
  have z0 : (0 : Int32).toNatClampNeg = 0 := rfl
  refine aw_copy X hl f1 g1 (by decide) (by decide) hn.2 (by rw [hn.1, z0]; omega) (by rw [hn.1, z0]; omega) hrm hdg (kk _ _ rfl (hJ.put (by omega) (fun k hk => ?_) ?_ ?_))
  · unfold vcp
    rw [if_neg (fun q => hk ?_)]
    rw [jreg, if_neg (by omega), if_pos (by omega), Nat.add_sub_cancel_left]
    exact q
  · have key : ∀ j, ¬ (jbase c ≤ j ∧ j < jbase c + jlen c) → vcp z2 z (jbase c) (jbase c + jlen c) j = z j := fun j hj => if_neg hj
    have hb : ∀ j, (j = 13 ∨ j = 7 ∨ ∃ i, i < 4 ∧ (j = hz i 3 ∨ j = 80 + i)) → ¬ (jbase c ≤ j ∧ j < jbase c + jlen c) := by
      intro j hj
      simp only [jbase, jlen]
      rcases hj with rfl | rfl | ⟨i, hi, rfl | rfl⟩ <;> (try simp only [hz]) <;> split <;> omega
    obtain ⟨b1, b2, b3⟩ := hJ.1.2.1
    exact ⟨by rw [key 13 (hb 13 (Or.inl rfl))]; exact b1, by rw [key 7 (hb 7 (Or.inr (Or.inl rfl)))]; exact b2, fun i hi => ⟨by rw [key _ (hb _ (Or.inr (Or.inr ⟨i, hi, Or.inl rfl⟩)))]; exact (b3 i hi).1, by rw [key _ (hb _ (Or.inr (Or.inr ⟨i, hi, Or.inr rfl⟩)))]; exact (b3 i hi).2⟩⟩
  · rw [JC, if_neg (by omega), if_pos (by omega), Nat.add_sub_cancel_left]
    refine ⟨_, rfl, fun k hk => ?_⟩
    rw [hn.1, z0, pk_cpy_in (Nat.zero_le k) (by omega), vcp, if_pos ⟨by omega, by omega⟩, Nat.sub_zero, Nat.zero_add]
    exact f2 k hk
theorem aw_ucopy (X : Cx U K y cc nL ret rm) (hJ : JR U μ0 μ sh z) (hO : JR U μ1 μ sh2 z2) (p : Nat) (hp : p < 6) {n : Int32} (hn : n.toNatClampNeg = 4 ∧ ¬ n < 0) (hl : Cond.methodLink y.cls index arraycopyName ∈ xgood) (hrm : 1 ≤ rm.frames ∧ (st.map fun v => v.category).sum + (nativeFrameWords "java/lang/System" "arraycopy" 5 + 11) ≤ rm.locals) (hdg : decode cc pc = .ok (.invokestatic index, 3)) (kk : ∀ (μ' : xH) (z' : xV), z' = vcp z2 z (tz p 0) (tz p 4) → JR U μ0 μ' sh z' → AW U K nL cells slots Q μ' (pc + 3) ls st) : AW U K nL cells slots Q μ pc ls (.int n :: .int 0 :: .ref (sh (17 + p)) :: .int 0 :: .ref (sh2 (17 + p)) :: st) := by
  obtain ⟨f, f1, f2⟩ := hO.gU p hp
  obtain ⟨g, g1, g2⟩ := hJ.gU p hp
  have z0 : (0 : Int32).toNatClampNeg = 0 := rfl
  refine aw_copy X hl f1 g1 (by decide) (by decide) hn.2 (by rw [hn.1, z0]; omega) (by rw [hn.1, z0]; omega) hrm hdg (kk _ _ rfl (hJ.put (by omega) (fun k hk => ?_) ?_ ?_))
  · unfold vcp
    rw [if_neg (fun q => hk ?_)]
    rw [jreg, if_neg (by omega), if_neg (by omega), if_neg (by omega), if_neg (by omega), if_neg (by omega), Nat.add_sub_cancel_left]
    exact q
  · have key : ∀ j, (j < 50 ∨ 80 ≤ j) → vcp z2 z (tz p 0) (tz p 4) j = z j := fun j hj => if_neg (by simp only [tz]; omega)
    obtain ⟨b1, b2, b3⟩ := hJ.1.2.1
    exact ⟨by rw [key 13 (by decide)]; exact b1, by rw [key 7 (by decide)]; exact b2, fun i hi => ⟨by rw [key _ (by simp only [hz]; omega)]; exact (b3 i hi).1, by rw [key _ (by omega)]; exact (b3 i hi).2⟩⟩
  · rw [JC, if_neg (by omega), if_neg (by omega), if_neg (by omega), if_neg (by omega), if_neg (by omega), if_neg (by omega), Nat.add_sub_cancel_left]
    refine ⟨_, rfl, fun k hk => ?_⟩
    rw [hn.1, z0, pk_cpy_in (Nat.zero_le k) (by omega), vcp, if_pos (by simp only [tz]; omega), Nat.sub_zero, Nat.zero_add]
    exact f2 k hk
end XCOPY
def hTC (w z : xV) (p : Nat) : xV := upd (vcp w z (tz p 0) (tz p 4)) (tz p 4) (w (tz p 4))
def hHC (w z : xV) (i : Nat) : xV := upd (upd (upd (upd (upd (upd (upd z (hz i 0) (w (hz i 0))) (hz i 1) (w (hz i 1))) (hz i 2) (w (hz i 2))) (hz i 3) (w (hz i 3))) (hz i 4) (w (hz i 4))) (hz i 5) (w (hz i 5))) (80 + i) (w (80 + i))
theorem hTC_at {w z : xV} {p k : Nat} : hTC w z p k = if tz p 0 ≤ k ∧ k < tz p 5 then w k else z k := by
  unfold hTC upd vcp
  by_cases h : k = tz p 4
  · rw [if_pos h, if_pos (by simp only [tz] at *; omega), h]
  · rw [if_neg h]
    by_cases h2 : tz p 0 ≤ k ∧ k < tz p 4
    · rw [if_pos h2, if_pos (by simp only [tz] at *; omega)]
    · rw [if_neg h2, if_neg (by simp only [tz] at *; omega)]
theorem hHC_at {w z : xV} {i k : Nat} : hHC w z i k = if (hz i 0 ≤ k ∧ k < hz i 6) ∨ k = 80 + i then w k else z k := by
  by_cases h : (hz i 0 ≤ k ∧ k < hz i 6) ∨ k = 80 + i
  · rw [if_pos h]
    unfold hHC
    have hk : k = hz i 0 ∨ k = hz i 1 ∨ k = hz i 2 ∨ k = hz i 3 ∨ k = hz i 4 ∨ k = hz i 5 ∨ k = 80 + i := by simp only [hz] at *; omega
    simp only [upd]
    repeat' split
    all_goals first | (rename_i q; rw [q]) | skip
    all_goals (exfalso; omega)
  · rw [if_neg h]
    unfold hHC
    have hk : k ≠ hz i 0 ∧ k ≠ hz i 1 ∧ k ≠ hz i 2 ∧ k ≠ hz i 3 ∧ k ≠ hz i 4 ∧ k ≠ hz i 5 ∧ k ≠ 80 + i := by simp only [hz] at *; omega
    rw [upd_n hk.2.2.2.2.2.2, upd_n hk.2.2.2.2.2.1, upd_n hk.2.2.2.2.1, upd_n hk.2.2.2.1, upd_n hk.2.2.1, upd_n hk.2.1, upd_n hk.1]
def Ag (z w : xV) (S : Nat → Prop) : Prop := ∀ k, S k → w k = z k
theorem Ag.n {z w : xV} : Ag z w (fun _ => False) := fun _ h => h.elim
theorem Ag.u {z w : xV} {S : Nat → Prop} {j : Nat} (h : Ag z w S) : Ag (upd z j (w j)) w (fun k => S k ∨ k = j) := fun k hk => by
  by_cases e : k = j
  · rw [e, upd_s]
  · rw [upd_n e]; exact h k (hk.resolve_right e)
theorem Ag.c {z w : xV} {S : Nat → Prop} {lo hi : Nat} (h : Ag z w S) : Ag (vcp w z lo hi) w (fun k => S k ∨ (lo ≤ k ∧ k < hi)) := fun k hk => by
  unfold vcp
  by_cases e : lo ≤ k ∧ k < hi
  · rw [if_pos e]
  · rw [if_neg e]; exact h k (hk.resolve_right e)
theorem Ag.T {z w : xV} {S : Nat → Prop} {p : Nat} (h : Ag z w S) : Ag (hTC w z p) w (fun k => S k ∨ (tz p 0 ≤ k ∧ k < tz p 5)) := fun k hk => by
  rw [hTC_at]
  by_cases e : tz p 0 ≤ k ∧ k < tz p 5
  · rw [if_pos e]
  · rw [if_neg e]; exact h k (hk.resolve_right e)
theorem Ag.H {z w : xV} {S : Nat → Prop} {i : Nat} (h : Ag z w S) : Ag (hHC w z i) w (fun k => S k ∨ ((hz i 0 ≤ k ∧ k < hz i 6) ∨ k = 80 + i)) := fun k hk => by
  rw [hHC_at]
  by_cases e : (hz i 0 ≤ k ∧ k < hz i 6) ∨ k = 80 + i
  · rw [if_pos e]
  · rw [if_neg e]; exact h k (hk.resolve_right e)
set_option maxHeartbeats 4000000 in
set_option maxRecDepth 100000 in
theorem c_X3_copyFrom (l : Launch) (U : xU) (μ0 : xH) (sh : Nat → Nat) (z : xV) (hJ0 : JRep U μ0 sh z) (sh2 : Nat → Nat) (z2 : xV) (hO0 : JRep U μ0 sh2 z2) (hD : ∀ n m, n < 23 → m < 23 → sh2 n ≠ sh m) (p : Nat) (hp : p < 6) : CtK l U yX3_copyFrom cX3_copyFrom 2 none ({ frames := 1, cells := 0, slots := 0, locals := 26 } : Room) [.ref (sh (11 + p)), .ref (sh2 (11 + p))] μ0 sh (hTC z2 z p) := by
  refine Ct.of [some (.ref (sh (11 + p))), some (.ref (sh2 (11 + p)))] (by decide +kernel) rfl (Nat.le_of_ble_eq_true rfl) (fun K Q X hnm hQ => ?_)
  have hJ := JR.rf hJ0
  have hO := JR.rf hO0
  refine aw_aload_n X dX3_copyFrom_0 rfl ?_
  refine aw_tgetU X hO (p) hp f_X3_9 dX3_copyFrom_1 ?_
  refine aw_iconst X (0) dX3_copyFrom_4 rfl ?_
  refine aw_aload_n X dX3_copyFrom_5 rfl ?_
  refine aw_tgetU X hJ (p) hp f_X3_9 dX3_copyFrom_6 ?_
  refine aw_iconst X (0) dX3_copyFrom_9 rfl ?_
  refine aw_iconst X (4) dX3_copyFrom_10 rfl ?_
  refine aw_ucopy X hJ hO (p) hp (by decide) l_X3_19 (by exact ⟨by decide, Nat.le_of_ble_eq_true rfl⟩) dX3_copyFrom_11 (fun μ z_1 ez_1 hJ => ?_)
  have hO := JR.rf (hO0.fr hJ.2 hD)
  refine aw_aload_n X dX3_copyFrom_14 rfl ?_
  refine aw_aload_n X dX3_copyFrom_15 rfl ?_
  refine aw_tgetC X hO (p) hp f_X3_15 dX3_copyFrom_16 ?_
  refine aw_tputC X hJ (p) hp f_X3_15 dX3_copyFrom_19 (fun μ z_2 ez_2 hJ => ?_)
  have hO := JR.rf (hO0.fr hJ.2 hD)
  exact aw_vret X hQ dX3_copyFrom_22 ⟨rfl, hJ.to (by subst ez_1 ez_2; rfl)⟩

set_option maxHeartbeats 4000000 in
set_option maxRecDepth 100000 in
theorem c_X0_copyFrom (l : Launch) (U : xU) (μ0 : xH) (sh : Nat → Nat) (z : xV) (hJ0 : JRep U μ0 sh z) (sh2 : Nat → Nat) (z2 : xV) (hO0 : JRep U μ0 sh2 z2) (hD : ∀ n m, n < 23 → m < 23 → sh2 n ≠ sh m) (i : Nat) (hi : i < 4) : CtK l U yX0_copyFrom cX0_copyFrom 2 none ({ frames := 0, cells := 0, slots := 0, locals := 0 } : Room) [.ref (sh (7 + i)), .ref (sh2 (7 + i))] μ0 sh (hHC z2 z i) := by
  refine Ct.of [some (.ref (sh (7 + i))), some (.ref (sh2 (7 + i)))] (by decide +kernel) rfl (Nat.le_of_ble_eq_true rfl) (fun K Q X hnm hQ => ?_)
  have hJ := JR.rf hJ0
  have hO := JR.rf hO0
  refine aw_aload_n X dX0_copyFrom_0 rfl ?_
  refine aw_aload_n X dX0_copyFrom_1 rfl ?_
  refine aw_hget X hO (i) hi f_X0_9 rfl dX0_copyFrom_2 ?_
  refine aw_hput X hJ (i) hi 0 (by decide) (hz (i) 0) rfl f_X0_9 (fun h => absurd h (by decide)) dX0_copyFrom_5 (fun μ z_1 ez_1 hJ => ?_)
  have hO := JR.rf (hO0.fr hJ.2 hD)
  refine aw_aload_n X dX0_copyFrom_8 rfl ?_
  refine aw_aload_n X dX0_copyFrom_9 rfl ?_
  refine aw_hget X hO (i) hi f_X0_16 rfl dX0_copyFrom_10 ?_
  refine aw_hput X hJ (i) hi 1 (by decide) (hz (i) 1) rfl f_X0_16 (fun h => absurd h (by decide)) dX0_copyFrom_13 (fun μ z_2 ez_2 hJ => ?_)
  have hO := JR.rf (hO0.fr hJ.2 hD)
  refine aw_aload_n X dX0_copyFrom_16 rfl ?_
  refine aw_aload_n X dX0_copyFrom_17 rfl ?_
  refine aw_hget X hO (i) hi f_X0_19 rfl dX0_copyFrom_18 ?_
  refine aw_hput X hJ (i) hi 2 (by decide) (hz (i) 2) rfl f_X0_19 (fun h => absurd h (by decide)) dX0_copyFrom_21 (fun μ z_3 ez_3 hJ => ?_)
  have hO := JR.rf (hO0.fr hJ.2 hD)
  refine aw_aload_n X dX0_copyFrom_24 rfl ?_
  refine aw_aload_n X dX0_copyFrom_25 rfl ?_
  refine aw_hget X hO (i) hi f_X0_22 rfl dX0_copyFrom_26 ?_
  refine aw_hput X hJ (i) hi 3 (by decide) (hz (i) 3) rfl f_X0_22 (fun _ => (hO.1.2.1.2.2 _ hi).1) dX0_copyFrom_29 (fun μ z_4 ez_4 hJ => ?_)
  have hO := JR.rf (hO0.fr hJ.2 hD)
  refine aw_aload_n X dX0_copyFrom_32 rfl ?_
  refine aw_aload_n X dX0_copyFrom_33 rfl ?_
  refine aw_hget X hO (i) hi f_X0_26 rfl dX0_copyFrom_34 ?_
  refine aw_hput X hJ (i) hi 4 (by decide) (hz (i) 4) rfl f_X0_26 (fun h => absurd h (by decide)) dX0_copyFrom_37 (fun μ z_5 ez_5 hJ => ?_)
  have hO := JR.rf (hO0.fr hJ.2 hD)
  refine aw_aload_n X dX0_copyFrom_40 rfl ?_
  refine aw_aload_n X dX0_copyFrom_41 rfl ?_
  refine aw_hget X hO (i) hi f_X0_29 rfl dX0_copyFrom_42 ?_
  refine aw_hput X hJ (i) hi 5 (by decide) (hz (i) 5) rfl f_X0_29 (fun h => absurd h (by decide)) dX0_copyFrom_45 (fun μ z_6 ez_6 hJ => ?_)
  have hO := JR.rf (hO0.fr hJ.2 hD)
  refine aw_aload_n X dX0_copyFrom_48 rfl ?_
  refine aw_aload_n X dX0_copyFrom_49 rfl ?_
  refine aw_hget X hO (i) hi f_X0_32 rfl dX0_copyFrom_50 ?_
  refine aw_hput X hJ (i) hi 6 (by decide) (80 + (i)) rfl f_X0_32 (fun _ => (hO.1.2.1.2.2 _ hi).2) dX0_copyFrom_53 (fun μ z_7 ez_7 hJ => ?_)
  have hO := JR.rf (hO0.fr hJ.2 hD)
  exact aw_vret X hQ dX0_copyFrom_56 ⟨rfl, hJ.to (by subst ez_1 ez_2 ez_3 ez_4 ez_5 ez_6 ez_7; rfl)⟩

set_option maxHeartbeats 4000000 in
set_option maxRecDepth 100000 in
theorem c_X1_copyFrom (l : Launch) (U : xU) (μ0 : xH) (sh : Nat → Nat) (z : xV) (hJ0 : JRep U μ0 sh z) (sh2 : Nat → Nat) (z2 : xV) (hO0 : JRep U μ0 sh2 z2) (hD : ∀ n m, n < 23 → m < 23 → sh2 n ≠ sh m) : CtK l U yX1_copyFrom cX1_copyFrom 3 none ({ frames := 2, cells := 0, slots := 0, locals := 47 } : Room) [.ref (sh 0), .ref (sh2 0)] μ0 sh z2 := by
  refine Ct.of [some (.ref (sh 0)), some (.ref (sh2 0)), none] (by decide +kernel) rfl (Nat.le_of_ble_eq_true rfl) (fun K Q X hnm hQ => ?_)
  have hJ := JR.rf hJ0
  have hO := JR.rf hO0
  refine aw_aload_n X dX1_copyFrom_0 rfl ?_
  refine aw_jget X hO f_X1_18 rfl dX1_copyFrom_1 ?_
  refine aw_iconst X (0) dX1_copyFrom_4 rfl ?_
  refine aw_aload_n X dX1_copyFrom_5 rfl ?_
  refine aw_jget X hJ f_X1_18 rfl dX1_copyFrom_6 ?_
  refine aw_iconst X (0) dX1_copyFrom_9 rfl ?_
  refine aw_aload_n X dX1_copyFrom_10 rfl ?_
  refine aw_jget X hJ f_X1_18 rfl dX1_copyFrom_11 ?_
  refine aw_jlen X hJ 0 (by decide) (v := 6) rfl dX1_copyFrom_14 ?_
  refine aw_jcopy X hJ hO 0 (by decide) 0 6 rfl rfl (by decide) l_X1_72 (by exact ⟨by decide, Nat.le_of_ble_eq_true rfl⟩) dX1_copyFrom_15 (fun μ z_1 ez_1 hJ => ?_)
  have hO := JR.rf (hO0.fr hJ.2 hD)
  refine aw_aload_n X dX1_copyFrom_18 rfl ?_
  refine aw_jget X hO f_X1_23 rfl dX1_copyFrom_19 ?_
  refine aw_iconst X (0) dX1_copyFrom_22 rfl ?_
  refine aw_aload_n X dX1_copyFrom_23 rfl ?_
  refine aw_jget X hJ f_X1_23 rfl dX1_copyFrom_24 ?_
  refine aw_iconst X (0) dX1_copyFrom_27 rfl ?_
  refine aw_iconst X (4) dX1_copyFrom_28 rfl ?_
  refine aw_jcopy X hJ hO 1 (by decide) 14 18 rfl rfl (by decide) l_X1_72 (by exact ⟨by decide, Nat.le_of_ble_eq_true rfl⟩) dX1_copyFrom_29 (fun μ z_2 ez_2 hJ => ?_)
  have hO := JR.rf (hO0.fr hJ.2 hD)
  refine aw_aload_n X dX1_copyFrom_32 rfl ?_
  refine aw_jget X hO f_X1_26 rfl dX1_copyFrom_33 ?_
  refine aw_iconst X (0) dX1_copyFrom_36 rfl ?_
  refine aw_aload_n X dX1_copyFrom_37 rfl ?_
  refine aw_jget X hJ f_X1_26 rfl dX1_copyFrom_38 ?_
  refine aw_iconst X (0) dX1_copyFrom_41 rfl ?_
  refine aw_iconst X (4) dX1_copyFrom_42 rfl ?_
  refine aw_jcopy X hJ hO 2 (by decide) 18 22 rfl rfl (by decide) l_X1_72 (by exact ⟨by decide, Nat.le_of_ble_eq_true rfl⟩) dX1_copyFrom_43 (fun μ z_3 ez_3 hJ => ?_)
  have hO := JR.rf (hO0.fr hJ.2 hD)
  refine aw_aload_n X dX1_copyFrom_46 rfl ?_
  refine aw_jget X hO f_X1_29 rfl dX1_copyFrom_47 ?_
  refine aw_iconst X (0) dX1_copyFrom_50 rfl ?_
  refine aw_aload_n X dX1_copyFrom_51 rfl ?_
  refine aw_jget X hJ f_X1_29 rfl dX1_copyFrom_52 ?_
  refine aw_iconst X (0) dX1_copyFrom_55 rfl ?_
  refine aw_iconst X (4) dX1_copyFrom_56 rfl ?_
  refine aw_jcopy X hJ hO 3 (by decide) 22 26 rfl rfl (by decide) l_X1_72 (by exact ⟨by decide, Nat.le_of_ble_eq_true rfl⟩) dX1_copyFrom_57 (fun μ z_4 ez_4 hJ => ?_)
  have hO := JR.rf (hO0.fr hJ.2 hD)
  refine aw_iconst X (0) dX1_copyFrom_60 rfl ?_
  refine aw_istore_n X dX1_copyFrom_61 rfl (by decide) ?_
  refine aw_iload_n X dX1_copyFrom_62 rfl ?_
  refine aw_iconst X (4) dX1_copyFrom_63 rfl ?_
  refine aw_icmp_ge_f (tgt := 88) X dX1_copyFrom_64 (by decide) (by decide) ?_
  refine aw_aload_n X dX1_copyFrom_67 rfl ?_
  refine aw_jget X hJ f_X1_34 rfl dX1_copyFrom_68 ?_
  refine aw_iload_n X dX1_copyFrom_71 rfl ?_
  refine aw_hoseAt X hJ (0) (by decide) (by decide) dX1_copyFrom_72 ?_
  refine aw_aload_n X dX1_copyFrom_73 rfl ?_
  refine aw_jget X hO f_X1_34 rfl dX1_copyFrom_74 ?_
  refine aw_iload_n X dX1_copyFrom_77 rfl ?_
  refine aw_hoseAt X hO (0) (by decide) (by decide) dX1_copyFrom_78 ?_
  refine aw_cVK (As := [.ref _]) X hJ (c_X0_copyFrom (kl K) U _ sh _ hJ.1 sh2 _ hO.1 hD (0) (by decide)) s_X1_78 k_X0_copyFrom (by decide) ⟨rfl, rfl⟩ ⟨Nat.zero_le _, Nat.zero_le _⟩ rfl (by exact Nat.le_of_ble_eq_true rfl) (hJ.gH _ (by decide)) rfl dX1_copyFrom_79 (fun μ z_5 ez_5 hJ => ?_)
  have hO := JR.rf (hO0.fr hJ.2 hD)
  refine aw_iinc X (1) dX1_copyFrom_82 rfl rfl rfl (by decide) ?_
  refine aw_goto (tgt := 62) X dX1_copyFrom_85 (by decide) ?_
  refine aw_iload_n X dX1_copyFrom_62 rfl ?_
  refine aw_iconst X (4) dX1_copyFrom_63 rfl ?_
  refine aw_icmp_ge_f (tgt := 88) X dX1_copyFrom_64 (by decide) (by decide) ?_
  refine aw_aload_n X dX1_copyFrom_67 rfl ?_
  refine aw_jget X hJ f_X1_34 rfl dX1_copyFrom_68 ?_
  refine aw_iload_n X dX1_copyFrom_71 rfl ?_
  refine aw_hoseAt X hJ (1) (by decide) (by decide) dX1_copyFrom_72 ?_
  refine aw_aload_n X dX1_copyFrom_73 rfl ?_
  refine aw_jget X hO f_X1_34 rfl dX1_copyFrom_74 ?_
  refine aw_iload_n X dX1_copyFrom_77 rfl ?_
  refine aw_hoseAt X hO (1) (by decide) (by decide) dX1_copyFrom_78 ?_
  refine aw_cVK (As := [.ref _]) X hJ (c_X0_copyFrom (kl K) U _ sh _ hJ.1 sh2 _ hO.1 hD (1) (by decide)) s_X1_78 k_X0_copyFrom (by decide) ⟨rfl, rfl⟩ ⟨Nat.zero_le _, Nat.zero_le _⟩ rfl (by exact Nat.le_of_ble_eq_true rfl) (hJ.gH _ (by decide)) rfl dX1_copyFrom_79 (fun μ z_6 ez_6 hJ => ?_)
  have hO := JR.rf (hO0.fr hJ.2 hD)
  refine aw_iinc X (1) dX1_copyFrom_82 rfl rfl rfl (by decide) ?_
  refine aw_goto (tgt := 62) X dX1_copyFrom_85 (by decide) ?_
  refine aw_iload_n X dX1_copyFrom_62 rfl ?_
  refine aw_iconst X (4) dX1_copyFrom_63 rfl ?_
  refine aw_icmp_ge_f (tgt := 88) X dX1_copyFrom_64 (by decide) (by decide) ?_
  refine aw_aload_n X dX1_copyFrom_67 rfl ?_
  refine aw_jget X hJ f_X1_34 rfl dX1_copyFrom_68 ?_
  refine aw_iload_n X dX1_copyFrom_71 rfl ?_
  refine aw_hoseAt X hJ (2) (by decide) (by decide) dX1_copyFrom_72 ?_
  refine aw_aload_n X dX1_copyFrom_73 rfl ?_
  refine aw_jget X hO f_X1_34 rfl dX1_copyFrom_74 ?_
  refine aw_iload_n X dX1_copyFrom_77 rfl ?_
  refine aw_hoseAt X hO (2) (by decide) (by decide) dX1_copyFrom_78 ?_
  refine aw_cVK (As := [.ref _]) X hJ (c_X0_copyFrom (kl K) U _ sh _ hJ.1 sh2 _ hO.1 hD (2) (by decide)) s_X1_78 k_X0_copyFrom (by decide) ⟨rfl, rfl⟩ ⟨Nat.zero_le _, Nat.zero_le _⟩ rfl (by exact Nat.le_of_ble_eq_true rfl) (hJ.gH _ (by decide)) rfl dX1_copyFrom_79 (fun μ z_7 ez_7 hJ => ?_)
  have hO := JR.rf (hO0.fr hJ.2 hD)
  refine aw_iinc X (1) dX1_copyFrom_82 rfl rfl rfl (by decide) ?_
  refine aw_goto (tgt := 62) X dX1_copyFrom_85 (by decide) ?_
  refine aw_iload_n X dX1_copyFrom_62 rfl ?_
  refine aw_iconst X (4) dX1_copyFrom_63 rfl ?_
  refine aw_icmp_ge_f (tgt := 88) X dX1_copyFrom_64 (by decide) (by decide) ?_
  refine aw_aload_n X dX1_copyFrom_67 rfl ?_
  refine aw_jget X hJ f_X1_34 rfl dX1_copyFrom_68 ?_
  refine aw_iload_n X dX1_copyFrom_71 rfl ?_
  refine aw_hoseAt X hJ (3) (by decide) (by decide) dX1_copyFrom_72 ?_
  refine aw_aload_n X dX1_copyFrom_73 rfl ?_
  refine aw_jget X hO f_X1_34 rfl dX1_copyFrom_74 ?_
  refine aw_iload_n X dX1_copyFrom_77 rfl ?_
  refine aw_hoseAt X hO (3) (by decide) (by decide) dX1_copyFrom_78 ?_
  refine aw_cVK (As := [.ref _]) X hJ (c_X0_copyFrom (kl K) U _ sh _ hJ.1 sh2 _ hO.1 hD (3) (by decide)) s_X1_78 k_X0_copyFrom (by decide) ⟨rfl, rfl⟩ ⟨Nat.zero_le _, Nat.zero_le _⟩ rfl (by exact Nat.le_of_ble_eq_true rfl) (hJ.gH _ (by decide)) rfl dX1_copyFrom_79 (fun μ z_8 ez_8 hJ => ?_)
  have hO := JR.rf (hO0.fr hJ.2 hD)
  refine aw_iinc X (1) dX1_copyFrom_82 rfl rfl rfl (by decide) ?_
  refine aw_goto (tgt := 62) X dX1_copyFrom_85 (by decide) ?_
  refine aw_iload_n X dX1_copyFrom_62 rfl ?_
  refine aw_iconst X (4) dX1_copyFrom_63 rfl ?_
  refine aw_icmp_ge_t (tgt := 88) X dX1_copyFrom_64 (by decide) (by decide) ?_
  refine aw_iconst X (0) dX1_copyFrom_88 rfl ?_
  refine aw_istore_n X dX1_copyFrom_89 rfl (by decide) ?_
  refine aw_iload_n X dX1_copyFrom_90 rfl ?_
  refine aw_aload_n X dX1_copyFrom_91 rfl ?_
  refine aw_jget X hJ f_X1_40 rfl dX1_copyFrom_92 ?_
  refine aw_tlen X hJ dX1_copyFrom_95 ?_
  refine aw_icmp_ge_f (tgt := 120) X dX1_copyFrom_96 (by decide) (by decide) ?_
  refine aw_aload_n X dX1_copyFrom_99 rfl ?_
  refine aw_jget X hJ f_X1_40 rfl dX1_copyFrom_100 ?_
  refine aw_iload_n X dX1_copyFrom_103 rfl ?_
  refine aw_tankAt X hJ (0) (by decide) (by decide) dX1_copyFrom_104 ?_
  refine aw_aload_n X dX1_copyFrom_105 rfl ?_
  refine aw_jget X hO f_X1_40 rfl dX1_copyFrom_106 ?_
  refine aw_iload_n X dX1_copyFrom_109 rfl ?_
  refine aw_tankAt X hO (0) (by decide) (by decide) dX1_copyFrom_110 ?_
  refine aw_cVK (As := [.ref _]) X hJ (c_X3_copyFrom (kl K) U _ sh _ hJ.1 sh2 _ hO.1 hD (0) (by decide)) s_X1_82 k_X3_copyFrom (by decide) ⟨rfl, rfl⟩ ⟨Nat.zero_le _, Nat.zero_le _⟩ rfl (by exact Nat.le_of_ble_eq_true rfl) (hJ.gT _ (by decide)) rfl dX1_copyFrom_111 (fun μ z_9 ez_9 hJ => ?_)
  have hO := JR.rf (hO0.fr hJ.2 hD)
  refine aw_iinc X (1) dX1_copyFrom_114 rfl rfl rfl (by decide) ?_
  refine aw_goto (tgt := 90) X dX1_copyFrom_117 (by decide) ?_
  refine aw_iload_n X dX1_copyFrom_90 rfl ?_
  refine aw_aload_n X dX1_copyFrom_91 rfl ?_
  refine aw_jget X hJ f_X1_40 rfl dX1_copyFrom_92 ?_
  refine aw_tlen X hJ dX1_copyFrom_95 ?_
  refine aw_icmp_ge_f (tgt := 120) X dX1_copyFrom_96 (by decide) (by decide) ?_
  refine aw_aload_n X dX1_copyFrom_99 rfl ?_
  refine aw_jget X hJ f_X1_40 rfl dX1_copyFrom_100 ?_
  refine aw_iload_n X dX1_copyFrom_103 rfl ?_
  refine aw_tankAt X hJ (1) (by decide) (by decide) dX1_copyFrom_104 ?_
  refine aw_aload_n X dX1_copyFrom_105 rfl ?_
  refine aw_jget X hO f_X1_40 rfl dX1_copyFrom_106 ?_
  refine aw_iload_n X dX1_copyFrom_109 rfl ?_
  refine aw_tankAt X hO (1) (by decide) (by decide) dX1_copyFrom_110 ?_
  refine aw_cVK (As := [.ref _]) X hJ (c_X3_copyFrom (kl K) U _ sh _ hJ.1 sh2 _ hO.1 hD (1) (by decide)) s_X1_82 k_X3_copyFrom (by decide) ⟨rfl, rfl⟩ ⟨Nat.zero_le _, Nat.zero_le _⟩ rfl (by exact Nat.le_of_ble_eq_true rfl) (hJ.gT _ (by decide)) rfl dX1_copyFrom_111 (fun μ z_10 ez_10 hJ => ?_)
  have hO := JR.rf (hO0.fr hJ.2 hD)
  refine aw_iinc X (1) dX1_copyFrom_114 rfl rfl rfl (by decide) ?_
  refine aw_goto (tgt := 90) X dX1_copyFrom_117 (by decide) ?_
  refine aw_iload_n X dX1_copyFrom_90 rfl ?_
  refine aw_aload_n X dX1_copyFrom_91 rfl ?_
  refine aw_jget X hJ f_X1_40 rfl dX1_copyFrom_92 ?_
  refine aw_tlen X hJ dX1_copyFrom_95 ?_
  refine aw_icmp_ge_f (tgt := 120) X dX1_copyFrom_96 (by decide) (by decide) ?_
  refine aw_aload_n X dX1_copyFrom_99 rfl ?_
  refine aw_jget X hJ f_X1_40 rfl dX1_copyFrom_100 ?_
  refine aw_iload_n X dX1_copyFrom_103 rfl ?_
  refine aw_tankAt X hJ (2) (by decide) (by decide) dX1_copyFrom_104 ?_
  refine aw_aload_n X dX1_copyFrom_105 rfl ?_
  refine aw_jget X hO f_X1_40 rfl dX1_copyFrom_106 ?_
  refine aw_iload_n X dX1_copyFrom_109 rfl ?_
  refine aw_tankAt X hO (2) (by decide) (by decide) dX1_copyFrom_110 ?_
  refine aw_cVK (As := [.ref _]) X hJ (c_X3_copyFrom (kl K) U _ sh _ hJ.1 sh2 _ hO.1 hD (2) (by decide)) s_X1_82 k_X3_copyFrom (by decide) ⟨rfl, rfl⟩ ⟨Nat.zero_le _, Nat.zero_le _⟩ rfl (by exact Nat.le_of_ble_eq_true rfl) (hJ.gT _ (by decide)) rfl dX1_copyFrom_111 (fun μ z_11 ez_11 hJ => ?_)
  have hO := JR.rf (hO0.fr hJ.2 hD)
  refine aw_iinc X (1) dX1_copyFrom_114 rfl rfl rfl (by decide) ?_
  refine aw_goto (tgt := 90) X dX1_copyFrom_117 (by decide) ?_
  refine aw_iload_n X dX1_copyFrom_90 rfl ?_
  refine aw_aload_n X dX1_copyFrom_91 rfl ?_
  refine aw_jget X hJ f_X1_40 rfl dX1_copyFrom_92 ?_
  refine aw_tlen X hJ dX1_copyFrom_95 ?_
  refine aw_icmp_ge_f (tgt := 120) X dX1_copyFrom_96 (by decide) (by decide) ?_
  refine aw_aload_n X dX1_copyFrom_99 rfl ?_
  refine aw_jget X hJ f_X1_40 rfl dX1_copyFrom_100 ?_
  refine aw_iload_n X dX1_copyFrom_103 rfl ?_
  refine aw_tankAt X hJ (3) (by decide) (by decide) dX1_copyFrom_104 ?_
  refine aw_aload_n X dX1_copyFrom_105 rfl ?_
  refine aw_jget X hO f_X1_40 rfl dX1_copyFrom_106 ?_
  refine aw_iload_n X dX1_copyFrom_109 rfl ?_
  refine aw_tankAt X hO (3) (by decide) (by decide) dX1_copyFrom_110 ?_
  refine aw_cVK (As := [.ref _]) X hJ (c_X3_copyFrom (kl K) U _ sh _ hJ.1 sh2 _ hO.1 hD (3) (by decide)) s_X1_82 k_X3_copyFrom (by decide) ⟨rfl, rfl⟩ ⟨Nat.zero_le _, Nat.zero_le _⟩ rfl (by exact Nat.le_of_ble_eq_true rfl) (hJ.gT _ (by decide)) rfl dX1_copyFrom_111 (fun μ z_12 ez_12 hJ => ?_)
  have hO := JR.rf (hO0.fr hJ.2 hD)
  refine aw_iinc X (1) dX1_copyFrom_114 rfl rfl rfl (by decide) ?_
  refine aw_goto (tgt := 90) X dX1_copyFrom_117 (by decide) ?_
  refine aw_iload_n X dX1_copyFrom_90 rfl ?_
  refine aw_aload_n X dX1_copyFrom_91 rfl ?_
  refine aw_jget X hJ f_X1_40 rfl dX1_copyFrom_92 ?_
  refine aw_tlen X hJ dX1_copyFrom_95 ?_
  refine aw_icmp_ge_f (tgt := 120) X dX1_copyFrom_96 (by decide) (by decide) ?_
  refine aw_aload_n X dX1_copyFrom_99 rfl ?_
  refine aw_jget X hJ f_X1_40 rfl dX1_copyFrom_100 ?_
  refine aw_iload_n X dX1_copyFrom_103 rfl ?_
  refine aw_tankAt X hJ (4) (by decide) (by decide) dX1_copyFrom_104 ?_
  refine aw_aload_n X dX1_copyFrom_105 rfl ?_
  refine aw_jget X hO f_X1_40 rfl dX1_copyFrom_106 ?_
  refine aw_iload_n X dX1_copyFrom_109 rfl ?_
  refine aw_tankAt X hO (4) (by decide) (by decide) dX1_copyFrom_110 ?_
  refine aw_cVK (As := [.ref _]) X hJ (c_X3_copyFrom (kl K) U _ sh _ hJ.1 sh2 _ hO.1 hD (4) (by decide)) s_X1_82 k_X3_copyFrom (by decide) ⟨rfl, rfl⟩ ⟨Nat.zero_le _, Nat.zero_le _⟩ rfl (by exact Nat.le_of_ble_eq_true rfl) (hJ.gT _ (by decide)) rfl dX1_copyFrom_111 (fun μ z_13 ez_13 hJ => ?_)
  have hO := JR.rf (hO0.fr hJ.2 hD)
  refine aw_iinc X (1) dX1_copyFrom_114 rfl rfl rfl (by decide) ?_
  refine aw_goto (tgt := 90) X dX1_copyFrom_117 (by decide) ?_
  refine aw_iload_n X dX1_copyFrom_90 rfl ?_
  refine aw_aload_n X dX1_copyFrom_91 rfl ?_
  refine aw_jget X hJ f_X1_40 rfl dX1_copyFrom_92 ?_
  refine aw_tlen X hJ dX1_copyFrom_95 ?_
  refine aw_icmp_ge_f (tgt := 120) X dX1_copyFrom_96 (by decide) (by decide) ?_
  refine aw_aload_n X dX1_copyFrom_99 rfl ?_
  refine aw_jget X hJ f_X1_40 rfl dX1_copyFrom_100 ?_
  refine aw_iload_n X dX1_copyFrom_103 rfl ?_
  refine aw_tankAt X hJ (5) (by decide) (by decide) dX1_copyFrom_104 ?_
  refine aw_aload_n X dX1_copyFrom_105 rfl ?_
  refine aw_jget X hO f_X1_40 rfl dX1_copyFrom_106 ?_
  refine aw_iload_n X dX1_copyFrom_109 rfl ?_
  refine aw_tankAt X hO (5) (by decide) (by decide) dX1_copyFrom_110 ?_
  refine aw_cVK (As := [.ref _]) X hJ (c_X3_copyFrom (kl K) U _ sh _ hJ.1 sh2 _ hO.1 hD (5) (by decide)) s_X1_82 k_X3_copyFrom (by decide) ⟨rfl, rfl⟩ ⟨Nat.zero_le _, Nat.zero_le _⟩ rfl (by exact Nat.le_of_ble_eq_true rfl) (hJ.gT _ (by decide)) rfl dX1_copyFrom_111 (fun μ z_14 ez_14 hJ => ?_)
  have hO := JR.rf (hO0.fr hJ.2 hD)
  refine aw_iinc X (1) dX1_copyFrom_114 rfl rfl rfl (by decide) ?_
  refine aw_goto (tgt := 90) X dX1_copyFrom_117 (by decide) ?_
  refine aw_iload_n X dX1_copyFrom_90 rfl ?_
  refine aw_aload_n X dX1_copyFrom_91 rfl ?_
  refine aw_jget X hJ f_X1_40 rfl dX1_copyFrom_92 ?_
  refine aw_tlen X hJ dX1_copyFrom_95 ?_
  refine aw_icmp_ge_t (tgt := 120) X dX1_copyFrom_96 (by decide) (by decide) ?_
  refine aw_aload_n X dX1_copyFrom_120 rfl ?_
  refine aw_aload_n X dX1_copyFrom_121 rfl ?_
  refine aw_jget X hO f_X1_44 rfl dX1_copyFrom_122 ?_
  refine aw_jput X hJ 6 (by decide) (by decide) 13 rfl f_X1_44 (fun _ => hO.1.2.1.1) dX1_copyFrom_125 (fun μ z_15 ez_15 hJ => ?_)
  have hO := JR.rf (hO0.fr hJ.2 hD)
  refine aw_aload_n X dX1_copyFrom_128 rfl ?_
  refine aw_aload_n X dX1_copyFrom_129 rfl ?_
  refine aw_jget X hO f_X1_48 rfl dX1_copyFrom_130 ?_
  refine aw_jput X hJ 7 (by decide) (by decide) 12 rfl f_X1_48 (fun h => absurd h (by decide)) dX1_copyFrom_133 (fun μ z_16 ez_16 hJ => ?_)
  have hO := JR.rf (hO0.fr hJ.2 hD)
  refine aw_aload_n X dX1_copyFrom_136 rfl ?_
  refine aw_aload_n X dX1_copyFrom_137 rfl ?_
  refine aw_jget X hO f_X1_52 rfl dX1_copyFrom_138 ?_
  refine aw_jput X hJ 8 (by decide) (by decide) 6 rfl f_X1_52 (fun h => absurd h (by decide)) dX1_copyFrom_141 (fun μ z_17 ez_17 hJ => ?_)
  have hO := JR.rf (hO0.fr hJ.2 hD)
  refine aw_aload_n X dX1_copyFrom_144 rfl ?_
  refine aw_aload_n X dX1_copyFrom_145 rfl ?_
  refine aw_jget X hO f_X1_55 rfl dX1_copyFrom_146 ?_
  refine aw_jput X hJ 9 (by decide) (by decide) 7 rfl f_X1_55 (fun _ => hO.1.2.1.2.1) dX1_copyFrom_149 (fun μ z_18 ez_18 hJ => ?_)
  have hO := JR.rf (hO0.fr hJ.2 hD)
  refine aw_aload_n X dX1_copyFrom_152 rfl ?_
  refine aw_aload_n X dX1_copyFrom_153 rfl ?_
  refine aw_jget X hO f_X1_58 rfl dX1_copyFrom_154 ?_
  refine aw_jput X hJ 10 (by decide) (by decide) 8 rfl f_X1_58 (fun h => absurd h (by decide)) dX1_copyFrom_157 (fun μ z_19 ez_19 hJ => ?_)
  have hO := JR.rf (hO0.fr hJ.2 hD)
  refine aw_aload_n X dX1_copyFrom_160 rfl ?_
  refine aw_aload_n X dX1_copyFrom_161 rfl ?_
  refine aw_jget X hO f_X1_61 rfl dX1_copyFrom_162 ?_
  refine aw_jput X hJ 11 (by decide) (by decide) 9 rfl f_X1_61 (fun h => absurd h (by decide)) dX1_copyFrom_165 (fun μ z_20 ez_20 hJ => ?_)
  have hO := JR.rf (hO0.fr hJ.2 hD)
  refine aw_aload_n X dX1_copyFrom_168 rfl ?_
  refine aw_aload_n X dX1_copyFrom_169 rfl ?_
  refine aw_jget X hO f_X1_64 rfl dX1_copyFrom_170 ?_
  refine aw_jput X hJ 12 (by decide) (by decide) 10 rfl f_X1_64 (fun h => absurd h (by decide)) dX1_copyFrom_173 (fun μ z_21 ez_21 hJ => ?_)
  have hO := JR.rf (hO0.fr hJ.2 hD)
  refine aw_aload_n X dX1_copyFrom_176 rfl ?_
  refine aw_aload_n X dX1_copyFrom_177 rfl ?_
  refine aw_jget X hO f_X1_67 rfl dX1_copyFrom_178 ?_
  refine aw_jput X hJ 13 (by decide) (by decide) 11 rfl f_X1_67 (fun h => absurd h (by decide)) dX1_copyFrom_181 (fun μ z_22 ez_22 hJ => ?_)
  have hO := JR.rf (hO0.fr hJ.2 hD)
  exact aw_vret X hQ dX1_copyFrom_184 ⟨rfl, hJ.congr (by
    subst ez_1 ez_2 ez_3 ez_4 ez_5 ez_6 ez_7 ez_8 ez_9 ez_10 ez_11 ez_12 ez_13 ez_14 ez_15 ez_16 ez_17 ez_18 ez_19 ez_20 ez_21 ez_22; intro k hk
    exact (Ag.n.c.c.c.c.H.H.H.H.T.T.T.T.T.T.u.u.u.u.u.u.u.u) k (by simp only [hz, tz]; omega))⟩
