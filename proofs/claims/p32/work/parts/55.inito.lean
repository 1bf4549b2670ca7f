/-! jetties that are made, one after the other -/
def JB (U : xU) (μ0 β : xH) (J : List Nat) (shs : Nat → Nat → Nat) : Prop :=
  (∀ (r a : Nat), J[r]? = some a → JRep U β (shs r) zI ∧ a = shs r 0) ∧ (∀ r s n k, r < J.length → s < J.length → n < 23 → k < 23 → shs r n = shs s k → r = s) ∧ (∀ r n, r < J.length → n < 23 → μ0 (shs r n) = none) ∧ ∀ q, (∀ r n, r < J.length → n < 23 → q ≠ shs r n) → β q = μ0 q
theorem JB.nil {U : xU} {μ : xH} : JB U μ μ [] (fun _ n => n) := ⟨fun r a h => by simp at h, fun r s n k h => by simp at h, fun r n h => by simp at h, fun _ _ => rfl⟩
theorem JB.som {U : xU} {μ0 β : xH} {J : List Nat} {shs : Nat → Nat → Nat} (h : JB U μ0 β J shs) {r n : Nat} (hr : r < J.length) (hn : n < 23) : ∃ e, β (shs r n) = some e := by
  obtain ⟨x, hx, -⟩ := (h.1 r _ (List.getElem?_eq_getElem hr)).1.2.2 n hn
  exact ⟨x, hx⟩
theorem JB.nA {U : xU} {μ0 β μ : xH} {J A : List Nat} {E : List va_E} {shs : Nat → Nat → Nat} {a0 : Nat} {e0 : va_E} (h : JB U μ0 β J shs) (hG : GH β μ A E) (h0 : A[0]? = some a0) (hr0 : μ0 a0 = some e0) {r n : Nat} (hr : r < J.length) (hn : n < 23) : shs r n ∉ A := fun hm => by
  obtain ⟨i, hi⟩ := List.mem_iff_getElem?.mp hm
  obtain ⟨e, he⟩ := h.som hr hn
  cases i with
  | zero =>
    rw [h0] at hi
    cases hi
    rw [h.2.2.1 r n hr hn] at hr0
    cases hr0
  | succ i =>
    rw [hG.2.2.2.2 _ _ hi (by omega)] at he
    cases he
theorem JB.new {U : xU} {μ0 β μ μ1 : xH} {J A : List Nat} {E : List va_E} {shs : Nat → Nat → Nat} {a0 : Nat} {e0 : va_E} (h : JB U μ0 β J shs) (hG : GH β μ A E) (h0 : A[0]? = some a0) (hr0 : μ0 a0 = some e0) {sh : Nat → Nat} (hn : ∀ n, n < 23 → μ (sh n) = none) (hJ : JRep U μ1 sh zI) (hf : ∀ q, (∀ n, n < 23 → q ≠ sh n) → μ1 q = μ q) : ∃ (β' : xH) (shs' : Nat → Nat → Nat), GH β' μ1 A E ∧ JB U μ0 β' (J ++ [sh 0]) shs' := by
  obtain ⟨β', hb1, hb2⟩ : ∃ β' : xH, (∀ n, n < 23 → β' (sh n) = μ1 (sh n)) ∧ (∀ q, (∀ n, n < 23 → q ≠ sh n) → β' q = β q) :=
    ⟨fun q => @ite _ (∃ n, n < 23 ∧ q = sh n) (Classical.propDecidable _) (μ1 q) (β q), fun n hn => if_pos ⟨n, hn, rfl⟩, fun q hq => if_neg (fun ⟨n, hn, e⟩ => hq n hn e)⟩
  obtain ⟨shs', es⟩ : ∃ w : Nat → Nat → Nat, w = fun r => if r = J.length then sh else shs r := ⟨_, rfl⟩
  have es1 : shs' J.length = sh := by rw [es]; exact if_pos rfl
  have es2 : ∀ r, r < J.length → shs' r = shs r := fun r hr => by rw [es]; exact if_neg (by omega)
  have hA : ∀ n, n < 23 → sh n ∉ A := fun n hn' => hG.not (hn n hn')
  have hS : ∀ r n k, r < J.length → n < 23 → k < 23 → shs r n ≠ sh k := fun r n k hr hn' hk e => by
    obtain ⟨x, hx⟩ := h.som hr hn'
    rw [← hG.2.2.2.1 _ (h.nA hG h0 hr0 hr hn'), e, hn k hk] at hx
    cases hx
  refine ⟨β', shs', ⟨hG.1, fun i a e ha he => ?_, hG.2.2.1, fun q hq => ?_, fun i a ha hi => ?_⟩, fun r a hr => ?_, fun r s n k hr hs hn' hk e => ?_, fun r n hr hn' => ?_, fun q hq => ?_⟩
  · rw [hf a (fun n hn' e2 => hA n hn' (by rw [← e2]; exact List.mem_of_getElem? ha))]
    exact hG.2.1 i a e ha he
  · by_cases hx : ∃ n, n < 23 ∧ q = sh n
    · obtain ⟨n, hn', e⟩ := hx
      rw [e, hb1 n hn']
    · have hx' : ∀ n, n < 23 → q ≠ sh n := fun n hn' e => hx ⟨n, hn', e⟩
      rw [hf q hx', hb2 q hx']
      exact hG.2.2.2.1 q hq
  · rw [hb2 a (fun n hn' e2 => hA n hn' (by rw [← e2]; exact List.mem_of_getElem? ha))]
    exact hG.2.2.2.2 i a ha hi
  · by_cases hl : r < J.length
    · rw [List.getElem?_append_left hl] at hr
      obtain ⟨g1, g2⟩ := h.1 r a hr
      rw [es2 r hl]
      refine ⟨⟨g1.1, g1.2.1, fun n hn' => ?_⟩, g2⟩
      obtain ⟨x, hx1, hx2⟩ := g1.2.2 n hn'
      exact ⟨x, by rw [hb2 _ (fun k hk => hS r n k hl hn' hk)]; exact hx1, hx2⟩
    · have e : r = J.length := by
        have := (List.getElem?_eq_some_iff.mp hr).1
        simp at this
        omega
      subst e
      simp at hr
      rw [es1]
      refine ⟨⟨hJ.1, hJ.2.1, fun n hn' => ?_⟩, hr.symm⟩
      obtain ⟨x, hx1, hx2⟩ := hJ.2.2 n hn'
      exact ⟨x, by rw [hb1 n hn']; exact hx1, hx2⟩
  · simp at hr hs
    by_cases h1 : r < J.length
    · rw [es2 r h1] at e
      by_cases h2 : s < J.length
      · rw [es2 s h2] at e
        exact h.2.1 r s n k h1 h2 hn' hk e
      · obtain rfl : s = J.length := by omega
        rw [es1] at e
        exact (hS r n k h1 hn' hk e).elim
    · obtain rfl : r = J.length := by omega
      rw [es1] at e
      by_cases h2 : s < J.length
      · rw [es2 s h2] at e
        exact (hS s k n h2 hk hn' e.symm).elim
      · omega
  · simp at hr
    by_cases h1 : r < J.length
    · rw [es2 r h1]; exact h.2.2.1 r n h1 hn'
    · obtain rfl : r = J.length := by omega
      rw [es1]
      have e1 : β (sh n) = none := by rw [← hG.2.2.2.1 _ (hA n hn')]; exact hn n hn'
      rw [← h.2.2.2 (sh n) (fun r k hr hk e => (hS r k n hr hk hn') e.symm)]
      exact e1
  · have h1 : ∀ n, n < 23 → q ≠ sh n := fun n hn' e => hq J.length n (by simp) hn' (by rw [es1]; exact e)
    rw [hb2 q h1]
    exact h.2.2.2 q (fun r n hr hn' e => hq r n (by simp; omega) hn' (by rw [es2 r hr]; exact e))
section XNEW
variable {U : xU} {K : xK} {cc : ByteArray} {nL cells slots : Nat} {ret : Option FieldType} {rm : Room} {Q : State → Prop} {μ0 β μ : xH} {J A : List Nat} {E : List va_E} {shs : Nat → Nat → Nat} {pc index : Nat} {ls : List (Option Value)} {st : List Value}
theorem aw_xnew (X : Cx U K yX4_init cc nL ret rm) (hG : GH β μ A E) (hB : JB U μ0 β J shs) {a0 : Nat} {e0 : va_E} (h0 : A[0]? = some a0) (hr0 : μ0 a0 = some e0) (hd1 : decode cc pc = .ok (.new 7, 3)) (hd2 : decode cc (pc + 3) = .ok (.dup, 1)) (hd3 : decode cc (pc + 4) = .ok (.invokespecial 9, 3)) (hc : cells + 23 ≤ rm.cells ∧ slots + 106 ≤ rm.slots) (hrm : 3 ≤ rm.frames ∧ 61 ≤ rm.locals) (hst : (st.map fun v => v.category).sum ≤ 6) (kk : ∀ (q : Nat) (μ' β' : xH) (shs' : Nat → Nat → Nat), GH β' μ' A E → JB U μ0 β' (J ++ [q]) shs' → AW U K nL (cells + 1 + 22) (slots + 14 + 92) Q μ' (pc + 7) ls (.ref q :: st)) : AW U K nL cells slots Q μ pc ls st := by
  refine aw_new X (ci := 1) (N := 14) (fs := [.null, .null, .null, .null, .null, .null, .int 0, .int 0, .int 0, .int 0, .int 0, .int 0, .int 0, .int 0]) rfl e_X4_7 i_X1 k_X1_init.2.1 tyX1 tyX1_ok df_X1 ⟨by omega, by omega⟩ hd1 (fun q hq => ?_)
  refine aw_dup X hd2 rfl ?_
  refine aw_cI (As := []) X (c_X1_init (kl K) U _ q xup_s) s_X4_9 k_X1_init ⟨by show 2 + 1 ≤ _; omega, by show 8 + (2 + 11) + 40 ≤ _; omega⟩ (by rw [X.2.2.2.2.2.2.2.1]; exact ⟨by show cells + 1 + 22 ≤ _; omega, by show slots + 14 + 92 ≤ _; omega⟩) rfl (by rw [List.map_cons, List.sum_cons, show (Value.ref q).category = 1 from rfl]; omega) hd3 (fun v μ1 hp => ?_)
  obtain ⟨rfl, sh, e0', hJ, hn, hf⟩ := hp
  have hn' : ∀ n, n < 23 → μ (sh n) = none := fun n hn1 => by
    by_cases hz : n = 0
    · rw [hz, e0']; exact hq
    · have h1 := hn n (by omega) hn1
      by_cases hq2 : sh n = q
      · rw [hq2]; exact hq
      · rw [xup_n hq2] at h1; exact h1
  have hf' : ∀ r, (∀ n, n < 23 → r ≠ sh n) → μ1 r = μ r := fun r hr => by
    rw [hf r hr, xup_n (by rw [← e0']; exact hr 0 (by decide))]
  obtain ⟨β', shs', g1, g2⟩ := hB.new hG h0 hr0 hn' hJ hf'
  rw [e0'] at g2
  exact kk q μ1 β' shs' g1 g2
theorem aw_xast (X : Cx U K yX4_init cc nL ret rm) (hG : GH β μ A E) (hB : JB U μ0 β J shs) {a0 : Nat} {e0 : va_E} (h0 : A[0]? = some a0) (hr0 : μ0 a0 = some e0) (i r : Nat) {a v n : Nat} {f : Nat → Option Nat} {x : Int32} (m : Nat) (ha : A[i]? = some a) (he : E[i]? = some (.inl (uC U 5, n, .inr (.inr (.inr (.inr f)))))) (hv : J[r]? = some v) (hin : vp_in x n) (hm : x.toNatClampNeg = m) (hdg : decode cc pc = .ok (.aastore, 1)) (kk : ∀ μ' : xH, GH β μ' A (E.set i (.inl (uC U 5, n, .inr (.inr (.inr (.inr (va_up f m (some v)))))))) → AW U K nL cells slots Q μ' (pc + 1) ls st) : AW U K nL cells slots Q μ pc ls (.ref v :: .int x :: .ref a :: st) := by
  subst hm
  obtain ⟨g1, rfl⟩ := hB.1 r v hv
  have hr : r < J.length := (List.getElem?_eq_some_iff.mp hv).1
  have e1 := hG.2.2.2.1 _ (hB.nA hG h0 hr0 hr (by decide : 0 < 23))
  have e2 := (JR.rf g1).g0
  rw [← e1] at e2
  exact aw_aast X (t0 := 5) (r := (RX1, TX1, 14)) rfl (hG.2.1 i _ _ ha he) e2 rfl hin hdg (kk _ (hG.put ha))
end XNEW
/-- a new outer object: its cells, and the jetties beside them -/
def ONew (U : xU) (μ0 μ : xH) (a : Nat) : Prop := ∃ (β : xH) (shs : Nat → Nat → Nat) (q1 q2 q3 q4 q5 q6 : Nat) (j0 j1 j2 j3 j4 j5 j6 j7 j8 j9 j10 : Nat),
  GH β μ [a, q1, q2, q3, q4, q5, q6] [.inr (4, [.ref j0, .ref j1, .ref q1, .ref q4, .int 0, .ref j2, .ref q5, .ref q6]), .inr (2, [.ref q2, .int 0, .int 0, .int 0, .int 0, .int 0, .int 0, .ref q3]), .inl (uC U 2, 60, .inl (fun _ => 0)), .inl (uC U 0, 4, .inl (fun _ => 0)), .inl (uC U 5, 6, .inr (.inr (.inr (.inr (va_up (va_up (va_up (va_up (va_up (va_up (fun _ => none) 0 (some j3)) 1 (some j4)) 2 (some j5)) 3 (some j6)) 4 (some j7)) 5 (some j8)))))), .inl (uC U 5, 2, .inr (.inr (.inr (.inr (va_up (va_up (fun _ => none) 0 (some j9)) 1 (some j10)))))), .inl (uC U 1, 2, .inl (fun _ => 0))] ∧ JB U μ0 β [j0, j1, j2, j3, j4, j5, j6, j7, j8, j9, j10] shs
set_option maxHeartbeats 4000000 in
set_option maxRecDepth 100000 in
theorem c_X4_init (l : Launch) (U : xU) (μ0 : xH) (a : Nat) (h0 : μ0 a = some (.inr (4, [.null, .null, .null, .null, .int 0, .null, .null, .null]))) : Ct l U yX4_init cX4_init 2 none ({ frames := 3, cells := 259, slots := 1248, locals := 61 } : Room) [.ref a] μ0 (fun v μ => v = none ∧ ONew U μ0 μ a) := by
  refine Ct.of [some (.ref a), none] (by decide +kernel) rfl (Nat.le_of_ble_eq_true rfl) (fun K Q X hnm hQ => ?_)
  obtain ⟨μ, β, shs, hμ, hG, hB⟩ : ∃ (μ β : xH) (shs : Nat → Nat → Nat), μ0 = μ ∧ GH β μ [a] [.inr (4, [.null, .null, .null, .null, .int 0, .null, .null, .null])] ∧ JB U μ0 β [] shs := ⟨μ0, μ0, _, rfl, GH.one h0, JB.nil⟩
  refine aw_mu hμ ?_
  refine aw_aload_n X dX4_init_0 rfl ?_
  refine aw_obj X l_X4_1 (by exact ⟨by decide, Nat.le_of_ble_eq_true rfl⟩) dX4_init_1 ?_
  refine aw_aload_n X dX4_init_4 rfl ?_
  refine aw_xnew X hG hB rfl h0 dX4_init_5 dX4_init_8 dX4_init_9 (by exact ⟨Nat.le_of_ble_eq_true rfl, Nat.le_of_ble_eq_true rfl⟩) (by exact ⟨Nat.le_of_ble_eq_true rfl, Nat.le_of_ble_eq_true rfl⟩) (by exact Nat.le_of_ble_eq_true rfl) (fun j0 μ β shs hG hB => ?_)
  have hB : JB U μ0 β [j0] shs := hB
  have hG : GH β μ [a] [.inr (4, [.null, .null, .null, .null, .int 0, .null, .null, .null])] := hG
  refine aw_gputF X hnm hG 0 (.object RX1) rfl rfl rfl f_X4_10 rfl (by decide +kernel) ⟨rfl, rfl⟩ (by exact Nat.le_of_ble_eq_true rfl) dX4_init_12 (fun μ hG => ?_)
  have hG : GH β μ [a] [.inr (4, [.ref j0, .null, .null, .null, .int 0, .null, .null, .null])] := hG
  refine aw_aload_n X dX4_init_15 rfl ?_
  refine aw_xnew X hG hB rfl h0 dX4_init_16 dX4_init_19 dX4_init_20 (by exact ⟨Nat.le_of_ble_eq_true rfl, Nat.le_of_ble_eq_true rfl⟩) (by exact ⟨Nat.le_of_ble_eq_true rfl, Nat.le_of_ble_eq_true rfl⟩) (by exact Nat.le_of_ble_eq_true rfl) (fun j1 μ β shs hG hB => ?_)
  have hB : JB U μ0 β [j0, j1] shs := hB
  have hG : GH β μ [a] [.inr (4, [.ref j0, .null, .null, .null, .int 0, .null, .null, .null])] := hG
  refine aw_gputF X hnm hG 0 (.object RX1) rfl rfl rfl f_X4_16 rfl (by decide +kernel) ⟨rfl, rfl⟩ (by exact Nat.le_of_ble_eq_true rfl) dX4_init_23 (fun μ hG => ?_)
  have hG : GH β μ [a] [.inr (4, [.ref j0, .ref j1, .null, .null, .int 0, .null, .null, .null])] := hG
  refine aw_aload_n X dX4_init_26 rfl ?_
  refine aw_gnew X hG (ci := 2) (N := 8) (fs := [.null, .int 0, .int 0, .int 0, .int 0, .int 0, .int 0, .null]) rfl e_X4_19 i_X2 k_X2_init.2.1 tyX2 tyX2_ok df_X2 (by exact ⟨Nat.le_of_ble_eq_true rfl, Nat.le_of_ble_eq_true rfl⟩) dX4_init_27 (fun q1 μ hG => ?_)
  have hG : GH β μ [a, q1] [.inr (4, [.ref j0, .ref j1, .null, .null, .int 0, .null, .null, .null]), .inr (2, [.null, .int 0, .int 0, .int 0, .int 0, .int 0, .int 0, .null])] := hG
  refine aw_dup X dX4_init_30 rfl ?_
  refine aw_cIN (As := []) X (c_X2_init (kl K) U _ q1 (hG.2.1 1 _ _ rfl rfl)) s_X4_21 k_X2_init (by decide) (by rw [X.2.2.2.2.2.2.2.1]; exact ⟨Nat.le_of_ble_eq_true rfl, Nat.le_of_ble_eq_true rfl⟩) rfl (by exact Nat.le_of_ble_eq_true rfl) dX4_init_31 (fun v μ hp => ?_)
  obtain ⟨rfl, q2, q3, hp⟩ := hp
  have hG := hG.app (i := 1) rfl hp
  have hG : GH β μ [a, q1, q2, q3] [.inr (4, [.ref j0, .ref j1, .null, .null, .int 0, .null, .null, .null]), .inr (2, [.ref q2, .int 0, .int 0, .int 0, .int 0, .int 0, .int 0, .ref q3]), .inl (uC U 2, 60, .inl (fun _ => 0)), .inl (uC U 0, 4, .inl (fun _ => 0))] := hG
  refine aw_gputF X hnm hG 0 (.object RX2) rfl rfl rfl f_X4_22 rfl (by decide +kernel) ⟨rfl, rfl⟩ (by exact Nat.le_of_ble_eq_true rfl) dX4_init_34 (fun μ hG => ?_)
  have hG : GH β μ [a, q1, q2, q3] [.inr (4, [.ref j0, .ref j1, .ref q1, .null, .int 0, .null, .null, .null]), .inr (2, [.ref q2, .int 0, .int 0, .int 0, .int 0, .int 0, .int 0, .ref q3]), .inl (uC U 2, 60, .inl (fun _ => 0)), .inl (uC U 0, 4, .inl (fun _ => 0))] := hG
  refine aw_aload_n X dX4_init_37 rfl ?_
  refine aw_bipush X (6) dX4_init_38 rfl ?_
  refine aw_gnewq X hG (t0 := 5) e_X4_7 (X.2.2.2.2.2.2.2.2.1.2.2.2.1.2.2) rfl 6 (by decide) rfl (by exact Nat.le_of_ble_eq_true rfl) (by exact ⟨Nat.le_of_ble_eq_true rfl, Nat.le_of_ble_eq_true rfl⟩) dX4_init_40 (fun q4 μ hG => ?_)
  have hG : GH β μ [a, q1, q2, q3, q4] [.inr (4, [.ref j0, .ref j1, .ref q1, .null, .int 0, .null, .null, .null]), .inr (2, [.ref q2, .int 0, .int 0, .int 0, .int 0, .int 0, .int 0, .ref q3]), .inl (uC U 2, 60, .inl (fun _ => 0)), .inl (uC U 0, 4, .inl (fun _ => 0)), .inl (uC U 5, 6, .inr (.inr (.inr (.inr (fun _ => none)))))] := hG
  refine aw_gputF X hnm hG 0 (.array (.object RX1)) rfl rfl rfl f_X4_26 rfl (by decide +kernel) ⟨rfl, rfl⟩ (by exact Nat.le_of_ble_eq_true rfl) dX4_init_43 (fun μ hG => ?_)
  have hG : GH β μ [a, q1, q2, q3, q4] [.inr (4, [.ref j0, .ref j1, .ref q1, .ref q4, .int 0, .null, .null, .null]), .inr (2, [.ref q2, .int 0, .int 0, .int 0, .int 0, .int 0, .int 0, .ref q3]), .inl (uC U 2, 60, .inl (fun _ => 0)), .inl (uC U 0, 4, .inl (fun _ => 0)), .inl (uC U 5, 6, .inr (.inr (.inr (.inr (fun _ => none)))))] := hG
  refine aw_aload_n X dX4_init_46 rfl ?_
  refine aw_iconst X (0) dX4_init_47 rfl ?_
  refine aw_gput X hG 0 .int rfl rfl f_X4_30 rfl (by decide +kernel) xfit_i (by exact Nat.le_of_ble_eq_true rfl) dX4_init_48 (fun μ hG => ?_)
  have hG : GH β μ [a, q1, q2, q3, q4] [.inr (4, [.ref j0, .ref j1, .ref q1, .ref q4, .int 0, .null, .null, .null]), .inr (2, [.ref q2, .int 0, .int 0, .int 0, .int 0, .int 0, .int 0, .ref q3]), .inl (uC U 2, 60, .inl (fun _ => 0)), .inl (uC U 0, 4, .inl (fun _ => 0)), .inl (uC U 5, 6, .inr (.inr (.inr (.inr (fun _ => none)))))] := hG
  refine aw_aload_n X dX4_init_51 rfl ?_
  refine aw_xnew X hG hB rfl h0 dX4_init_52 dX4_init_55 dX4_init_56 (by exact ⟨Nat.le_of_ble_eq_true rfl, Nat.le_of_ble_eq_true rfl⟩) (by exact ⟨Nat.le_of_ble_eq_true rfl, Nat.le_of_ble_eq_true rfl⟩) (by exact Nat.le_of_ble_eq_true rfl) (fun j2 μ β shs hG hB => ?_)
  have hB : JB U μ0 β [j0, j1, j2] shs := hB
  have hG : GH β μ [a, q1, q2, q3, q4] [.inr (4, [.ref j0, .ref j1, .ref q1, .ref q4, .int 0, .null, .null, .null]), .inr (2, [.ref q2, .int 0, .int 0, .int 0, .int 0, .int 0, .int 0, .ref q3]), .inl (uC U 2, 60, .inl (fun _ => 0)), .inl (uC U 0, 4, .inl (fun _ => 0)), .inl (uC U 5, 6, .inr (.inr (.inr (.inr (fun _ => none)))))] := hG
  refine aw_gput X hG 0 (.object RX1) rfl rfl f_X4_34 rfl (by decide +kernel) ⟨rfl, rfl⟩ (by exact Nat.le_of_ble_eq_true rfl) dX4_init_59 (fun μ hG => ?_)
  have hG : GH β μ [a, q1, q2, q3, q4] [.inr (4, [.ref j0, .ref j1, .ref q1, .ref q4, .int 0, .ref j2, .null, .null]), .inr (2, [.ref q2, .int 0, .int 0, .int 0, .int 0, .int 0, .int 0, .ref q3]), .inl (uC U 2, 60, .inl (fun _ => 0)), .inl (uC U 0, 4, .inl (fun _ => 0)), .inl (uC U 5, 6, .inr (.inr (.inr (.inr (fun _ => none)))))] := hG
  refine aw_aload_n X dX4_init_62 rfl ?_
  refine aw_iconst X (2) dX4_init_63 rfl ?_
  refine aw_gnewq X hG (t0 := 5) e_X4_7 (X.2.2.2.2.2.2.2.2.1.2.2.2.1.2.2) rfl 2 (by decide) rfl (by exact Nat.le_of_ble_eq_true rfl) (by exact ⟨Nat.le_of_ble_eq_true rfl, Nat.le_of_ble_eq_true rfl⟩) dX4_init_64 (fun q5 μ hG => ?_)
  have hG : GH β μ [a, q1, q2, q3, q4, q5] [.inr (4, [.ref j0, .ref j1, .ref q1, .ref q4, .int 0, .ref j2, .null, .null]), .inr (2, [.ref q2, .int 0, .int 0, .int 0, .int 0, .int 0, .int 0, .ref q3]), .inl (uC U 2, 60, .inl (fun _ => 0)), .inl (uC U 0, 4, .inl (fun _ => 0)), .inl (uC U 5, 6, .inr (.inr (.inr (.inr (fun _ => none))))), .inl (uC U 5, 2, .inr (.inr (.inr (.inr (fun _ => none)))))] := hG
  refine aw_gputF X hnm hG 0 (.array (.object RX1)) rfl rfl rfl f_X4_37 rfl (by decide +kernel) ⟨rfl, rfl⟩ (by exact Nat.le_of_ble_eq_true rfl) dX4_init_67 (fun μ hG => ?_)
  have hG : GH β μ [a, q1, q2, q3, q4, q5] [.inr (4, [.ref j0, .ref j1, .ref q1, .ref q4, .int 0, .ref j2, .ref q5, .null]), .inr (2, [.ref q2, .int 0, .int 0, .int 0, .int 0, .int 0, .int 0, .ref q3]), .inl (uC U 2, 60, .inl (fun _ => 0)), .inl (uC U 0, 4, .inl (fun _ => 0)), .inl (uC U 5, 6, .inr (.inr (.inr (.inr (fun _ => none))))), .inl (uC U 5, 2, .inr (.inr (.inr (.inr (fun _ => none)))))] := hG
  refine aw_aload_n X dX4_init_70 rfl ?_
  refine aw_iconst X (2) dX4_init_71 rfl ?_
  refine aw_gnewa X hG (ty := .boolean) (t0 := 1) ac_boolean rfl rfl 2 rfl (by decide) rfl (by exact Nat.le_of_ble_eq_true rfl) (by exact ⟨Nat.le_of_ble_eq_true rfl, Nat.le_of_ble_eq_true rfl⟩) dX4_init_72 (fun q6 μ hG => ?_)
  have hG : GH β μ [a, q1, q2, q3, q4, q5, q6] [.inr (4, [.ref j0, .ref j1, .ref q1, .ref q4, .int 0, .ref j2, .ref q5, .null]), .inr (2, [.ref q2, .int 0, .int 0, .int 0, .int 0, .int 0, .int 0, .ref q3]), .inl (uC U 2, 60, .inl (fun _ => 0)), .inl (uC U 0, 4, .inl (fun _ => 0)), .inl (uC U 5, 6, .inr (.inr (.inr (.inr (fun _ => none))))), .inl (uC U 5, 2, .inr (.inr (.inr (.inr (fun _ => none))))), .inl (uC U 1, 2, .inl (fun _ => 0))] := hG
  refine aw_gputF X hnm hG 0 (.array .boolean) rfl rfl rfl f_X4_40 rfl (by decide +kernel) ⟨rfl, rfl⟩ (by exact Nat.le_of_ble_eq_true rfl) dX4_init_74 (fun μ hG => ?_)
  have hG : GH β μ [a, q1, q2, q3, q4, q5, q6] [.inr (4, [.ref j0, .ref j1, .ref q1, .ref q4, .int 0, .ref j2, .ref q5, .ref q6]), .inr (2, [.ref q2, .int 0, .int 0, .int 0, .int 0, .int 0, .int 0, .ref q3]), .inl (uC U 2, 60, .inl (fun _ => 0)), .inl (uC U 0, 4, .inl (fun _ => 0)), .inl (uC U 5, 6, .inr (.inr (.inr (.inr (fun _ => none))))), .inl (uC U 5, 2, .inr (.inr (.inr (.inr (fun _ => none))))), .inl (uC U 1, 2, .inl (fun _ => 0))] := hG
  refine aw_iconst X (0) dX4_init_77 rfl ?_
  refine aw_istore_n X dX4_init_78 rfl (by decide) ?_
  refine aw_iload_n X dX4_init_79 rfl ?_
  refine aw_bipush X (6) dX4_init_80 rfl ?_
  refine aw_icmp_ge_f (tgt := 104) X dX4_init_82 (by decide) (by decide) ?_
  refine aw_aload_n X dX4_init_85 rfl ?_
  refine aw_gget X hG 0 rfl rfl f_X4_26 rfl dX4_init_86 ?_
  refine aw_iload_n X dX4_init_89 rfl ?_
  refine aw_xnew X hG hB rfl h0 dX4_init_90 dX4_init_93 dX4_init_94 (by exact ⟨Nat.le_of_ble_eq_true rfl, Nat.le_of_ble_eq_true rfl⟩) (by exact ⟨Nat.le_of_ble_eq_true rfl, Nat.le_of_ble_eq_true rfl⟩) (by exact Nat.le_of_ble_eq_true rfl) (fun j3 μ β shs hG hB => ?_)
  have hB : JB U μ0 β [j0, j1, j2, j3] shs := hB
  have hG : GH β μ [a, q1, q2, q3, q4, q5, q6] [.inr (4, [.ref j0, .ref j1, .ref q1, .ref q4, .int 0, .ref j2, .ref q5, .ref q6]), .inr (2, [.ref q2, .int 0, .int 0, .int 0, .int 0, .int 0, .int 0, .ref q3]), .inl (uC U 2, 60, .inl (fun _ => 0)), .inl (uC U 0, 4, .inl (fun _ => 0)), .inl (uC U 5, 6, .inr (.inr (.inr (.inr (fun _ => none))))), .inl (uC U 5, 2, .inr (.inr (.inr (.inr (fun _ => none))))), .inl (uC U 1, 2, .inl (fun _ => 0))] := hG
  refine aw_xast X hG hB rfl h0 4 3 0 rfl rfl rfl (xin_d rfl) rfl dX4_init_97 (fun μ hG => ?_)
  have hG : GH β μ [a, q1, q2, q3, q4, q5, q6] [.inr (4, [.ref j0, .ref j1, .ref q1, .ref q4, .int 0, .ref j2, .ref q5, .ref q6]), .inr (2, [.ref q2, .int 0, .int 0, .int 0, .int 0, .int 0, .int 0, .ref q3]), .inl (uC U 2, 60, .inl (fun _ => 0)), .inl (uC U 0, 4, .inl (fun _ => 0)), .inl (uC U 5, 6, .inr (.inr (.inr (.inr (va_up (fun _ => none) 0 (some j3)))))), .inl (uC U 5, 2, .inr (.inr (.inr (.inr (fun _ => none))))), .inl (uC U 1, 2, .inl (fun _ => 0))] := hG
  refine aw_iinc X (1) dX4_init_98 rfl rfl rfl (by decide) ?_
  refine aw_goto (tgt := 79) X dX4_init_101 (by decide) ?_
  refine aw_iload_n X dX4_init_79 rfl ?_
  refine aw_bipush X (6) dX4_init_80 rfl ?_
  refine aw_icmp_ge_f (tgt := 104) X dX4_init_82 (by decide) (by decide) ?_
  refine aw_aload_n X dX4_init_85 rfl ?_
  refine aw_gget X hG 0 rfl rfl f_X4_26 rfl dX4_init_86 ?_
  refine aw_iload_n X dX4_init_89 rfl ?_
  refine aw_xnew X hG hB rfl h0 dX4_init_90 dX4_init_93 dX4_init_94 (by exact ⟨Nat.le_of_ble_eq_true rfl, Nat.le_of_ble_eq_true rfl⟩) (by exact ⟨Nat.le_of_ble_eq_true rfl, Nat.le_of_ble_eq_true rfl⟩) (by exact Nat.le_of_ble_eq_true rfl) (fun j4 μ β shs hG hB => ?_)
  have hB : JB U μ0 β [j0, j1, j2, j3, j4] shs := hB
  have hG : GH β μ [a, q1, q2, q3, q4, q5, q6] [.inr (4, [.ref j0, .ref j1, .ref q1, .ref q4, .int 0, .ref j2, .ref q5, .ref q6]), .inr (2, [.ref q2, .int 0, .int 0, .int 0, .int 0, .int 0, .int 0, .ref q3]), .inl (uC U 2, 60, .inl (fun _ => 0)), .inl (uC U 0, 4, .inl (fun _ => 0)), .inl (uC U 5, 6, .inr (.inr (.inr (.inr (va_up (fun _ => none) 0 (some j3)))))), .inl (uC U 5, 2, .inr (.inr (.inr (.inr (fun _ => none))))), .inl (uC U 1, 2, .inl (fun _ => 0))] := hG
  refine aw_xast X hG hB rfl h0 4 4 1 rfl rfl rfl (xin_d rfl) rfl dX4_init_97 (fun μ hG => ?_)
  have hG : GH β μ [a, q1, q2, q3, q4, q5, q6] [.inr (4, [.ref j0, .ref j1, .ref q1, .ref q4, .int 0, .ref j2, .ref q5, .ref q6]), .inr (2, [.ref q2, .int 0, .int 0, .int 0, .int 0, .int 0, .int 0, .ref q3]), .inl (uC U 2, 60, .inl (fun _ => 0)), .inl (uC U 0, 4, .inl (fun _ => 0)), .inl (uC U 5, 6, .inr (.inr (.inr (.inr (va_up (va_up (fun _ => none) 0 (some j3)) 1 (some j4)))))), .inl (uC U 5, 2, .inr (.inr (.inr (.inr (fun _ => none))))), .inl (uC U 1, 2, .inl (fun _ => 0))] := hG
  refine aw_iinc X (1) dX4_init_98 rfl rfl rfl (by decide) ?_
  refine aw_goto (tgt := 79) X dX4_init_101 (by decide) ?_
  refine aw_iload_n X dX4_init_79 rfl ?_
  refine aw_bipush X (6) dX4_init_80 rfl ?_
  refine aw_icmp_ge_f (tgt := 104) X dX4_init_82 (by decide) (by decide) ?_
  refine aw_aload_n X dX4_init_85 rfl ?_
  refine aw_gget X hG 0 rfl rfl f_X4_26 rfl dX4_init_86 ?_
  refine aw_iload_n X dX4_init_89 rfl ?_
  refine aw_xnew X hG hB rfl h0 dX4_init_90 dX4_init_93 dX4_init_94 (by exact ⟨Nat.le_of_ble_eq_true rfl, Nat.le_of_ble_eq_true rfl⟩) (by exact ⟨Nat.le_of_ble_eq_true rfl, Nat.le_of_ble_eq_true rfl⟩) (by exact Nat.le_of_ble_eq_true rfl) (fun j5 μ β shs hG hB => ?_)
  have hB : JB U μ0 β [j0, j1, j2, j3, j4, j5] shs := hB
  have hG : GH β μ [a, q1, q2, q3, q4, q5, q6] [.inr (4, [.ref j0, .ref j1, .ref q1, .ref q4, .int 0, .ref j2, .ref q5, .ref q6]), .inr (2, [.ref q2, .int 0, .int 0, .int 0, .int 0, .int 0, .int 0, .ref q3]), .inl (uC U 2, 60, .inl (fun _ => 0)), .inl (uC U 0, 4, .inl (fun _ => 0)), .inl (uC U 5, 6, .inr (.inr (.inr (.inr (va_up (va_up (fun _ => none) 0 (some j3)) 1 (some j4)))))), .inl (uC U 5, 2, .inr (.inr (.inr (.inr (fun _ => none))))), .inl (uC U 1, 2, .inl (fun _ => 0))] := hG
  refine aw_xast X hG hB rfl h0 4 5 2 rfl rfl rfl (xin_d rfl) rfl dX4_init_97 (fun μ hG => ?_)
  have hG : GH β μ [a, q1, q2, q3, q4, q5, q6] [.inr (4, [.ref j0, .ref j1, .ref q1, .ref q4, .int 0, .ref j2, .ref q5, .ref q6]), .inr (2, [.ref q2, .int 0, .int 0, .int 0, .int 0, .int 0, .int 0, .ref q3]), .inl (uC U 2, 60, .inl (fun _ => 0)), .inl (uC U 0, 4, .inl (fun _ => 0)), .inl (uC U 5, 6, .inr (.inr (.inr (.inr (va_up (va_up (va_up (fun _ => none) 0 (some j3)) 1 (some j4)) 2 (some j5)))))), .inl (uC U 5, 2, .inr (.inr (.inr (.inr (fun _ => none))))), .inl (uC U 1, 2, .inl (fun _ => 0))] := hG
  refine aw_iinc X (1) dX4_init_98 rfl rfl rfl (by decide) ?_
  refine aw_goto (tgt := 79) X dX4_init_101 (by decide) ?_
  refine aw_iload_n X dX4_init_79 rfl ?_
  refine aw_bipush X (6) dX4_init_80 rfl ?_
  refine aw_icmp_ge_f (tgt := 104) X dX4_init_82 (by decide) (by decide) ?_
  refine aw_aload_n X dX4_init_85 rfl ?_
  refine aw_gget X hG 0 rfl rfl f_X4_26 rfl dX4_init_86 ?_
  refine aw_iload_n X dX4_init_89 rfl ?_
  refine aw_xnew X hG hB rfl h0 dX4_init_90 dX4_init_93 dX4_init_94 (by exact ⟨Nat.le_of_ble_eq_true rfl, Nat.le_of_ble_eq_true rfl⟩) (by exact ⟨Nat.le_of_ble_eq_true rfl, Nat.le_of_ble_eq_true rfl⟩) (by exact Nat.le_of_ble_eq_true rfl) (fun j6 μ β shs hG hB => ?_)
  have hB : JB U μ0 β [j0, j1, j2, j3, j4, j5, j6] shs := hB
  have hG : GH β μ [a, q1, q2, q3, q4, q5, q6] [.inr (4, [.ref j0, .ref j1, .ref q1, .ref q4, .int 0, .ref j2, .ref q5, .ref q6]), .inr (2, [.ref q2, .int 0, .int 0, .int 0, .int 0, .int 0, .int 0, .ref q3]), .inl (uC U 2, 60, .inl (fun _ => 0)), .inl (uC U 0, 4, .inl (fun _ => 0)), .inl (uC U 5, 6, .inr (.inr (.inr (.inr (va_up (va_up (va_up (fun _ => none) 0 (some j3)) 1 (some j4)) 2 (some j5)))))), .inl (uC U 5, 2, .inr (.inr (.inr (.inr (fun _ => none))))), .inl (uC U 1, 2, .inl (fun _ => 0))] := hG
  refine aw_xast X hG hB rfl h0 4 6 3 rfl rfl rfl (xin_d rfl) rfl dX4_init_97 (fun μ hG => ?_)
  have hG : GH β μ [a, q1, q2, q3, q4, q5, q6] [.inr (4, [.ref j0, .ref j1, .ref q1, .ref q4, .int 0, .ref j2, .ref q5, .ref q6]), .inr (2, [.ref q2, .int 0, .int 0, .int 0, .int 0, .int 0, .int 0, .ref q3]), .inl (uC U 2, 60, .inl (fun _ => 0)), .inl (uC U 0, 4, .inl (fun _ => 0)), .inl (uC U 5, 6, .inr (.inr (.inr (.inr (va_up (va_up (va_up (va_up (fun _ => none) 0 (some j3)) 1 (some j4)) 2 (some j5)) 3 (some j6)))))), .inl (uC U 5, 2, .inr (.inr (.inr (.inr (fun _ => none))))), .inl (uC U 1, 2, .inl (fun _ => 0))] := hG
  refine aw_iinc X (1) dX4_init_98 rfl rfl rfl (by decide) ?_
  refine aw_goto (tgt := 79) X dX4_init_101 (by decide) ?_
  refine aw_iload_n X dX4_init_79 rfl ?_
  refine aw_bipush X (6) dX4_init_80 rfl ?_
  refine aw_icmp_ge_f (tgt := 104) X dX4_init_82 (by decide) (by decide) ?_
  refine aw_aload_n X dX4_init_85 rfl ?_
  refine aw_gget X hG 0 rfl rfl f_X4_26 rfl dX4_init_86 ?_
  refine aw_iload_n X dX4_init_89 rfl ?_
  refine aw_xnew X hG hB rfl h0 dX4_init_90 dX4_init_93 dX4_init_94 (by exact ⟨Nat.le_of_ble_eq_true rfl, Nat.le_of_ble_eq_true rfl⟩) (by exact ⟨Nat.le_of_ble_eq_true rfl, Nat.le_of_ble_eq_true rfl⟩) (by exact Nat.le_of_ble_eq_true rfl) (fun j7 μ β shs hG hB => ?_)
  have hB : JB U μ0 β [j0, j1, j2, j3, j4, j5, j6, j7] shs := hB
  have hG : GH β μ [a, q1, q2, q3, q4, q5, q6] [.inr (4, [.ref j0, .ref j1, .ref q1, .ref q4, .int 0, .ref j2, .ref q5, .ref q6]), .inr (2, [.ref q2, .int 0, .int 0, .int 0, .int 0, .int 0, .int 0, .ref q3]), .inl (uC U 2, 60, .inl (fun _ => 0)), .inl (uC U 0, 4, .inl (fun _ => 0)), .inl (uC U 5, 6, .inr (.inr (.inr (.inr (va_up (va_up (va_up (va_up (fun _ => none) 0 (some j3)) 1 (some j4)) 2 (some j5)) 3 (some j6)))))), .inl (uC U 5, 2, .inr (.inr (.inr (.inr (fun _ => none))))), .inl (uC U 1, 2, .inl (fun _ => 0))] := hG
  refine aw_xast X hG hB rfl h0 4 7 4 rfl rfl rfl (xin_d rfl) rfl dX4_init_97 (fun μ hG => ?_)
  have hG : GH β μ [a, q1, q2, q3, q4, q5, q6] [.inr (4, [.ref j0, .ref j1, .ref q1, .ref q4, .int 0, .ref j2, .ref q5, .ref q6]), .inr (2, [.ref q2, .int 0, .int 0, .int 0, .int 0, .int 0, .int 0, .ref q3]), .inl (uC U 2, 60, .inl (fun _ => 0)), .inl (uC U 0, 4, .inl (fun _ => 0)), .inl (uC U 5, 6, .inr (.inr (.inr (.inr (va_up (va_up (va_up (va_up (va_up (fun _ => none) 0 (some j3)) 1 (some j4)) 2 (some j5)) 3 (some j6)) 4 (some j7)))))), .inl (uC U 5, 2, .inr (.inr (.inr (.inr (fun _ => none))))), .inl (uC U 1, 2, .inl (fun _ => 0))] := hG
  refine aw_iinc X (1) dX4_init_98 rfl rfl rfl (by decide) ?_
  refine aw_goto (tgt := 79) X dX4_init_101 (by decide) ?_
  refine aw_iload_n X dX4_init_79 rfl ?_
  refine aw_bipush X (6) dX4_init_80 rfl ?_
  refine aw_icmp_ge_f (tgt := 104) X dX4_init_82 (by decide) (by decide) ?_
  refine aw_aload_n X dX4_init_85 rfl ?_
  refine aw_gget X hG 0 rfl rfl f_X4_26 rfl dX4_init_86 ?_
  refine aw_iload_n X dX4_init_89 rfl ?_
  refine aw_xnew X hG hB rfl h0 dX4_init_90 dX4_init_93 dX4_init_94 (by exact ⟨Nat.le_of_ble_eq_true rfl, Nat.le_of_ble_eq_true rfl⟩) (by exact ⟨Nat.le_of_ble_eq_true rfl, Nat.le_of_ble_eq_true rfl⟩) (by exact Nat.le_of_ble_eq_true rfl) (fun j8 μ β shs hG hB => ?_)
  have hB : JB U μ0 β [j0, j1, j2, j3, j4, j5, j6, j7, j8] shs := hB
  have hG : GH β μ [a, q1, q2, q3, q4, q5, q6] [.inr (4, [.ref j0, .ref j1, .ref q1, .ref q4, .int 0, .ref j2, .ref q5, .ref q6]), .inr (2, [.ref q2, .int 0, .int 0, .int 0, .int 0, .int 0, .int 0, .ref q3]), .inl (uC U 2, 60, .inl (fun _ => 0)), .inl (uC U 0, 4, .inl (fun _ => 0)), .inl (uC U 5, 6, .inr (.inr (.inr (.inr (va_up (va_up (va_up (va_up (va_up (fun _ => none) 0 (some j3)) 1 (some j4)) 2 (some j5)) 3 (some j6)) 4 (some j7)))))), .inl (uC U 5, 2, .inr (.inr (.inr (.inr (fun _ => none))))), .inl (uC U 1, 2, .inl (fun _ => 0))] := hG
  refine aw_xast X hG hB rfl h0 4 8 5 rfl rfl rfl (xin_d rfl) rfl dX4_init_97 (fun μ hG => ?_)
  have hG : GH β μ [a, q1, q2, q3, q4, q5, q6] [.inr (4, [.ref j0, .ref j1, .ref q1, .ref q4, .int 0, .ref j2, .ref q5, .ref q6]), .inr (2, [.ref q2, .int 0, .int 0, .int 0, .int 0, .int 0, .int 0, .ref q3]), .inl (uC U 2, 60, .inl (fun _ => 0)), .inl (uC U 0, 4, .inl (fun _ => 0)), .inl (uC U 5, 6, .inr (.inr (.inr (.inr (va_up (va_up (va_up (va_up (va_up (va_up (fun _ => none) 0 (some j3)) 1 (some j4)) 2 (some j5)) 3 (some j6)) 4 (some j7)) 5 (some j8)))))), .inl (uC U 5, 2, .inr (.inr (.inr (.inr (fun _ => none))))), .inl (uC U 1, 2, .inl (fun _ => 0))] := hG
  refine aw_iinc X (1) dX4_init_98 rfl rfl rfl (by decide) ?_
  refine aw_goto (tgt := 79) X dX4_init_101 (by decide) ?_
  refine aw_iload_n X dX4_init_79 rfl ?_
  refine aw_bipush X (6) dX4_init_80 rfl ?_
  refine aw_icmp_ge_t (tgt := 104) X dX4_init_82 (by decide) (by decide) ?_
  refine aw_iconst X (0) dX4_init_104 rfl ?_
  refine aw_istore_n X dX4_init_105 rfl (by decide) ?_
  refine aw_iload_n X dX4_init_106 rfl ?_
  refine aw_iconst X (2) dX4_init_107 rfl ?_
  refine aw_icmp_ge_f (tgt := 130) X dX4_init_108 (by decide) (by decide) ?_
  refine aw_aload_n X dX4_init_111 rfl ?_
  refine aw_gget X hG 0 rfl rfl f_X4_37 rfl dX4_init_112 ?_
  refine aw_iload_n X dX4_init_115 rfl ?_
  refine aw_xnew X hG hB rfl h0 dX4_init_116 dX4_init_119 dX4_init_120 (by exact ⟨Nat.le_of_ble_eq_true rfl, Nat.le_of_ble_eq_true rfl⟩) (by exact ⟨Nat.le_of_ble_eq_true rfl, Nat.le_of_ble_eq_true rfl⟩) (by exact Nat.le_of_ble_eq_true rfl) (fun j9 μ β shs hG hB => ?_)
  have hB : JB U μ0 β [j0, j1, j2, j3, j4, j5, j6, j7, j8, j9] shs := hB
  have hG : GH β μ [a, q1, q2, q3, q4, q5, q6] [.inr (4, [.ref j0, .ref j1, .ref q1, .ref q4, .int 0, .ref j2, .ref q5, .ref q6]), .inr (2, [.ref q2, .int 0, .int 0, .int 0, .int 0, .int 0, .int 0, .ref q3]), .inl (uC U 2, 60, .inl (fun _ => 0)), .inl (uC U 0, 4, .inl (fun _ => 0)), .inl (uC U 5, 6, .inr (.inr (.inr (.inr (va_up (va_up (va_up (va_up (va_up (va_up (fun _ => none) 0 (some j3)) 1 (some j4)) 2 (some j5)) 3 (some j6)) 4 (some j7)) 5 (some j8)))))), .inl (uC U 5, 2, .inr (.inr (.inr (.inr (fun _ => none))))), .inl (uC U 1, 2, .inl (fun _ => 0))] := hG
  refine aw_xast X hG hB rfl h0 5 9 0 rfl rfl rfl (xin_d rfl) rfl dX4_init_123 (fun μ hG => ?_)
  have hG : GH β μ [a, q1, q2, q3, q4, q5, q6] [.inr (4, [.ref j0, .ref j1, .ref q1, .ref q4, .int 0, .ref j2, .ref q5, .ref q6]), .inr (2, [.ref q2, .int 0, .int 0, .int 0, .int 0, .int 0, .int 0, .ref q3]), .inl (uC U 2, 60, .inl (fun _ => 0)), .inl (uC U 0, 4, .inl (fun _ => 0)), .inl (uC U 5, 6, .inr (.inr (.inr (.inr (va_up (va_up (va_up (va_up (va_up (va_up (fun _ => none) 0 (some j3)) 1 (some j4)) 2 (some j5)) 3 (some j6)) 4 (some j7)) 5 (some j8)))))), .inl (uC U 5, 2, .inr (.inr (.inr (.inr (va_up (fun _ => none) 0 (some j9)))))), .inl (uC U 1, 2, .inl (fun _ => 0))] := hG
  refine aw_iinc X (1) dX4_init_124 rfl rfl rfl (by decide) ?_
  refine aw_goto (tgt := 106) X dX4_init_127 (by decide) ?_
  refine aw_iload_n X dX4_init_106 rfl ?_
  refine aw_iconst X (2) dX4_init_107 rfl ?_
  refine aw_icmp_ge_f (tgt := 130) X dX4_init_108 (by decide) (by decide) ?_
  refine aw_aload_n X dX4_init_111 rfl ?_
  refine aw_gget X hG 0 rfl rfl f_X4_37 rfl dX4_init_112 ?_
  refine aw_iload_n X dX4_init_115 rfl ?_
  refine aw_xnew X hG hB rfl h0 dX4_init_116 dX4_init_119 dX4_init_120 (by exact ⟨Nat.le_of_ble_eq_true rfl, Nat.le_of_ble_eq_true rfl⟩) (by exact ⟨Nat.le_of_ble_eq_true rfl, Nat.le_of_ble_eq_true rfl⟩) (by exact Nat.le_of_ble_eq_true rfl) (fun j10 μ β shs hG hB => ?_)
  have hB : JB U μ0 β [j0, j1, j2, j3, j4, j5, j6, j7, j8, j9, j10] shs := hB
  have hG : GH β μ [a, q1, q2, q3, q4, q5, q6] [.inr (4, [.ref j0, .ref j1, .ref q1, .ref q4, .int 0, .ref j2, .ref q5, .ref q6]), .inr (2, [.ref q2, .int 0, .int 0, .int 0, .int 0, .int 0, .int 0, .ref q3]), .inl (uC U 2, 60, .inl (fun _ => 0)), .inl (uC U 0, 4, .inl (fun _ => 0)), .inl (uC U 5, 6, .inr (.inr (.inr (.inr (va_up (va_up (va_up (va_up (va_up (va_up (fun _ => none) 0 (some j3)) 1 (some j4)) 2 (some j5)) 3 (some j6)) 4 (some j7)) 5 (some j8)))))), .inl (uC U 5, 2, .inr (.inr (.inr (.inr (va_up (fun _ => none) 0 (some j9)))))), .inl (uC U 1, 2, .inl (fun _ => 0))] := hG
  refine aw_xast X hG hB rfl h0 5 10 1 rfl rfl rfl (xin_d rfl) rfl dX4_init_123 (fun μ hG => ?_)
  have hG : GH β μ [a, q1, q2, q3, q4, q5, q6] [.inr (4, [.ref j0, .ref j1, .ref q1, .ref q4, .int 0, .ref j2, .ref q5, .ref q6]), .inr (2, [.ref q2, .int 0, .int 0, .int 0, .int 0, .int 0, .int 0, .ref q3]), .inl (uC U 2, 60, .inl (fun _ => 0)), .inl (uC U 0, 4, .inl (fun _ => 0)), .inl (uC U 5, 6, .inr (.inr (.inr (.inr (va_up (va_up (va_up (va_up (va_up (va_up (fun _ => none) 0 (some j3)) 1 (some j4)) 2 (some j5)) 3 (some j6)) 4 (some j7)) 5 (some j8)))))), .inl (uC U 5, 2, .inr (.inr (.inr (.inr (va_up (va_up (fun _ => none) 0 (some j9)) 1 (some j10)))))), .inl (uC U 1, 2, .inl (fun _ => 0))] := hG
  refine aw_iinc X (1) dX4_init_124 rfl rfl rfl (by decide) ?_
  refine aw_goto (tgt := 106) X dX4_init_127 (by decide) ?_
  refine aw_iload_n X dX4_init_106 rfl ?_
  refine aw_iconst X (2) dX4_init_107 rfl ?_
  refine aw_icmp_ge_t (tgt := 130) X dX4_init_108 (by decide) (by decide) ?_
  exact aw_vret X hQ dX4_init_130 ⟨rfl, β, shs, q1, q2, q3, q4, q5, q6, j0, j1, j2, j3, j4, j5, j6, j7, j8, j9, j10, hG, hB⟩
