def bI (b : Bool) : Int32 := if b = true then 1 else 0
theorem bI_t : bI true = 1 := rfl
theorem bI_f : bI false = 0 := rfl
theorem bI_x (b : Bool) : xz (bI b) := by cases b <;> simp [bI, xz]
theorem bI_nar (b : Bool) : narrow .boolean (.int (bI b)) = .int (bI b) := (xfit_z (bI_x b)).1
/-- 0 to 3 -/
def isG (x : Int32) : Bool := decide (0 ≤ x) && decide (x < 4)
theorem isG_nI {x : Int32} (h : isG x = true) : ∃ k : Nat, k < 4 ∧ x = nI k := by
  simp only [isG, Bool.and_eq_true, decide_eq_true_eq] at h
  obtain ⟨k, hk, e⟩ := nI_of (x := x) (by simpa using h.1)
  refine ⟨k, ?_, e⟩
  have h2 := h.2
  rw [e, show (4 : Int32) = nI 4 from rfl, nI_ltI hk (by decide)] at h2
  exact h2
theorem isG_tn {x : Int32} (h : isG x = true) : x.toNatClampNeg < 4 := by
  obtain ⟨k, hk, rfl⟩ := isG_nI h
  rw [nI_clamp (by omega)]
  exact hk
theorem isG_in {x : Int32} (h : isG x = true) : vp_in x 4 := by
  obtain ⟨k, hk, rfl⟩ := isG_nI h
  exact vp_in_nI hk (by decide)
theorem isG_of {k : Nat} (h : k < 4) : isG (nI k) = true := by
  rcases (show k = 0 ∨ k = 1 ∨ k = 2 ∨ k = 3 by omega) with rfl | rfl | rfl | rfl <;> decide
/-- a method that only answers -/
abbrev CtF (l : Launch) (U : xU) (y : MethodName) (b : ByteArray) (maxL : Nat) (ret : Option FieldType) (rm : Room) (av : List Value) (μ : xH) (r : Int32) : Prop := Ct l U y b maxL ret rm av μ (fun v μ' => v = some (.int r) ∧ μ' = μ)
/-- a method that changes a jetty, and answers -/
abbrev CtJ (l : Launch) (U : xU) (y : MethodName) (b : ByteArray) (maxL : Nat) (ret : Option FieldType) (rm : Room) (av : List Value) (μ : xH) (sh : Nat → Nat) (r : Int32) (z : xV) : Prop := Ct l U y b maxL ret rm av μ (fun v μ' => v = some (.int r) ∧ JR U μ μ' sh z)
abbrev CtK (l : Launch) (U : xU) (y : MethodName) (b : ByteArray) (maxL : Nat) (ret : Option FieldType) (rm : Room) (av : List Value) (μ : xH) (sh : Nat → Nat) (z : xV) : Prop := Ct l U y b maxL ret rm av μ (fun v μ' => v = none ∧ JR U μ μ' sh z)
section XJROWS
variable {U : xU} {K : xK} {y : MethodName} {cc : ByteArray} {nL cells slots : Nat} {ret : Option FieldType} {rm : Room} {Q : State → Prop} {μ0 μ : xH} {sh : Nat → Nat} {z : xV} {pc index : Nat} {ls : List (Option Value)} {st : List Value}
theorem aw_jget (X : Cx U K y cc nL ret rm) (hJ : JR U μ0 μ sh z) {k : Nat} {v : Value} (hf : XF y.cls index 1 k RX1 TX1 14) (hv : (jfs sh z)[k]? = some v) (hdg : decode cc pc = .ok (.getfield index, 3)) (kk : AW U K nL cells slots Q μ (pc + 3) ls (v :: st)) : AW U K nL cells slots Q μ pc ls (.ref (sh 0) :: st) := aw_get X hf hJ.g0 hv hdg kk
theorem xd1 : ∀ k, 6 ≤ k → k < 14 → (TX1 k).2.2.2 = false ∧ ((k = 6 ∨ k = 9) → parseFieldDescriptor (TX1 k).2.2.1 = some .boolean) ∧ (¬ (k = 6 ∨ k = 9) → parseFieldDescriptor (TX1 k).2.2.1 = some .int) := by
  intro k h1 h2
  rcases (show k = 6 ∨ k = 7 ∨ k = 8 ∨ k = 9 ∨ k = 10 ∨ k = 11 ∨ k = 12 ∨ k = 13 by omega) with rfl | rfl | rfl | rfl | rfl | rfl | rfl | rfl <;> decide +kernel
theorem aw_jput (X : Cx U K y cc nL ret rm) (hJ : JR U μ0 μ sh z) (k : Nat) (h6 : 6 ≤ k) (hk : k < 14) (j : Nat) (hj : jix k = j) {v : Int32} (hf : XF y.cls index 1 k RX1 TX1 14) (hv : (k = 6 ∨ k = 9) → xz v) (hdg : decode cc pc = .ok (.putfield index, 3)) (kk : ∀ (μ' : xH) (z' : xV), z' = upd z j v → JR U μ0 μ' sh z' → AW U K nL cells slots Q μ' (pc + 3) ls st) : AW U K nL cells slots Q μ pc ls (.int v :: .ref (sh 0) :: st) := by
  subst hj
  obtain ⟨d1, d2, d3⟩ := xd1 k h6 hk
  have hN := hJ.pJ k h6 hk hv
  by_cases hb : k = 6 ∨ k = 9
  · exact aw_put X hf hJ.g0 d1 (d2 hb) (xfit_z (hv hb)) (by show k < 14; exact hk) hdg (kk _ _ rfl hN)
  · exact aw_put X hf hJ.g0 d1 (d3 hb) xfit_i (by show k < 14; exact hk) hdg (kk _ _ rfl hN)
theorem aw_hget (X : Cx U K y cc nL ret rm) (hJ : JR U μ0 μ sh z) (i : Nat) (hi : i < 4) {k : Nat} {v : Value} (hf : XF y.cls index 0 k RX0 TX0 7) (hv : (hfs z i)[k]? = some v) (hdg : decode cc pc = .ok (.getfield index, 3)) (kk : AW U K nL cells slots Q μ (pc + 3) ls (v :: st)) : AW U K nL cells slots Q μ pc ls (.ref (sh (7 + i)) :: st) := aw_get X hf (hJ.gH i hi) hv hdg kk
theorem xd0 : ∀ k, k < 7 → (TX0 k).2.2.2 = false ∧ ((k = 3 ∨ k = 6) → parseFieldDescriptor (TX0 k).2.2.1 = some .boolean) ∧ (¬ (k = 3 ∨ k = 6) → parseFieldDescriptor (TX0 k).2.2.1 = some .int) := by
  intro k h2
  rcases (show k = 0 ∨ k = 1 ∨ k = 2 ∨ k = 3 ∨ k = 4 ∨ k = 5 ∨ k = 6 by omega) with rfl | rfl | rfl | rfl | rfl | rfl | rfl <;> decide +kernel
theorem aw_hput (X : Cx U K y cc nL ret rm) (hJ : JR U μ0 μ sh z) (i : Nat) (hi : i < 4) (k : Nat) (hk : k < 7) (j : Nat) (hj : hix i k = j) {v : Int32} (hf : XF y.cls index 0 k RX0 TX0 7) (hv : (k = 3 ∨ k = 6) → xz v) (hdg : decode cc pc = .ok (.putfield index, 3)) (kk : ∀ (μ' : xH) (z' : xV), z' = upd z j v → JR U μ0 μ' sh z' → AW U K nL cells slots Q μ' (pc + 3) ls st) : AW U K nL cells slots Q μ pc ls (.int v :: .ref (sh (7 + i)) :: st) := by
  subst hj
  obtain ⟨d1, d2, d3⟩ := xd0 k hk
  have hN := hJ.pH i hi k hk hv
  by_cases hb : k = 3 ∨ k = 6
  · exact aw_put X hf (hJ.gH i hi) d1 (d2 hb) (xfit_z (hv hb)) (by show k < 7; exact hk) hdg (kk _ _ rfl hN)
  · exact aw_put X hf (hJ.gH i hi) d1 (d3 hb) xfit_i (by show k < 7; exact hk) hdg (kk _ _ rfl hN)
theorem aw_tgetU (X : Cx U K y cc nL ret rm) (hJ : JR U μ0 μ sh z) (p : Nat) (hp : p < 6) (hf : XF y.cls index 3 0 RX3 TX3 2) (hdg : decode cc pc = .ok (.getfield index, 3)) (kk : AW U K nL cells slots Q μ (pc + 3) ls (.ref (sh (17 + p)) :: st)) : AW U K nL cells slots Q μ pc ls (.ref (sh (11 + p)) :: st) := aw_get X hf (hJ.gT p hp) rfl hdg kk
theorem aw_tgetC (X : Cx U K y cc nL ret rm) (hJ : JR U μ0 μ sh z) (p : Nat) (hp : p < 6) (hf : XF y.cls index 3 1 RX3 TX3 2) (hdg : decode cc pc = .ok (.getfield index, 3)) (kk : AW U K nL cells slots Q μ (pc + 3) ls (.int (z (tz p 4)) :: st)) : AW U K nL cells slots Q μ pc ls (.ref (sh (11 + p)) :: st) := aw_get X hf (hJ.gT p hp) rfl hdg kk
theorem aw_tputC (X : Cx U K y cc nL ret rm) (hJ : JR U μ0 μ sh z) (p : Nat) (hp : p < 6) {v : Int32} (hf : XF y.cls index 3 1 RX3 TX3 2) (hdg : decode cc pc = .ok (.putfield index, 3)) (kk : ∀ (μ' : xH) (z' : xV), z' = upd z (tz p 4) v → JR U μ0 μ' sh z' → AW U K nL cells slots Q μ' (pc + 3) ls st) : AW U K nL cells slots Q μ pc ls (.int v :: .ref (sh (11 + p)) :: st) :=
  aw_put X hf (hJ.gT p hp) rfl (ty := .int) (by decide +kernel) xfit_i (by show 1 < 2; decide) hdg (kk _ _ rfl (hJ.pT p hp))
theorem aw_jald (X : Cx U K y cc nL ret rm) (hJ : JR U μ0 μ sh z) (c : Nat) (hc : c < 4) (j : Nat) {i : Int32} (hin : vp_in i (jlen c)) (hj : jbase c + i.toNatClampNeg = j) (hdg : decode cc pc = .ok (.iaload, 1)) (kk : AW U K nL cells slots Q μ (pc + 1) ls (.int (z j) :: st)) : AW U K nL cells slots Q μ pc ls (.int i :: .ref (sh (1 + c)) :: st) := by
  subst hj
  obtain ⟨f, h1, h2⟩ := hJ.gA c hc
  exact aw_iald X h1 hin hdg (by rw [h2 _ (xin_lt hin)]; exact kk)
theorem aw_jast (X : Cx U K y cc nL ret rm) (hJ : JR U μ0 μ sh z) (c : Nat) (hc : c < 4) (j : Nat) {i v : Int32} (hin : vp_in i (jlen c)) (hj : jbase c + i.toNatClampNeg = j) (hdg : decode cc pc = .ok (.iastore, 1)) (kk : ∀ (μ' : xH) (z' : xV), z' = upd z j v → JR U μ0 μ' sh z' → AW U K nL cells slots Q μ' (pc + 1) ls st) : AW U K nL cells slots Q μ pc ls (.int v :: .int i :: .ref (sh (1 + c)) :: st) := by
  subst hj
  obtain ⟨f, h1, h2⟩ := hJ.gA c hc
  exact aw_iast X h1 hin hdg (kk _ _ rfl (hJ.pA c hc h2 (xin_lt hin)))
theorem aw_jlen (X : Cx U K y cc nL ret rm) (hJ : JR U μ0 μ sh z) (c : Nat) (hc : c < 4) {v : Int32} (hv : Int32.ofNat (jlen c) = v) (hdg : decode cc pc = .ok (.arraylength, 1)) (kk : AW U K nL cells slots Q μ (pc + 1) ls (.int v :: st)) : AW U K nL cells slots Q μ pc ls (.ref (sh (1 + c)) :: st) := by
  obtain ⟨f, h1, -⟩ := hJ.gA c hc
  exact aw_alen X (t0 := 0) rfl h1 hv hdg kk
theorem aw_tlen (X : Cx U K y cc nL ret rm) (hJ : JR U μ0 μ sh z) (hdg : decode cc pc = .ok (.arraylength, 1)) (kk : AW U K nL cells slots Q μ (pc + 1) ls (.int 6 :: st)) : AW U K nL cells slots Q μ pc ls (.ref (sh 6) :: st) := by
  obtain ⟨f, h1, -⟩ := hJ.g6
  exact aw_alen X (t0 := 4) rfl h1 rfl hdg kk
theorem aw_uald (X : Cx U K y cc nL ret rm) (hJ : JR U μ0 μ sh z) (p : Nat) (hp : p < 6) (j : Nat) {i : Int32} (hin : vp_in i 4) (hj : tz p i.toNatClampNeg = j) (hdg : decode cc pc = .ok (.iaload, 1)) (kk : AW U K nL cells slots Q μ (pc + 1) ls (.int (z j) :: st)) : AW U K nL cells slots Q μ pc ls (.int i :: .ref (sh (17 + p)) :: st) := by
  subst hj
  obtain ⟨f, h1, h2⟩ := hJ.gU p hp
  exact aw_iald X h1 hin hdg (by rw [h2 _ (xin_lt hin)]; exact kk)
theorem aw_uast (X : Cx U K y cc nL ret rm) (hJ : JR U μ0 μ sh z) (p : Nat) (hp : p < 6) (j : Nat) {i v : Int32} (hin : vp_in i 4) (hj : tz p i.toNatClampNeg = j) (hdg : decode cc pc = .ok (.iastore, 1)) (kk : ∀ (μ' : xH) (z' : xV), z' = upd z j v → JR U μ0 μ' sh z' → AW U K nL cells slots Q μ' (pc + 1) ls st) : AW U K nL cells slots Q μ pc ls (.int v :: .int i :: .ref (sh (17 + p)) :: st) := by
  subst hj
  obtain ⟨f, h1, h2⟩ := hJ.gU p hp
  exact aw_iast X h1 hin hdg (kk _ _ rfl (hJ.pU p hp h2 (xin_lt hin)))
theorem aw_hoseAt (X : Cx U K y cc nL ret rm) (hJ : JR U μ0 μ sh z) (i : Nat) (hi : i < 4) {v : Int32} (hv : v = nI i) (hdg : decode cc pc = .ok (.aaload, 1)) (kk : AW U K nL cells slots Q μ (pc + 1) ls (.ref (sh (7 + i)) :: st)) : AW U K nL cells slots Q μ pc ls (.int v :: .ref (sh 5) :: st) := by
  subst hv
  obtain ⟨f, h1, h2⟩ := hJ.g5
  exact aw_aald X (t0 := 3) rfl h1 (vp_in_nI hi (by decide)) (by rw [nI_clamp (by omega)]; exact h2 i hi) hdg kk
theorem aw_tankAt (X : Cx U K y cc nL ret rm) (hJ : JR U μ0 μ sh z) (p : Nat) (hp : p < 6) {v : Int32} (hv : v = nI p) (hdg : decode cc pc = .ok (.aaload, 1)) (kk : AW U K nL cells slots Q μ (pc + 1) ls (.ref (sh (11 + p)) :: st)) : AW U K nL cells slots Q μ pc ls (.int v :: .ref (sh 6) :: st) := by
  subst hv
  obtain ⟨f, h1, h2⟩ := hJ.g6
  exact aw_aald X (t0 := 4) rfl h1 (vp_in_nI hp (by decide)) (by rw [nI_clamp (by omega)]; exact h2 p hp) hdg kk
/-- a truth value is asked -/
theorem aw_b_eq (X : Cx U K y cc nL ret rm) {b : Bool} {off : Int} {tgt : Nat} (hdg : decode cc pc = .ok (.ifCond .eq off, 3)) (ht : (pc : Int) + off = (tgt : Int)) (kt : b = false → AW U K nL cells slots Q μ tgt ls st) (kf : b = true → AW U K nL cells slots Q μ (pc + 3) ls st) : AW U K nL cells slots Q μ pc ls (.int (bI b) :: st) := by
  refine aw_if_eq X hdg ht (fun c => kt ?_) (fun c => kf ?_)
  · cases b
    · rfl
    · exact absurd c (by decide)
  · cases b
    · exact absurd rfl c
    · rfl
theorem aw_b_ne (X : Cx U K y cc nL ret rm) {b : Bool} {off : Int} {tgt : Nat} (hdg : decode cc pc = .ok (.ifCond .ne off, 3)) (ht : (pc : Int) + off = (tgt : Int)) (kt : b = true → AW U K nL cells slots Q μ tgt ls st) (kf : b = false → AW U K nL cells slots Q μ (pc + 3) ls st) : AW U K nL cells slots Q μ pc ls (.int (bI b) :: st) := by
  refine aw_if_ne X hdg ht (fun c => kt ?_) (fun c => kf ?_)
  · cases b
    · exact absurd rfl c
    · rfl
  · cases b
    · rfl
    · exact absurd c (by decide)
/-- b ? 1 : 0, x != 0 ? 1 : 0 -/
theorem aw_bj (X : Cx U K y cc nL ret rm) {x : Int32} {tgt t2 : Nat} {off o2 : Int} (h1 : decode cc pc = .ok (.ifCond .eq off, 3)) (h2 : decode cc (pc + 3) = .ok (.iconst 1, 1)) (h3 : decode cc (pc + 4) = .ok (.goto o2, 3)) (h4 : decode cc tgt = .ok (.iconst 0, 1)) (e1 : (pc : Int) + off = (tgt : Int)) (e2 : ((pc + 4 : Nat) : Int) + o2 = (t2 : Int)) (e3 : tgt + 1 = t2) (kk : AW U K nL cells slots Q μ t2 ls (.int (bI (decide (¬ x = 0))) :: st)) : AW U K nL cells slots Q μ pc ls (.int x :: st) := by
  subst e3
  refine aw_if_eq X h1 e1 (fun c => ?_) (fun c => ?_)
  · refine aw_iconst X 0 h4 rfl ?_
    rw [show bI (decide (¬ x = 0)) = 0 by simp [bI, c]] at kk
    exact kk
  · refine aw_iconst X 1 h2 rfl (aw_goto X h3 e2 ?_)
    rw [show bI (decide (¬ x = 0)) = 1 by simp [bI, c]] at kk
    exact kk
theorem bI_ne (b : Bool) : decide (¬ bI b = 0) = b := by cases b <;> decide
variable {y' : MethodName} {b' : ByteArray} {maxL n : Nat} {ret' : Option FieldType} {rm' : Room}

theorem aw_cVF (X : Cx U K y cc nL ret rm) {As : List Value} {a : Nat} {fs : List Value} {ci N : Nat} {T : u_T} {r : Int32} (hM : CtF (kl K) U y' b' maxL ret' rm' (.ref a :: As) μ r) (hs : XV y.cls index y') (hy : XY y' b' maxL ret' n) (hrm : rm'.frames + 1 ≤ rm.frames ∧ 8 + (maxL + 11) + rm'.locals ≤ rm.locals) (hm : rm'.cells = 0 ∧ rm'.slots = 0) (hf : cells ≤ rm.cells ∧ slots ≤ rm.slots) (hn : As.length = n) (hst : (st.map fun v => v.category).sum ≤ 8) (hμ : μ a = some (.inr (ci, fs))) (hci : xcl[ci]? = some (y'.cls, T, N)) (hdg : decode cc pc = .ok (.invokevirtual index, 3)) (kk : AW U K nL cells slots Q μ (pc + 3) ls (.int r :: st)) : AW U K nL cells slots Q μ pc ls (As.reverse ++ .ref a :: st) := by
  have hR := X.2.2.2.2.2.2.2.1
  refine aw_cV X hM hs hy hrm (by rw [hm.1, hm.2, hR]; exact hf) hn hst hμ hci hdg (fun v μ1 hp => ?_)
  obtain ⟨rfl, rfl⟩ := hp
  rw [hm.1, hm.2]
  exact kk
theorem aw_cVJ (X : Cx U K y cc nL ret rm) {As : List Value} {a : Nat} {fs : List Value} {ci N : Nat} {T : u_T} {r : Int32} {z1 : xV} (hJ : JR U μ0 μ sh z) (hM : CtJ (kl K) U y' b' maxL ret' rm' (.ref a :: As) μ sh r z1) (hs : XV y.cls index y') (hy : XY y' b' maxL ret' n) (hrm : rm'.frames + 1 ≤ rm.frames ∧ 8 + (maxL + 11) + rm'.locals ≤ rm.locals) (hm : rm'.cells = 0 ∧ rm'.slots = 0) (hf : cells ≤ rm.cells ∧ slots ≤ rm.slots) (hn : As.length = n) (hst : (st.map fun v => v.category).sum ≤ 8) (hμ : μ a = some (.inr (ci, fs))) (hci : xcl[ci]? = some (y'.cls, T, N)) (hdg : decode cc pc = .ok (.invokevirtual index, 3)) (kk : ∀ (μ' : xH) (z' : xV), z' = z1 → JR U μ0 μ' sh z' → AW U K nL cells slots Q μ' (pc + 3) ls (.int r :: st)) : AW U K nL cells slots Q μ pc ls (As.reverse ++ .ref a :: st) := by
  have hR := X.2.2.2.2.2.2.2.1
  refine aw_cV X hM hs hy hrm (by rw [hm.1, hm.2, hR]; exact hf) hn hst hμ hci hdg (fun v μ1 hp => ?_)
  obtain ⟨rfl, hp⟩ := hp
  rw [hm.1, hm.2]
  exact kk _ _ rfl (hJ.tr hp)
theorem aw_cVK (X : Cx U K y cc nL ret rm) {As : List Value} {a : Nat} {fs : List Value} {ci N : Nat} {T : u_T} {z1 : xV} (hJ : JR U μ0 μ sh z) (hM : CtK (kl K) U y' b' maxL ret' rm' (.ref a :: As) μ sh z1) (hs : XV y.cls index y') (hy : XY y' b' maxL ret' n) (hrm : rm'.frames + 1 ≤ rm.frames ∧ 8 + (maxL + 11) + rm'.locals ≤ rm.locals) (hm : rm'.cells = 0 ∧ rm'.slots = 0) (hf : cells ≤ rm.cells ∧ slots ≤ rm.slots) (hn : As.length = n) (hst : (st.map fun v => v.category).sum ≤ 8) (hμ : μ a = some (.inr (ci, fs))) (hci : xcl[ci]? = some (y'.cls, T, N)) (hdg : decode cc pc = .ok (.invokevirtual index, 3)) (kk : ∀ (μ' : xH) (z' : xV), z' = z1 → JR U μ0 μ' sh z' → AW U K nL cells slots Q μ' (pc + 3) ls st) : AW U K nL cells slots Q μ pc ls (As.reverse ++ .ref a :: st) := by
  have hR := X.2.2.2.2.2.2.2.1
  refine aw_cV X hM hs hy hrm (by rw [hm.1, hm.2, hR]; exact hf) hn hst hμ hci hdg (fun v μ1 hp => ?_)
  obtain ⟨rfl, hp⟩ := hp
  rw [hm.1, hm.2]
  exact kk _ _ rfl (hJ.tr hp)
theorem aw_cSF (X : Cx U K y cc nL ret rm) {As : List Value} {r : Int32} (hM : CtF (kl K) U y' b' maxL ret' rm' As μ r) (hs : XS y.cls index y') (hy : XY y' b' maxL ret' n) (hrm : rm'.frames + 1 ≤ rm.frames ∧ 8 + (maxL + 11) + rm'.locals ≤ rm.locals) (hm : rm'.cells = 0 ∧ rm'.slots = 0) (hf : cells ≤ rm.cells ∧ slots ≤ rm.slots) (hn : As.length = n) (hst : (st.map fun v => v.category).sum ≤ 8) (hdg : decode cc pc = .ok (.invokestatic index, 3)) (kk : AW U K nL cells slots Q μ (pc + 3) ls (.int r :: st)) : AW U K nL cells slots Q μ pc ls (As.reverse ++ st) := by
  have hR := X.2.2.2.2.2.2.2.1
  refine aw_cS X hM hs hy hrm (by rw [hm.1, hm.2, hR]; exact hf) hn hst hdg (fun v μ1 hp => ?_)
  obtain ⟨rfl, rfl⟩ := hp
  rw [hm.1, hm.2]
  exact kk
theorem aw_cSJ (X : Cx U K y cc nL ret rm) {As : List Value} {r : Int32} {z1 : xV} (hJ : JR U μ0 μ sh z) (hM : CtJ (kl K) U y' b' maxL ret' rm' As μ sh r z1) (hs : XS y.cls index y') (hy : XY y' b' maxL ret' n) (hrm : rm'.frames + 1 ≤ rm.frames ∧ 8 + (maxL + 11) + rm'.locals ≤ rm.locals) (hm : rm'.cells = 0 ∧ rm'.slots = 0) (hf : cells ≤ rm.cells ∧ slots ≤ rm.slots) (hn : As.length = n) (hst : (st.map fun v => v.category).sum ≤ 8) (hdg : decode cc pc = .ok (.invokestatic index, 3)) (kk : ∀ (μ' : xH) (z' : xV), z' = z1 → JR U μ0 μ' sh z' → AW U K nL cells slots Q μ' (pc + 3) ls (.int r :: st)) : AW U K nL cells slots Q μ pc ls (As.reverse ++ st) := by
  have hR := X.2.2.2.2.2.2.2.1
  refine aw_cS X hM hs hy hrm (by rw [hm.1, hm.2, hR]; exact hf) hn hst hdg (fun v μ1 hp => ?_)
  obtain ⟨rfl, hp⟩ := hp
  rw [hm.1, hm.2]
  exact kk _ _ rfl (hJ.tr hp)
theorem aw_cSK (X : Cx U K y cc nL ret rm) {As : List Value} {z1 : xV} (hJ : JR U μ0 μ sh z) (hM : CtK (kl K) U y' b' maxL ret' rm' As μ sh z1) (hs : XS y.cls index y') (hy : XY y' b' maxL ret' n) (hrm : rm'.frames + 1 ≤ rm.frames ∧ 8 + (maxL + 11) + rm'.locals ≤ rm.locals) (hm : rm'.cells = 0 ∧ rm'.slots = 0) (hf : cells ≤ rm.cells ∧ slots ≤ rm.slots) (hn : As.length = n) (hst : (st.map fun v => v.category).sum ≤ 8) (hdg : decode cc pc = .ok (.invokestatic index, 3)) (kk : ∀ (μ' : xH) (z' : xV), z' = z1 → JR U μ0 μ' sh z' → AW U K nL cells slots Q μ' (pc + 3) ls st) : AW U K nL cells slots Q μ pc ls (As.reverse ++ st) := by
  have hR := X.2.2.2.2.2.2.2.1
  refine aw_cS X hM hs hy hrm (by rw [hm.1, hm.2, hR]; exact hf) hn hst hdg (fun v μ1 hp => ?_)
  obtain ⟨rfl, hp⟩ := hp
  rw [hm.1, hm.2]
  exact kk _ _ rfl (hJ.tr hp)
theorem aw_cSNF (X : Cx U K y cc nL ret rm) {As : List Value} {host : String} {r : Int32} (hM : CtF (kl K) U y' b' maxL ret' rm' As μ r) (hs : XSN y.cls index y' host) (hy : XY y' b' maxL ret' n) (hrm : rm'.frames + 1 ≤ rm.frames ∧ 8 + (maxL + 11) + rm'.locals ≤ rm.locals) (hm : rm'.cells = 0 ∧ rm'.slots = 0) (hf : cells ≤ rm.cells ∧ slots ≤ rm.slots) (hn : As.length = n) (hst : (st.map fun v => v.category).sum ≤ 8) (hdg : decode cc pc = .ok (.invokestatic index, 3)) (kk : AW U K nL cells slots Q μ (pc + 3) ls (.int r :: st)) : AW U K nL cells slots Q μ pc ls (As.reverse ++ st) := by
  have hR := X.2.2.2.2.2.2.2.1
  refine aw_cSN X hM hs hy hrm (by rw [hm.1, hm.2, hR]; exact hf) hn hst hdg (fun v μ1 hp => ?_)
  obtain ⟨rfl, rfl⟩ := hp
  rw [hm.1, hm.2]
  exact kk
theorem aw_cSNJ (X : Cx U K y cc nL ret rm) {As : List Value} {host : String} {r : Int32} {z1 : xV} (hJ : JR U μ0 μ sh z) (hM : CtJ (kl K) U y' b' maxL ret' rm' As μ sh r z1) (hs : XSN y.cls index y' host) (hy : XY y' b' maxL ret' n) (hrm : rm'.frames + 1 ≤ rm.frames ∧ 8 + (maxL + 11) + rm'.locals ≤ rm.locals) (hm : rm'.cells = 0 ∧ rm'.slots = 0) (hf : cells ≤ rm.cells ∧ slots ≤ rm.slots) (hn : As.length = n) (hst : (st.map fun v => v.category).sum ≤ 8) (hdg : decode cc pc = .ok (.invokestatic index, 3)) (kk : ∀ (μ' : xH) (z' : xV), z' = z1 → JR U μ0 μ' sh z' → AW U K nL cells slots Q μ' (pc + 3) ls (.int r :: st)) : AW U K nL cells slots Q μ pc ls (As.reverse ++ st) := by
  have hR := X.2.2.2.2.2.2.2.1
  refine aw_cSN X hM hs hy hrm (by rw [hm.1, hm.2, hR]; exact hf) hn hst hdg (fun v μ1 hp => ?_)
  obtain ⟨rfl, hp⟩ := hp
  rw [hm.1, hm.2]
  exact kk _ _ rfl (hJ.tr hp)
theorem aw_cSNK (X : Cx U K y cc nL ret rm) {As : List Value} {host : String} {z1 : xV} (hJ : JR U μ0 μ sh z) (hM : CtK (kl K) U y' b' maxL ret' rm' As μ sh z1) (hs : XSN y.cls index y' host) (hy : XY y' b' maxL ret' n) (hrm : rm'.frames + 1 ≤ rm.frames ∧ 8 + (maxL + 11) + rm'.locals ≤ rm.locals) (hm : rm'.cells = 0 ∧ rm'.slots = 0) (hf : cells ≤ rm.cells ∧ slots ≤ rm.slots) (hn : As.length = n) (hst : (st.map fun v => v.category).sum ≤ 8) (hdg : decode cc pc = .ok (.invokestatic index, 3)) (kk : ∀ (μ' : xH) (z' : xV), z' = z1 → JR U μ0 μ' sh z' → AW U K nL cells slots Q μ' (pc + 3) ls st) : AW U K nL cells slots Q μ pc ls (As.reverse ++ st) := by
  have hR := X.2.2.2.2.2.2.2.1
  refine aw_cSN X hM hs hy hrm (by rw [hm.1, hm.2, hR]; exact hf) hn hst hdg (fun v μ1 hp => ?_)
  obtain ⟨rfl, hp⟩ := hp
  rw [hm.1, hm.2]
  exact kk _ _ rfl (hJ.tr hp)
theorem aw_if_eq_t (X : Cx U K y cc nL ret rm) {x : Int32} {off : Int} {tgt : Nat} (hdg : decode cc pc = .ok (.ifCond .eq off, 3)) (ht : (pc : Int) + off = (tgt : Int)) (h : x = 0) (kk : AW U K nL cells slots Q μ tgt ls st) : AW U K nL cells slots Q μ pc ls (.int x :: st) := aw_if_eq X hdg ht (fun _ => kk) (fun c => absurd h c)
theorem aw_if_eq_f (X : Cx U K y cc nL ret rm) {x : Int32} {off : Int} {tgt : Nat} (hdg : decode cc pc = .ok (.ifCond .eq off, 3)) (ht : (pc : Int) + off = (tgt : Int)) (h : ¬ (x = 0)) (kk : AW U K nL cells slots Q μ (pc + 3) ls st) : AW U K nL cells slots Q μ pc ls (.int x :: st) := aw_if_eq X hdg ht (fun c => absurd c h) (fun _ => kk)
theorem aw_icmp_eq_t (X : Cx U K y cc nL ret rm) {x w : Int32} {off : Int} {tgt : Nat} (hdg : decode cc pc = .ok (.if_icmp .eq off, 3)) (ht : (pc : Int) + off = (tgt : Int)) (h : x = w) (kk : AW U K nL cells slots Q μ tgt ls st) : AW U K nL cells slots Q μ pc ls (.int w :: .int x :: st) := aw_icmp_eq X hdg ht (fun _ => kk) (fun c => absurd h c)
theorem aw_icmp_eq_f (X : Cx U K y cc nL ret rm) {x w : Int32} {off : Int} {tgt : Nat} (hdg : decode cc pc = .ok (.if_icmp .eq off, 3)) (ht : (pc : Int) + off = (tgt : Int)) (h : ¬ (x = w)) (kk : AW U K nL cells slots Q μ (pc + 3) ls st) : AW U K nL cells slots Q μ pc ls (.int w :: .int x :: st) := aw_icmp_eq X hdg ht (fun c => absurd c h) (fun _ => kk)
theorem aw_if_ne_t (X : Cx U K y cc nL ret rm) {x : Int32} {off : Int} {tgt : Nat} (hdg : decode cc pc = .ok (.ifCond .ne off, 3)) (ht : (pc : Int) + off = (tgt : Int)) (h : ¬ x = 0) (kk : AW U K nL cells slots Q μ tgt ls st) : AW U K nL cells slots Q μ pc ls (.int x :: st) := aw_if_ne X hdg ht (fun _ => kk) (fun c => absurd c h)
theorem aw_if_ne_f (X : Cx U K y cc nL ret rm) {x : Int32} {off : Int} {tgt : Nat} (hdg : decode cc pc = .ok (.ifCond .ne off, 3)) (ht : (pc : Int) + off = (tgt : Int)) (h : x = 0) (kk : AW U K nL cells slots Q μ (pc + 3) ls st) : AW U K nL cells slots Q μ pc ls (.int x :: st) := aw_if_ne X hdg ht (fun c => absurd h c) (fun _ => kk)
theorem aw_icmp_ne_t (X : Cx U K y cc nL ret rm) {x w : Int32} {off : Int} {tgt : Nat} (hdg : decode cc pc = .ok (.if_icmp .ne off, 3)) (ht : (pc : Int) + off = (tgt : Int)) (h : ¬ x = w) (kk : AW U K nL cells slots Q μ tgt ls st) : AW U K nL cells slots Q μ pc ls (.int w :: .int x :: st) := aw_icmp_ne X hdg ht (fun _ => kk) (fun c => absurd c h)
theorem aw_icmp_ne_f (X : Cx U K y cc nL ret rm) {x w : Int32} {off : Int} {tgt : Nat} (hdg : decode cc pc = .ok (.if_icmp .ne off, 3)) (ht : (pc : Int) + off = (tgt : Int)) (h : x = w) (kk : AW U K nL cells slots Q μ (pc + 3) ls st) : AW U K nL cells slots Q μ pc ls (.int w :: .int x :: st) := aw_icmp_ne X hdg ht (fun c => absurd h c) (fun _ => kk)
theorem aw_if_lt_t (X : Cx U K y cc nL ret rm) {x : Int32} {off : Int} {tgt : Nat} (hdg : decode cc pc = .ok (.ifCond .lt off, 3)) (ht : (pc : Int) + off = (tgt : Int)) (h : x < 0) (kk : AW U K nL cells slots Q μ tgt ls st) : AW U K nL cells slots Q μ pc ls (.int x :: st) := aw_if_lt X hdg ht (fun _ => kk) (fun c => absurd h c)
theorem aw_if_lt_f (X : Cx U K y cc nL ret rm) {x : Int32} {off : Int} {tgt : Nat} (hdg : decode cc pc = .ok (.ifCond .lt off, 3)) (ht : (pc : Int) + off = (tgt : Int)) (h : ¬ (x < 0)) (kk : AW U K nL cells slots Q μ (pc + 3) ls st) : AW U K nL cells slots Q μ pc ls (.int x :: st) := aw_if_lt X hdg ht (fun c => absurd c h) (fun _ => kk)
theorem aw_icmp_lt_t (X : Cx U K y cc nL ret rm) {x w : Int32} {off : Int} {tgt : Nat} (hdg : decode cc pc = .ok (.if_icmp .lt off, 3)) (ht : (pc : Int) + off = (tgt : Int)) (h : x < w) (kk : AW U K nL cells slots Q μ tgt ls st) : AW U K nL cells slots Q μ pc ls (.int w :: .int x :: st) := aw_icmp_lt X hdg ht (fun _ => kk) (fun c => absurd h c)
theorem aw_icmp_lt_f (X : Cx U K y cc nL ret rm) {x w : Int32} {off : Int} {tgt : Nat} (hdg : decode cc pc = .ok (.if_icmp .lt off, 3)) (ht : (pc : Int) + off = (tgt : Int)) (h : ¬ (x < w)) (kk : AW U K nL cells slots Q μ (pc + 3) ls st) : AW U K nL cells slots Q μ pc ls (.int w :: .int x :: st) := aw_icmp_lt X hdg ht (fun c => absurd c h) (fun _ => kk)
theorem aw_if_ge_t (X : Cx U K y cc nL ret rm) {x : Int32} {off : Int} {tgt : Nat} (hdg : decode cc pc = .ok (.ifCond .ge off, 3)) (ht : (pc : Int) + off = (tgt : Int)) (h : 0 ≤ x) (kk : AW U K nL cells slots Q μ tgt ls st) : AW U K nL cells slots Q μ pc ls (.int x :: st) := aw_if_ge X hdg ht (fun _ => kk) (fun c => absurd h c)
theorem aw_if_ge_f (X : Cx U K y cc nL ret rm) {x : Int32} {off : Int} {tgt : Nat} (hdg : decode cc pc = .ok (.ifCond .ge off, 3)) (ht : (pc : Int) + off = (tgt : Int)) (h : ¬ (0 ≤ x)) (kk : AW U K nL cells slots Q μ (pc + 3) ls st) : AW U K nL cells slots Q μ pc ls (.int x :: st) := aw_if_ge X hdg ht (fun c => absurd c h) (fun _ => kk)
theorem aw_icmp_ge_t (X : Cx U K y cc nL ret rm) {x w : Int32} {off : Int} {tgt : Nat} (hdg : decode cc pc = .ok (.if_icmp .ge off, 3)) (ht : (pc : Int) + off = (tgt : Int)) (h : w ≤ x) (kk : AW U K nL cells slots Q μ tgt ls st) : AW U K nL cells slots Q μ pc ls (.int w :: .int x :: st) := aw_icmp_ge X hdg ht (fun _ => kk) (fun c => absurd h c)
theorem aw_icmp_ge_f (X : Cx U K y cc nL ret rm) {x w : Int32} {off : Int} {tgt : Nat} (hdg : decode cc pc = .ok (.if_icmp .ge off, 3)) (ht : (pc : Int) + off = (tgt : Int)) (h : ¬ (w ≤ x)) (kk : AW U K nL cells slots Q μ (pc + 3) ls st) : AW U K nL cells slots Q μ pc ls (.int w :: .int x :: st) := aw_icmp_ge X hdg ht (fun c => absurd c h) (fun _ => kk)
theorem aw_if_gt_t (X : Cx U K y cc nL ret rm) {x : Int32} {off : Int} {tgt : Nat} (hdg : decode cc pc = .ok (.ifCond .gt off, 3)) (ht : (pc : Int) + off = (tgt : Int)) (h : 0 < x) (kk : AW U K nL cells slots Q μ tgt ls st) : AW U K nL cells slots Q μ pc ls (.int x :: st) := aw_if_gt X hdg ht (fun _ => kk) (fun c => absurd h c)
theorem aw_if_gt_f (X : Cx U K y cc nL ret rm) {x : Int32} {off : Int} {tgt : Nat} (hdg : decode cc pc = .ok (.ifCond .gt off, 3)) (ht : (pc : Int) + off = (tgt : Int)) (h : ¬ (0 < x)) (kk : AW U K nL cells slots Q μ (pc + 3) ls st) : AW U K nL cells slots Q μ pc ls (.int x :: st) := aw_if_gt X hdg ht (fun c => absurd c h) (fun _ => kk)
theorem aw_icmp_gt_t (X : Cx U K y cc nL ret rm) {x w : Int32} {off : Int} {tgt : Nat} (hdg : decode cc pc = .ok (.if_icmp .gt off, 3)) (ht : (pc : Int) + off = (tgt : Int)) (h : w < x) (kk : AW U K nL cells slots Q μ tgt ls st) : AW U K nL cells slots Q μ pc ls (.int w :: .int x :: st) := aw_icmp_gt X hdg ht (fun _ => kk) (fun c => absurd h c)
theorem aw_icmp_gt_f (X : Cx U K y cc nL ret rm) {x w : Int32} {off : Int} {tgt : Nat} (hdg : decode cc pc = .ok (.if_icmp .gt off, 3)) (ht : (pc : Int) + off = (tgt : Int)) (h : ¬ (w < x)) (kk : AW U K nL cells slots Q μ (pc + 3) ls st) : AW U K nL cells slots Q μ pc ls (.int w :: .int x :: st) := aw_icmp_gt X hdg ht (fun c => absurd c h) (fun _ => kk)
theorem aw_if_le_t (X : Cx U K y cc nL ret rm) {x : Int32} {off : Int} {tgt : Nat} (hdg : decode cc pc = .ok (.ifCond .le off, 3)) (ht : (pc : Int) + off = (tgt : Int)) (h : x ≤ 0) (kk : AW U K nL cells slots Q μ tgt ls st) : AW U K nL cells slots Q μ pc ls (.int x :: st) := aw_if_le X hdg ht (fun _ => kk) (fun c => absurd h c)
theorem aw_if_le_f (X : Cx U K y cc nL ret rm) {x : Int32} {off : Int} {tgt : Nat} (hdg : decode cc pc = .ok (.ifCond .le off, 3)) (ht : (pc : Int) + off = (tgt : Int)) (h : ¬ (x ≤ 0)) (kk : AW U K nL cells slots Q μ (pc + 3) ls st) : AW U K nL cells slots Q μ pc ls (.int x :: st) := aw_if_le X hdg ht (fun c => absurd c h) (fun _ => kk)
theorem aw_icmp_le_t (X : Cx U K y cc nL ret rm) {x w : Int32} {off : Int} {tgt : Nat} (hdg : decode cc pc = .ok (.if_icmp .le off, 3)) (ht : (pc : Int) + off = (tgt : Int)) (h : x ≤ w) (kk : AW U K nL cells slots Q μ tgt ls st) : AW U K nL cells slots Q μ pc ls (.int w :: .int x :: st) := aw_icmp_le X hdg ht (fun _ => kk) (fun c => absurd h c)
theorem aw_icmp_le_f (X : Cx U K y cc nL ret rm) {x w : Int32} {off : Int} {tgt : Nat} (hdg : decode cc pc = .ok (.if_icmp .le off, 3)) (ht : (pc : Int) + off = (tgt : Int)) (h : ¬ (x ≤ w)) (kk : AW U K nL cells slots Q μ (pc + 3) ls st) : AW U K nL cells slots Q μ pc ls (.int w :: .int x :: st) := aw_icmp_le X hdg ht (fun c => absurd c h) (fun _ => kk)
theorem aw_tableV (X : Cx U K y cc nL ret rm) {dflt lo hi : Int} {offs : Array Int} {len : Nat} {x : Int32} {off : Int} {tgt : Nat} (v : Int32) (hx : x = v) (hdg : decode cc pc = .ok (.tableswitch dflt lo hi offs, len)) (hx1 : ¬ v.toInt < lo) (hx2 : ¬ hi < v.toInt) (ho : offs[(v.toInt - lo).toNat]? = some off) (ht : (pc : Int) + off = (tgt : Int)) (k : AW U K nL cells slots Q μ tgt ls st) : AW U K nL cells slots Q μ pc ls (.int x :: st) := by
  subst hx
  exact aw_tableIn X hdg hx1 hx2 ho ht k
theorem xn_le {k N : Nat} {v : Int32} (h : k < N) (hN : N < 2 ^ 31) (e : v = nI N) : ¬ v ≤ nI k := by
  rw [e]
  exact nI_ge h hN
theorem xn_lt {k N : Nat} {v : Int32} (h : k < N) (hN : N < 2 ^ 31) (e : v = nI N) : nI k < v := by
  rw [e]
  exact nI_lt h hN
theorem aw_mu {μ1 : xH} (h : μ = μ1) (k : AW U K nL cells slots Q μ1 pc ls st) : AW U K nL cells slots Q μ pc ls st := h ▸ k
end XJROWS
