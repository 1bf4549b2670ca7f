/-! the outer object: its own cell and arrays at o 0..3, eleven jetties by role (0 now, 1 trial, 2 spare, 3..8 history, 9 and 10 slots), the pad -/
abbrev xR : Type := Nat → xV
def rup (rs : xR) (r : Nat) (z : xV) : xR := fun s => if s = r then z else rs s
theorem rup_s {rs : xR} {r : Nat} {z : xV} : rup rs r z r = z := if_pos rfl
theorem rup_n {rs : xR} {r s : Nat} {z : xV} (h : s ≠ r) : rup rs r z s = rs s := if_neg h
def nup (ρ : Nat → Nat) (r a : Nat) : Nat → Nat := fun s => if s = r then a else ρ s
theorem nup_s {ρ : Nat → Nat} {r a : Nat} : nup ρ r a r = a := if_pos rfl
theorem nup_n {ρ : Nat → Nat} {r s a : Nat} (h : s ≠ r) : nup ρ r a s = ρ s := if_neg h
def OAd (lab : Nat → Nat) (shs : Nat → Nat → Nat) (pa o : Nat → Nat) : Prop :=
  (∀ r s n k, r < 11 → s < 11 → n < 23 → k < 23 → shs r n = shs s k → r = s) ∧ (∀ r n, r < 11 → n < 23 → lab (shs r n) = 0) ∧ True ∧ (∀ i j, i < 4 → j < 4 → o i = o j → i = j) ∧ ∀ i, i < 4 → lab (o i) = 2
def ofs (o : Nat → Nat) (a0 a1 ap sp : Nat) (u : Int32) : List Value := [.ref a0, .ref a1, .ref ap, .ref (o 1), .int u, .ref sp, .ref (o 2), .ref (o 3)]
def OW (U : xU) (μ : xH) (o : Nat → Nat) (a0 a1 ap sp : Nat) (u : Int32) (h s : Nat → Nat) (sv : Nat → Int32) : Prop :=
  μ (o 0) = some (.inr (4, ofs o a0 a1 ap sp u)) ∧
  (∃ f : Nat → Option Nat, μ (o 1) = some (.inl (uC U 5, 6, .inr (.inr (.inr (.inr f))))) ∧ ∀ i, i < 6 → f i = some (h i)) ∧
  (∃ f : Nat → Option Nat, μ (o 2) = some (.inl (uC U 5, 2, .inr (.inr (.inr (.inr f))))) ∧ ∀ i, i < 2 → f i = some (s i)) ∧
  ∃ f : Nat → Int32, μ (o 3) = some (.inl (uC U 1, 2, .inl f)) ∧ ∀ i, i < 2 → f i = sv i
/-- the outer object, with its roles by ρ -/
def OWp (U : xU) (μ : xH) (shs : Nat → Nat → Nat) (pa o : Nat → Nat) (ρ : Nat → Nat) (un : Nat) (sv : Nat → Int32) : Prop :=
  OW U μ o (shs (ρ 0) 0) (shs (ρ 1) 0) (pa 0) (shs (ρ 2) 0) (nI un) (fun i => shs (ρ (3 + i)) 0) (fun i => shs (ρ (9 + i)) 0) sv
def OFr (lab : Nat → Nat) (μ μ' : xH) : Prop := ∀ q, 3 ≤ lab q → μ' q = μ q
def OWr (lab : Nat → Nat) (μ μ' : xH) : Prop := ∀ q, lab q ≠ 2 → μ' q = μ q
def ORep (U : xU) (lab : Nat → Nat) (μ : xH) (shs : Nat → Nat → Nat) (pa o : Nat → Nat) (rs : xR) (p : xV) (un : Nat) (sv : Nat → Int32) : Prop :=
  OAd lab shs pa o ∧ (∀ r, r < 11 → JRep U μ (shs r) (rs r)) ∧ True ∧ un ≤ 6 ∧ OWp U μ shs pa o (fun r => r) un sv
def OR (U : xU) (lab : Nat → Nat) (μ0 μ : xH) (shs : Nat → Nat → Nat) (pa o : Nat → Nat) (rs : xR) (p : xV) (un : Nat) (sv : Nat → Int32) : Prop := ORep U lab μ shs pa o rs p un sv ∧ OFr lab μ0 μ
theorem OW.same {U : xU} {μ μ' : xH} {o : Nat → Nat} {a0 a1 ap sp : Nat} {u : Int32} {h s : Nat → Nat} {sv : Nat → Int32} (w : OW U μ o a0 a1 ap sp u h s sv) (e : ∀ i, i < 4 → μ' (o i) = μ (o i)) : OW U μ' o a0 a1 ap sp u h s sv := by
  obtain ⟨w0, ⟨f1, w1, v1⟩, ⟨f2, w2, v2⟩, f3, w3, v3⟩ := w
  exact ⟨by rw [e 0 (by decide)]; exact w0, ⟨f1, by rw [e 1 (by decide)]; exact w1, v1⟩, ⟨f2, by rw [e 2 (by decide)]; exact w2, v2⟩, f3, by rw [e 3 (by decide)]; exact w3, v3⟩
section XWORLD
variable {U : xU} {lab : Nat → Nat} {μ0 μ μ' : xH} {shs : Nat → Nat → Nat} {pa o : Nat → Nat} {rs : xR} {p : xV} {un : Nat} {sv : Nat → Int32}
theorem OR.rf (h : ORep U lab μ shs pa o rs p un sv) : OR U lab μ μ shs pa o rs p un sv := ⟨h, fun _ _ => rfl⟩
theorem OR.tr {μ1 : xH} {shs' : Nat → Nat → Nat} {rs' : xR} {p' : xV} {un' : Nat} {sv' : Nat → Int32} (h : OR U lab μ0 μ shs pa o rs p un sv) (h2 : OR U lab μ μ1 shs' pa o rs' p' un' sv') : OR U lab μ0 μ1 shs' pa o rs' p' un' sv' := ⟨h2.1, fun q hq => (h2.2 q hq).trans (h.2 q hq)⟩
theorem OR.to {rs' : xR} {p' : xV} (h : OR U lab μ0 μ shs pa o rs p un sv) (e1 : rs = rs') (e2 : p = p') : OR U lab μ0 μ shs pa o rs' p' un sv := e1 ▸ e2 ▸ h
theorem OR.J (h : OR U lab μ0 μ shs pa o rs p un sv) (r : Nat) (hr : r < 11) : JRep U μ (shs r) (rs r) := h.1.2.1 r hr
theorem OR.jr (h : OR U lab μ0 μ shs pa o rs p un sv) (r : Nat) (hr : r < 11) : JR U μ μ (shs r) (rs r) := JR.rf (h.1.2.1 r hr)
theorem OR.g0 (h : OR U lab μ0 μ shs pa o rs p un sv) : μ (o 0) = some (.inr (4, ofs o (shs 0 0) (shs 1 0) (pa 0) (shs 2 0) (nI un))) := h.1.2.2.2.2.1
theorem OR.un6 (h : OR U lab μ0 μ shs pa o rs p un sv) : un ≤ 6 := h.1.2.2.2.1
theorem OR.ne (h : OR U lab μ0 μ shs pa o rs p un sv) {r s : Nat} (hr : r < 11) (hs : s < 11) (hne : r ≠ s) : ∀ n m, n < 23 → m < 23 → shs r n ≠ shs s m := fun n m hn hm e => hne (h.1.1.1 r s n m hr hs hn hm e)
/-- a jetty has changed -/
theorem OR.upJ (h : OR U lab μ0 μ shs pa o rs p un sv) (r : Nat) (hr : r < 11) {z : xV} (hJ : JR U μ μ' (shs r) z) : OR U lab μ0 μ' shs pa o (rup rs r z) p un sv := by
  obtain ⟨⟨⟨a1, a2, a3, a4, a5⟩, h1, h2, h3, h4⟩, hF⟩ := h
  refine ⟨⟨⟨a1, a2, a3, a4, a5⟩, fun s hs => ?_, ?_, h3, ?_⟩, fun q hq => ?_⟩
  · by_cases e : s = r
    · subst e; rw [rup_s]; exact hJ.1
    · rw [rup_n e]
      exact (h1 s hs).fr hJ.2 (fun n m hn hm q => e (a1 s r n m hs hr hn hm q))
  · exact trivial
  · refine OW.same h4 (fun i hi => hJ.2 _ (fun n hn q => ?_))
    have := a5 i hi
    rw [q, a2 r n hr hn] at this
    cases this
  · refine (hJ.2 q (fun n hn e => ?_)).trans (hF q hq)
    have := a2 r n hr hn
    rw [← e] at this
    omega
/-- the outer object is written, its roles by ρ -/
def OM (U : xU) (lab : Nat → Nat) (μ0 μ : xH) (shs : Nat → Nat → Nat) (pa o : Nat → Nat) (rs : xR) (p : xV) (sv : Nat → Int32) (ρ : Nat → Nat) (un : Nat) : Prop :=
  OAd lab shs pa o ∧ (∀ r, r < 11 → JRep U μ (shs r) (rs r)) ∧ True ∧ OWp U μ shs pa o ρ un sv ∧ (∀ r, r < 11 → ρ r < 11) ∧ OFr lab μ0 μ
theorem OR.om (h : OR U lab μ0 μ shs pa o rs p un sv) : OM U lab μ0 μ shs pa o rs p sv (fun r => r) un := ⟨h.1.1, h.1.2.1, h.1.2.2.1, h.1.2.2.2.2, fun r hr => hr, h.2⟩
theorem OM.fin {ρ : Nat → Nat} (h : OM U lab μ0 μ shs pa o rs p sv ρ un) (hi : ∀ r s, r < 11 → s < 11 → ρ r = ρ s → r = s) (hu : un ≤ 6) : OR U lab μ0 μ (fun r => shs (ρ r)) pa o (fun r => rs (ρ r)) p un sv := by
  obtain ⟨⟨a1, a2, a3, a4, a5⟩, h1, h2, h4, h5, hF⟩ := h
  exact ⟨⟨⟨fun r s n k hr hs hn hk e => hi r s hr hs (a1 _ _ n k (h5 r hr) (h5 s hs) hn hk e), fun r n hr hn => a2 _ n (h5 r hr) hn, a3, a4, a5⟩, fun r hr => h1 _ (h5 r hr), h2, hu, h4⟩, hF⟩
theorem OM.wr {ρ ρ' : Nat → Nat} {un' : Nat} {sv' : Nat → Int32} (h : OM U lab μ0 μ shs pa o rs p sv ρ un) (hw : OWr lab μ μ') (hW : OWp U μ' shs pa o ρ' un' sv') (h5' : ∀ r, r < 11 → ρ' r < 11) : OM U lab μ0 μ' shs pa o rs p sv' ρ' un' := by
  obtain ⟨⟨a1, a2, a3, a4, a5⟩, h1, h2, h4, h5, hF⟩ := h
  refine ⟨⟨a1, a2, a3, a4, a5⟩, fun s hs => ?_, ?_, hW, h5', fun q hq => (hw q (by omega)).trans (hF q hq)⟩
  · obtain ⟨b1, b2, b3⟩ := h1 s hs
    refine ⟨b1, b2, fun n hn => ?_⟩
    obtain ⟨x, g1, g2⟩ := b3 n hn
    exact ⟨x, by rw [hw _ (by rw [a2 s n hs hn]; decide)]; exact g1, g2⟩
  · exact trivial
theorem xup_wr {n : Nat} {e : va_E} (h : lab n = 2) : OWr lab μ (xup μ n e) := fun q hq => xup_n (fun x => hq (x ▸ h))
theorem OM.ad {ρ : Nat → Nat} (h : OM U lab μ0 μ shs pa o rs p sv ρ un) {i j : Nat} (hi : i < 4) (hj : j < 4) (hne : i ≠ j) : o i ≠ o j := fun e => hne (h.1.2.2.2.1 i j hi hj e)
/-- undoable is written -/
theorem OM.putU {ρ : Nat → Nat} (h : OM U lab μ0 μ shs pa o rs p sv ρ un) {un' : Nat} : OM U lab μ0 (xup μ (o 0) (.inr (4, (ofs o (shs (ρ 0) 0) (shs (ρ 1) 0) (pa 0) (shs (ρ 2) 0) (nI un)).set 4 (.int (nI un'))))) shs pa o rs p sv ρ un' := by
  refine h.wr (xup_wr (h.1.2.2.2.2 0 (by decide))) ?_ h.2.2.2.2.1
  obtain ⟨w0, ⟨f1, w1, v1⟩, ⟨f2, w2, v2⟩, f3, w3, v3⟩ := h.2.2.2.1
  exact ⟨xup_s, ⟨f1, by rw [xup_n (h.ad (by decide) (by decide) (by decide))]; exact w1, v1⟩, ⟨f2, by rw [xup_n (h.ad (by decide) (by decide) (by decide))]; exact w2, v2⟩, f3, by rw [xup_n (h.ad (by decide) (by decide) (by decide))]; exact w3, v3⟩
/-- spare is written -/
theorem OM.putS {ρ : Nat → Nat} (h : OM U lab μ0 μ shs pa o rs p sv ρ un) {a : Nat} (ha : a < 11) : OM U lab μ0 (xup μ (o 0) (.inr (4, (ofs o (shs (ρ 0) 0) (shs (ρ 1) 0) (pa 0) (shs (ρ 2) 0) (nI un)).set 5 (.ref (shs a 0))))) shs pa o rs p sv (nup ρ 2 a) un := by
  refine h.wr (xup_wr (h.1.2.2.2.2 0 (by decide))) ?_ (fun r hr => by unfold nup; split; exact ha; exact h.2.2.2.2.1 r hr)
  obtain ⟨w0, ⟨f1, w1, v1⟩, ⟨f2, w2, v2⟩, f3, w3, v3⟩ := h.2.2.2.1
  refine ⟨?_, ⟨f1, by rw [xup_n (h.ad (by decide) (by decide) (by decide))]; exact w1, fun i hi => ?_⟩, ⟨f2, by rw [xup_n (h.ad (by decide) (by decide) (by decide))]; exact w2, fun i hi => ?_⟩, f3, by rw [xup_n (h.ad (by decide) (by decide) (by decide))]; exact w3, v3⟩
  · rw [xup_s, nup_s, nup_n (by decide), nup_n (by decide)]
    rfl
  · show f1 i = some (shs (nup ρ 2 a (3 + i)) 0)
    rw [nup_n (by omega)]; exact v1 i hi
  · show f2 i = some (shs (nup ρ 2 a (9 + i)) 0)
    rw [nup_n (by omega)]; exact v2 i hi
/-- a place of the history is written -/
theorem OM.putH {ρ : Nat → Nat} (h : OM U lab μ0 μ shs pa o rs p sv ρ un) {a i : Nat} (hi : i < 6) (ha : a < 11) {f : Nat → Option Nat} (hf : μ (o 1) = some (.inl (uC U 5, 6, .inr (.inr (.inr (.inr f)))))) : OM U lab μ0 (xup μ (o 1) (.inl (uC U 5, 6, .inr (.inr (.inr (.inr (va_up f i (some (shs a 0)))))))) ) shs pa o rs p sv (nup ρ (3 + i) a) un := by
  refine h.wr (xup_wr (h.1.2.2.2.2 1 (by decide))) ?_ (fun r hr => by unfold nup; split; exact ha; exact h.2.2.2.2.1 r hr)
  obtain ⟨w0, ⟨f1, w1, v1⟩, ⟨f2, w2, v2⟩, f3, w3, v3⟩ := h.2.2.2.1
  rw [hf] at w1
  cases w1
  refine ⟨?_, ⟨_, xup_s, fun j hj => ?_⟩, ⟨f2, by rw [xup_n (h.ad (by decide) (by decide) (by decide))]; exact w2, fun j hj => ?_⟩, f3, by rw [xup_n (h.ad (by decide) (by decide) (by decide))]; exact w3, v3⟩
  · rw [xup_n (h.ad (by decide) (by decide) (by decide)), nup_n (by omega), nup_n (by omega), nup_n (by omega)]
    exact w0
  · show va_up f i (some (shs a 0)) j = some (shs (nup ρ (3 + i) a (3 + j)) 0)
    by_cases e : j = i
    · subst e
      rw [nup_s]
      simp [va_up]
    · rw [nup_n (by omega)]
      simp only [va_up, if_neg e]
      exact v1 j hj
  · show f2 j = some (shs (nup ρ (3 + i) a (9 + j)) 0)
    rw [nup_n (by omega)]; exact v2 j hj
theorem OM.putV {ρ : Nat → Nat} (h : OM U lab μ0 μ shs pa o rs p sv ρ un) {i : Nat} {v : Int32} {f : Nat → Int32} (hf : μ (o 3) = some (.inl (uC U 1, 2, .inl f))) : OM U lab μ0 (xup μ (o 3) (.inl (uC U 1, 2, .inl (upd f i v)))) shs pa o rs p (upd sv i v) ρ un := by
  refine h.wr (xup_wr (h.1.2.2.2.2 3 (by decide))) ?_ h.2.2.2.2.1
  obtain ⟨w0, ⟨f1, w1, v1⟩, ⟨f2, w2, v2⟩, f3, w3, v3⟩ := h.2.2.2.1
  rw [hf] at w3
  cases w3
  exact ⟨by rw [xup_n (h.ad (by decide) (by decide) (by decide))]; exact w0, ⟨f1, by rw [xup_n (h.ad (by decide) (by decide) (by decide))]; exact w1, v1⟩, ⟨f2, by rw [xup_n (h.ad (by decide) (by decide) (by decide))]; exact w2, v2⟩, _, xup_s, fun j hj => upd_eq2 (v3 j hj)⟩
end XWORLD
/-- a method of the outer object: what it answers, and its rows behind it -/
abbrev CtO (l : Launch) (U : xU) (y : MethodName) (b : ByteArray) (maxL : Nat) (ret : Option FieldType) (rm : Room) (av : List Value) (lab : Nat → Nat) (μ : xH) (pa o : Nat → Nat) (r : Int32) (rs : xR) (p : xV) (un : Nat) (sv : Nat → Int32) : Prop := Ct l U y b maxL ret rm av μ (fun v μ' => v = some (.int r) ∧ ∃ shs, OR U lab μ μ' shs pa o rs p un sv)
abbrev CtOK (l : Launch) (U : xU) (y : MethodName) (b : ByteArray) (maxL : Nat) (ret : Option FieldType) (rm : Room) (av : List Value) (lab : Nat → Nat) (μ : xH) (shs : Nat → Nat → Nat) (pa o : Nat → Nat) (rs : xR) (p : xV) (un : Nat) (sv : Nat → Int32) : Prop := Ct l U y b maxL ret rm av μ (fun v μ' => v = none ∧ OR U lab μ μ' shs pa o rs p un sv)
/-- .. the jetties stand where they stood -/
abbrev CtOJ (l : Launch) (U : xU) (y : MethodName) (b : ByteArray) (maxL : Nat) (ret : Option FieldType) (rm : Room) (av : List Value) (lab : Nat → Nat) (μ : xH) (shs : Nat → Nat → Nat) (pa o : Nat → Nat) (r : Int32) (rs : xR) (p : xV) (un : Nat) (sv : Nat → Int32) : Prop := Ct l U y b maxL ret rm av μ (fun v μ' => v = some (.int r) ∧ OR U lab μ μ' shs pa o rs p un sv)
section XOROWS
variable {U : xU} {K : xK} {y : MethodName} {cc : ByteArray} {nL cells slots : Nat} {ret : Option FieldType} {rm : Room} {Q : State → Prop} {lab : Nat → Nat} {μ0 μ : xH} {shs : Nat → Nat → Nat} {pa o ρ : Nat → Nat} {rs : xR} {p : xV} {un : Nat} {sv : Nat → Int32} {pc index : Nat} {ls : List (Option Value)} {st : List Value}
theorem aw_oget (X : Cx U K y cc nL ret rm) (hO : OR U lab μ0 μ shs pa o rs p un sv) {k : Nat} {v : Value} (hf : XF y.cls index 4 k RX4 TX4 8) (hv : (ofs o (shs 0 0) (shs 1 0) (pa 0) (shs 2 0) (nI un))[k]? = some v) (hdg : decode cc pc = .ok (.getfield index, 3)) (kk : AW U K nL cells slots Q μ (pc + 3) ls (v :: st)) : AW U K nL cells slots Q μ pc ls (.ref (o 0) :: st) := aw_get X hf hO.g0 hv hdg kk
theorem aw_ohist (X : Cx U K y cc nL ret rm) (hO : OR U lab μ0 μ shs pa o rs p un sv) (i : Nat) (hi : i < 6) {v : Int32} (hv : v = nI i) (hdg : decode cc pc = .ok (.aaload, 1)) (kk : AW U K nL cells slots Q μ (pc + 1) ls (.ref (shs (3 + i) 0) :: st)) : AW U K nL cells slots Q μ pc ls (.int v :: .ref (o 1) :: st) := by
  subst hv
  obtain ⟨f, h1, h2⟩ := hO.1.2.2.2.2.2.1
  exact aw_aald X (t0 := 5) rfl h1 (vp_in_nI hi (by decide)) (by rw [nI_clamp (by omega)]; exact h2 i hi) hdg kk
theorem aw_oslot (X : Cx U K y cc nL ret rm) (hO : OR U lab μ0 μ shs pa o rs p un sv) (i : Nat) (hi : i < 2) {v : Int32} (hv : v = nI i) (hdg : decode cc pc = .ok (.aaload, 1)) (kk : AW U K nL cells slots Q μ (pc + 1) ls (.ref (shs (9 + i) 0) :: st)) : AW U K nL cells slots Q μ pc ls (.int v :: .ref (o 2) :: st) := by
  subst hv
  obtain ⟨f, h1, h2⟩ := hO.1.2.2.2.2.2.2.1
  exact aw_aald X (t0 := 5) rfl h1 (vp_in_nI hi (by decide)) (by rw [nI_clamp (by omega)]; exact h2 i hi) hdg kk
theorem aw_osav (X : Cx U K y cc nL ret rm) (hO : OR U lab μ0 μ shs pa o rs p un sv) (i : Nat) (hi : i < 2) {v : Int32} (hv : v = nI i) (hdg : decode cc pc = .ok (.baload, 1)) (kk : AW U K nL cells slots Q μ (pc + 1) ls (.int (sv i) :: st)) : AW U K nL cells slots Q μ pc ls (.int v :: .ref (o 3) :: st) := by
  subst hv
  obtain ⟨f, h1, h2⟩ := hO.1.2.2.2.2.2.2.2
  refine aw_zald X h1 (vp_in_nI hi (by decide)) hdg ?_
  rw [nI_clamp (by omega), h2 i hi]
  exact kk
theorem aw_oputU (X : Cx U K y cc nL ret rm) (hO : OR U lab μ0 μ shs pa o rs p un sv) (u : Nat) (hu : u ≤ 6) {v : Int32} (hv : v = nI u) (hf : XF y.cls index 4 4 RX4 TX4 8) (hdg : decode cc pc = .ok (.putfield index, 3)) (kk : ∀ μ' : xH, OR U lab μ0 μ' shs pa o rs p u sv → AW U K nL cells slots Q μ' (pc + 3) ls st) : AW U K nL cells slots Q μ pc ls (.int v :: .ref (o 0) :: st) := by
  subst hv
  exact aw_put X hf hO.g0 rfl (ty := .int) (by decide +kernel) xfit_i (by show 4 < 8; decide) hdg (kk _ (hO.om.putU.fin (fun _ _ _ _ e => e) hu))
theorem aw_osave (X : Cx U K y cc nL ret rm) (hO : OR U lab μ0 μ shs pa o rs p un sv) (i : Nat) (hi : i < 2) {v x : Int32} (hv : v = nI i) (hx : xz x) (hdg : decode cc pc = .ok (.bastore, 1)) (kk : ∀ μ' : xH, OR U lab μ0 μ' shs pa o rs p un (upd sv i x) → AW U K nL cells slots Q μ' (pc + 1) ls st) : AW U K nL cells slots Q μ pc ls (.int x :: .int v :: .ref (o 3) :: st) := by
  subst hv
  obtain ⟨f, h1, h2⟩ := hO.1.2.2.2.2.2.2.2
  refine aw_zast X hx h1 (vp_in_nI hi (by decide)) hdg ?_
  have e : (nI i).toNatClampNeg = i := nI_clamp (by omega)
  rw [e]
  exact kk _ ((hO.om.putV h1).fin (fun _ _ _ _ e => e) hO.un6)
theorem aw_mget (X : Cx U K y cc nL ret rm) (hW : OM U lab μ0 μ shs pa o rs p sv ρ un) {k : Nat} {v : Value} (hf : XF y.cls index 4 k RX4 TX4 8) (hv : (ofs o (shs (ρ 0) 0) (shs (ρ 1) 0) (pa 0) (shs (ρ 2) 0) (nI un))[k]? = some v) (hdg : decode cc pc = .ok (.getfield index, 3)) (kk : AW U K nL cells slots Q μ (pc + 3) ls (v :: st)) : AW U K nL cells slots Q μ pc ls (.ref (o 0) :: st) := aw_get X hf hW.2.2.2.1.1 hv hdg kk
theorem aw_mhist (X : Cx U K y cc nL ret rm) (hW : OM U lab μ0 μ shs pa o rs p sv ρ un) (i : Nat) (hi : i < 6) (a : Nat) (ha : ρ (3 + i) = a) {v : Int32} (hv : v = nI i) (hdg : decode cc pc = .ok (.aaload, 1)) (kk : AW U K nL cells slots Q μ (pc + 1) ls (.ref (shs a 0) :: st)) : AW U K nL cells slots Q μ pc ls (.int v :: .ref (o 1) :: st) := by
  subst hv
  subst ha
  obtain ⟨f, h1, h2⟩ := hW.2.2.2.1.2.1
  exact aw_aald X (t0 := 5) rfl h1 (vp_in_nI hi (by decide)) (by rw [nI_clamp (by omega)]; exact h2 i hi) hdg kk
theorem aw_mputU (X : Cx U K y cc nL ret rm) (hW : OM U lab μ0 μ shs pa o rs p sv ρ un) (u : Nat) {v : Int32} (hv : v = nI u) (hf : XF y.cls index 4 4 RX4 TX4 8) (hdg : decode cc pc = .ok (.putfield index, 3)) (kk : ∀ μ' : xH, OM U lab μ0 μ' shs pa o rs p sv ρ u → AW U K nL cells slots Q μ' (pc + 3) ls st) : AW U K nL cells slots Q μ pc ls (.int v :: .ref (o 0) :: st) := by
  subst hv
  exact aw_put X hf hW.2.2.2.1.1 rfl (ty := .int) (by decide +kernel) xfit_i (by show 4 < 8; decide) hdg (kk _ hW.putU)
theorem aw_mputS (X : Cx U K y cc nL ret rm) (hW : OM U lab μ0 μ shs pa o rs p sv ρ un) (a : Nat) (ha : a < 11) (hf : XF y.cls index 4 5 RX4 TX4 8) (hdg : decode cc pc = .ok (.putfield index, 3)) (kk : ∀ μ' : xH, OM U lab μ0 μ' shs pa o rs p sv (nup ρ 2 a) un → AW U K nL cells slots Q μ' (pc + 3) ls st) : AW U K nL cells slots Q μ pc ls (.ref (shs a 0) :: .ref (o 0) :: st) :=
  aw_put X hf hW.2.2.2.1.1 rfl (ty := .object RX1) (by decide +kernel) ⟨rfl, rfl⟩ (by show 5 < 8; decide) hdg (kk _ (hW.putS ha))
theorem aw_mputH (X : Cx U K y cc nL ret rm) (hW : OM U lab μ0 μ shs pa o rs p sv ρ un) (i a : Nat) (hi : i < 6) (ha : a < 11) {v : Int32} (hv : v = nI i) (hdg : decode cc pc = .ok (.aastore, 1)) (kk : ∀ μ' : xH, OM U lab μ0 μ' shs pa o rs p sv (nup ρ (3 + i) a) un → AW U K nL cells slots Q μ' (pc + 1) ls st) : AW U K nL cells slots Q μ pc ls (.ref (shs a 0) :: .int v :: .ref (o 1) :: st) := by
  subst hv
  obtain ⟨f, h1, h2⟩ := hW.2.2.2.1.2.1
  refine aw_aast X (t0 := 5) (r := (RX1, TX1, 14)) rfl h1 (JR.rf (hW.2.1 a ha)).g0 rfl (vp_in_nI hi (by decide)) hdg ?_
  have e : (nI i).toNatClampNeg = i := nI_clamp (by omega)
  rw [e]
  exact kk _ (hW.putH hi ha h1)
variable {y' : MethodName} {b' : ByteArray} {maxL n : Nat} {ret' : Option FieldType} {rm' : Room} {rs' : xR} {p' : xV} {un' : Nat} {sv' : Nat → Int32}
theorem aw_cVO (X : Cx U K y cc nL ret rm) {As : List Value} {r : Int32} (hO : OR U lab μ0 μ shs pa o rs p un sv) (hM : CtO (kl K) U y' b' maxL ret' rm' (.ref (o 0) :: As) lab μ pa o r rs' p' un' sv') (hs : XV y.cls index y') (hy : XY y' b' maxL ret' n) (hrm : rm'.frames + 1 ≤ rm.frames ∧ 8 + (maxL + 11) + rm'.locals ≤ rm.locals) (hm : rm'.cells = 0 ∧ rm'.slots = 0) (hf : cells ≤ rm.cells ∧ slots ≤ rm.slots) (hn : As.length = n) (hst : (st.map fun v => v.category).sum ≤ 8) (hci : xcl[4]? = some (y'.cls, TX4, 8)) (hdg : decode cc pc = .ok (.invokevirtual index, 3)) (kk : ∀ (μ' : xH) (shs' : Nat → Nat → Nat), OR U lab μ0 μ' shs' pa o rs' p' un' sv' → AW U K nL cells slots Q μ' (pc + 3) ls (.int r :: st)) : AW U K nL cells slots Q μ pc ls (As.reverse ++ .ref (o 0) :: st) := by
  have hR := X.2.2.2.2.2.2.2.1
  refine aw_cV X hM hs hy hrm (by rw [hm.1, hm.2, hR]; exact hf) hn hst hO.g0 hci hdg (fun v μ1 hp => ?_)
  obtain ⟨rfl, shs', hp⟩ := hp
  rw [hm.1, hm.2]
  exact kk _ _ (hO.tr hp)
theorem aw_cVOJ (X : Cx U K y cc nL ret rm) {As : List Value} {r : Int32} {shs' : Nat → Nat → Nat} (hO : OR U lab μ0 μ shs pa o rs p un sv) (hM : CtOJ (kl K) U y' b' maxL ret' rm' (.ref (o 0) :: As) lab μ shs' pa o r rs' p' un' sv') (hs : XV y.cls index y') (hy : XY y' b' maxL ret' n) (hrm : rm'.frames + 1 ≤ rm.frames ∧ 8 + (maxL + 11) + rm'.locals ≤ rm.locals) (hm : rm'.cells = 0 ∧ rm'.slots = 0) (hf : cells ≤ rm.cells ∧ slots ≤ rm.slots) (hn : As.length = n) (hst : (st.map fun v => v.category).sum ≤ 8) (hci : xcl[4]? = some (y'.cls, TX4, 8)) (hdg : decode cc pc = .ok (.invokevirtual index, 3)) (kk : ∀ μ' : xH, OR U lab μ0 μ' shs' pa o rs' p' un' sv' → AW U K nL cells slots Q μ' (pc + 3) ls (.int r :: st)) : AW U K nL cells slots Q μ pc ls (As.reverse ++ .ref (o 0) :: st) := by
  have hR := X.2.2.2.2.2.2.2.1
  refine aw_cV X hM hs hy hrm (by rw [hm.1, hm.2, hR]; exact hf) hn hst hO.g0 hci hdg (fun v μ1 hp => ?_)
  obtain ⟨rfl, hp⟩ := hp
  rw [hm.1, hm.2]
  exact kk _ (hO.tr hp)
theorem aw_cVOK (X : Cx U K y cc nL ret rm) {As : List Value} {shs' : Nat → Nat → Nat} (hO : OR U lab μ0 μ shs pa o rs p un sv) (hM : CtOK (kl K) U y' b' maxL ret' rm' (.ref (o 0) :: As) lab μ shs' pa o rs' p' un' sv') (hs : XV y.cls index y') (hy : XY y' b' maxL ret' n) (hrm : rm'.frames + 1 ≤ rm.frames ∧ 8 + (maxL + 11) + rm'.locals ≤ rm.locals) (hm : rm'.cells = 0 ∧ rm'.slots = 0) (hf : cells ≤ rm.cells ∧ slots ≤ rm.slots) (hn : As.length = n) (hst : (st.map fun v => v.category).sum ≤ 8) (hci : xcl[4]? = some (y'.cls, TX4, 8)) (hdg : decode cc pc = .ok (.invokevirtual index, 3)) (kk : ∀ μ' : xH, OR U lab μ0 μ' shs' pa o rs' p' un' sv' → AW U K nL cells slots Q μ' (pc + 3) ls st) : AW U K nL cells slots Q μ pc ls (As.reverse ++ .ref (o 0) :: st) := by
  have hR := X.2.2.2.2.2.2.2.1
  refine aw_cV X hM hs hy hrm (by rw [hm.1, hm.2, hR]; exact hf) hn hst hO.g0 hci hdg (fun v μ1 hp => ?_)
  obtain ⟨rfl, hp⟩ := hp
  rw [hm.1, hm.2]
  exact kk _ (hO.tr hp)
end XOROWS
