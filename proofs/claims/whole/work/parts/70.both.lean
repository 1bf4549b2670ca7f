/-! both objects at once -/
theorem Ct.mono {l : Launch} {U : xU} {y : MethodName} {b : ByteArray} {maxL : Nat} {ret : Option FieldType} {rm : Room} {av : List Value} {μ : xH} {post post' : Option Value → xH → Prop} (h : Ct l U y b maxL ret rm av μ post) (e : ∀ (v : Option Value) (μ' : xH), post v μ' → post' v μ') : Ct l U y b maxL ret rm av μ post' := by
  unfold Ct Met at *
  refine MetFree.mono h (fun _ _ q => q) (fun _ _ _ _ _ q => q) (fun a s o t _ hq => ?_)
  obtain ⟨⟨⟨v, μ1, h1, h2, h3⟩, h4⟩, h5⟩ := hq
  exact ⟨⟨⟨v, μ1, h1, e v μ1 h2, h3⟩, h4⟩, h5⟩
def LI (U : xU) (lab : Nat → Nat) (pa o ma : Nat → Nat) (μ : xH) : Prop :=
  ∃ (shs : Nat → Nat → Nat) (rs : xR) (p : xV) (un : Nat) (sv : Nat → Int32) (m : xV), ORep U lab μ shs pa o rs p un sv ∧ FRep U μ ma 5 FM m ∧ SimA rs p un sv m
def LA (lab ma : Nat → Nat) : Prop := ∀ n, n ≤ 15 → 3 ≤ lab (ma n)
theorem FRep.across {U : xU} {lab ma : Nat → Nat} {μ μ' : xH} {m : xV} (h : FRep U μ ma 5 FM m) (hl : LA lab ma) (e : OFr lab μ μ') : FRep U μ' ma 5 FM m := h.same (fun i hi => e _ (hl i hi))
theorem ORep.across {U : xU} {lab ma : Nat → Nat} {μ μ' : xH} {shs : Nat → Nat → Nat} {pa o : Nat → Nat} {rs : xR} {p : xV} {un : Nat} {sv : Nat → Int32} (h : ORep U lab μ shs pa o rs p un sv) (hl : LA lab ma) (e : FFr ma FM.length μ μ') : ORep U lab μ' shs pa o rs p un sv := by
  have hk : ∀ q, lab q < 3 → μ' q = μ q := fun q hq => e q (fun n hn x => by
    have := hl n hn
    rw [← x] at this
    omega)
  obtain ⟨⟨a1, a2, a3, a4, a5⟩, h1, h2, h3, h4⟩ := h
  refine ⟨⟨a1, a2, a3, a4, a5⟩, fun s hs => ?_, h2.same (fun i hi => hk _ (by rw [a3 i hi]; decide)), h3, OW.same h4 (fun i hi => hk _ (by rw [a5 i hi]; decide))⟩
  obtain ⟨b1, b2, b3⟩ := h1 s hs
  refine ⟨b1, b2, fun n hn => ?_⟩
  obtain ⟨x, g1, g2⟩ := b3 n hn
  exact ⟨x, by rw [hk _ (by rw [a2 s n hs hn]; decide)]; exact g1, g2⟩
theorem FRep.g0 {U : xU} {μ : xH} {ma : Nat → Nat} {m : xV} (h : FRep U μ ma 5 FM m) : ∃ fs : List Value, μ (ma 0) = some (.inr (5, fs)) := ⟨_, h.2.1.choose_spec.1⟩
def Mid (l : Launch) (U : xU) (lab : Nat → Nat) (pa o ma : Nat → Nat) (y5 : MethodName) (b5 : ByteArray) (ml5 : Nat) (rm5 : Room) (As : List Value) (r : Int32) (μ : xH) : Prop :=
  (∃ fs : List Value, μ (ma 0) = some (.inr (5, fs))) ∧ Ct l U y5 b5 ml5 (some .int) rm5 (.ref (ma 0) :: As) μ (fun v μ' => v = some (.int r) ∧ LI U lab pa o ma μ')
def Pair (l : Launch) (U : xU) (lab : Nat → Nat) (pa o ma : Nat → Nat) (y4 : MethodName) (b4 : ByteArray) (ml4 : Nat) (rm4 : Room) (y5 : MethodName) (b5 : ByteArray) (ml5 : Nat) (rm5 : Room) (As : List Value) : Prop :=
  ∀ μ : xH, LI U lab pa o ma μ → ∃ r : Int32, (∃ fs : List Value, μ (o 0) = some (.inr (4, fs))) ∧ Ct l U y4 b4 ml4 (some .int) rm4 (.ref (o 0) :: As) μ (fun v μ' => v = some (.int r) ∧ Mid l U lab pa o ma y5 b5 ml5 rm5 As r μ')
section XLROWS
variable {U : xU} {K : xK} {y : MethodName} {cc : ByteArray} {nL cells slots : Nat} {ret : Option FieldType} {rm : Room} {Q : State → Prop} {μ : xH} {pc index n : Nat} {ls : List (Option Value)} {st : List Value} {lab : Nat → Nat} {pa o ma : Nat → Nat} {y4 y5 : MethodName} {b4 b5 : ByteArray} {ml4 ml5 : Nat} {rm4 rm5 : Room} {As : List Value}
theorem aw_p4 (X : Cx U K y cc nL ret rm) (hL : LI U lab pa o ma μ) (hP : Pair (kl K) U lab pa o ma y4 b4 ml4 rm4 y5 b5 ml5 rm5 As) (hs : XV y.cls index y4) (hy : XY y4 b4 ml4 (some .int) n) (hrm : rm4.frames + 1 ≤ rm.frames ∧ 8 + (ml4 + 11) + rm4.locals ≤ rm.locals) (hm : rm4.cells = 0 ∧ rm4.slots = 0) (hf : cells ≤ rm.cells ∧ slots ≤ rm.slots) (hn : As.length = n) (hst : (st.map fun v => v.category).sum ≤ 8) (hci : xcl[4]? = some (y4.cls, TX4, 8)) (hdg : decode cc pc = .ok (.invokevirtual index, 3)) (kk : ∀ (μ' : xH) (r : Int32), Mid (kl K) U lab pa o ma y5 b5 ml5 rm5 As r μ' → AW U K nL cells slots Q μ' (pc + 3) ls (.int r :: st)) : AW U K nL cells slots Q μ pc ls (As.reverse ++ .ref (o 0) :: st) := by
  have hR := X.2.2.2.2.2.2.2.1
  obtain ⟨r, ⟨fs, h0⟩, hC⟩ := hP μ hL
  refine aw_cV X hC hs hy hrm (by rw [hm.1, hm.2, hR]; exact hf) hn hst h0 hci hdg (fun v μ1 hp => ?_)
  obtain ⟨rfl, hp⟩ := hp
  rw [hm.1, hm.2]
  exact kk _ _ hp
theorem aw_p5 (X : Cx U K y cc nL ret rm) {r : Int32} (hM : Mid (kl K) U lab pa o ma y5 b5 ml5 rm5 As r μ) (hs : XV y.cls index y5) (hy : XY y5 b5 ml5 (some .int) n) (hrm : rm5.frames + 1 ≤ rm.frames ∧ 8 + (ml5 + 11) + rm5.locals ≤ rm.locals) (hm : rm5.cells = 0 ∧ rm5.slots = 0) (hf : cells ≤ rm.cells ∧ slots ≤ rm.slots) (hn : As.length = n) (hst : (st.map fun v => v.category).sum ≤ 8) (hci : xcl[5]? = some (y5.cls, TX5, 15)) (hdg : decode cc pc = .ok (.invokevirtual index, 3)) (kk : ∀ μ' : xH, LI U lab pa o ma μ' → AW U K nL cells slots Q μ' (pc + 3) ls (.int r :: st)) : AW U K nL cells slots Q μ pc ls (As.reverse ++ .ref (ma 0) :: st) := by
  have hR := X.2.2.2.2.2.2.2.1
  obtain ⟨⟨fs, h0⟩, hC⟩ := hM
  refine aw_cV X hC hs hy hrm (by rw [hm.1, hm.2, hR]; exact hf) hn hst h0 hci hdg (fun v μ1 hp => ?_)
  obtain ⟨rfl, hp⟩ := hp
  rw [hm.1, hm.2]
  exact kk _ hp
/-- the script -/
theorem aw_sld (X : Cx U K y cc nL ret rm) {b L : Nat} {xs : Nat → Int32} (hX : va_X b L xs (ks K) (ks K).heap ∧ b < (ks K).heap.size ∧ ¬ uB U b) {i : Int32} (hin : vp_in i L) (hdg : decode cc pc = .ok (.iaload, 1)) (kk : AW U K nL cells slots Q μ (pc + 1) ls (.int (xs i.toNatClampNeg) :: st)) : AW U K nL cells slots Q μ pc ls (.int i :: .ref b :: st) := fun H locs la h1 h2 h3 => va_sld X.1 X.2.1 hX.1 hX.2.1 hX.2.2 h2 hin hdg (kk H locs la h1 h2 h3)
theorem aw_slen (X : Cx U K y cc nL ret rm) {b L : Nat} {xs : Nat → Int32} (hX : va_X b L xs (ks K) (ks K).heap ∧ b < (ks K).heap.size ∧ ¬ uB U b) (hdg : decode cc pc = .ok (.arraylength, 1)) (kk : AW U K nL cells slots Q μ (pc + 1) ls (.int (nI L) :: st)) : AW U K nL cells slots Q μ pc ls (.ref b :: st) := fun H locs la h1 h2 h3 => va_slen X.1 X.2.1 hX.1 hX.2.1 hX.2.2 h2 hdg (kk H locs la h1 h2 h3)
end XLROWS
