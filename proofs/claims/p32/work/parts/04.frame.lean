/-! the abstract heap, keyed by address; a frame's judgement AW over it; a contract Ct -/
abbrev xH : Type := Nat → Option va_E
def xup (μ : xH) (a : Nat) (e : va_E) : xH := fun q => if q = a then some e else μ q
theorem xup_s {μ : xH} {a : Nat} {e : va_E} : xup μ a e a = some e := if_pos rfl
theorem xup_n {μ : xH} {a b : Nat} {e : va_E} (h : b ≠ a) : xup μ a e b = μ b := if_neg h
/-- the machine of a frame: program, launch, environment, room, start, method, arguments, frames below, its table rows -/
abbrev xK : Type := Program × Launch × Env × Room × State × MethodId × Array Value × List Frame × Method × Code
abbrev kp (K : xK) : Program := K.1
abbrev kl (K : xK) : Launch := K.2.1
abbrev ke (K : xK) : Env := K.2.2.1
abbrev kR (K : xK) : Room := K.2.2.2.1
abbrev ks (K : xK) : State := K.2.2.2.2.1
abbrev km (K : xK) : MethodId := K.2.2.2.2.2.1
abbrev ka (K : xK) : Array Value := K.2.2.2.2.2.2.1
abbrev kb (K : xK) : List Frame := K.2.2.2.2.2.2.2.1
abbrev kM (K : xK) : Method := K.2.2.2.2.2.2.2.2.1
abbrev kc (K : xK) : Code := K.2.2.2.2.2.2.2.2.2
/-- what a run holds fast: class numbers and slots, the first address that is ours, where the static tables stand, the array classes -/
abbrev xU : Type := va_G × Nat × (Nat → Nat) × (Nat → ClassId)
abbrev uB (U : xU) : Nat → Prop := fun q => U.2.1 ≤ q
abbrev uA (U : xU) : Nat → Nat := U.2.2.1
abbrev uC (U : xU) : Nat → ClassId := U.2.2.2
abbrev xty (cA : Nat → ClassId) : List (ClassId × FieldType) := [(cA 0, .int), (cA 1, .boolean), (cA 2, .char), (cA 3, .object RX0), (cA 4, .object RX3), (cA 5, .object RX1)]
/-- the static tables: name, length, contents -/
def xsN : Nat → String := fun i => match i with
  | 0 => "FIRST_SETTING"
  | 1 => "LEAST_SETTING"
  | 2 => "MOST_SETTING"
  | _ => "TIDE_TENTHS"
def xsL : Nat → Nat := fun i => match i with
  | 3 => 12
  | _ => 6
def xsV : Nat → Nat → Int32 := fun i j => match i with
  | 0 => [90, 20, 5, 10, 24, 5].getD j 0
  | 1 => [50, 0, 0, 1, 0, 1].getD j 0
  | 2 => [150, 40, 20, 40, 99, 99].getD j 0
  | _ => [0, 5, 9, 10, 9, 5, 0, -5, -9, -10, -9, -5].getD j 0
/-- the first static table, cell by cell (it is cloned) -/
def xE (U : xU) (H : Heap) : Prop := ∃ cell : Cell, H[uA U 0]? = some cell ∧ cell.cls = uC U 0 ∧ cell.slots = (vp_cell (uC U 0) (6, .inl (xsV 0))).slots ∧ (∀ k, cell.vm ≠ .statics k) ∧ cell.vm ≠ .unknown ∧ ¬ uB U (uA U 0)
/-- the script: its address is the fifth that is kept -/
def xScr (U : xU) (S : State) (H : Heap) : Prop := ∃ (L : Nat) (xs : Nat → Int32), L ≤ 260 ∧ va_X (uA U 4) L xs S H ∧ ¬ uB U (uA U 4)
theorem xScr.moved {U : xU} {S S' : State} {H : Heap} (ha : S.vm.Alike S'.vm) (h : xScr U S H) : xScr U S' H := by
  obtain ⟨L, xs, h1, h2, h3⟩ := h
  exact ⟨L, xs, h1, h2.moved ha, h3⟩
theorem xScr.kept {U : xU} {S : State} {H H1 : Heap} (hq : ∀ a : Nat, a < H.size → ¬ uB U a → H1[a]? = H[a]?) (h : xScr U S H) : xScr U S H1 := by
  obtain ⟨L, xs, h1, h2, h3⟩ := h
  have hlt : uA U 4 < H.size := by
    obtain ⟨scr, e, -⟩ := h2
    exact (Array.getElem?_eq_some_iff.mp e).1
  exact ⟨L, xs, h1, h2.kept (hq _ hlt h3), h3⟩
/-- what is known of the tables and of the static arrays, at a state and a heap -/
def Kn (U : xU) (S : State) (H : Heap) : Prop :=
  va_K U.1 xcl (xty (uC U)) S ∧ (∀ q ∈ xnM, va_Nw (.methodLinkNest q.1 q.2.1 q.2.2.1 q.2.2.2) S) ∧ (∀ q ∈ xnF, va_Nw (.fieldLinkNest q.1 q.2.1 q.2.2.1 q.2.2.2.1 q.2.2.2.2.1 q.2.2.2.2.2) S) ∧
  (va_AO RX0 S ∧ va_AO RX3 S ∧ va_AO RX1 S) ∧ (va_Nw (.castable "[I" "java/lang/Cloneable") S ∧ xScr U S H) ∧
  (∀ i, i < 4 → va_Z RX4 (xsN i) "[I" (.ref (uA U i)) (uB U) S H ∧ va_T .int (uA U i) (xsL i) (fun j => .int (xsV i j)) (uB U) S H) ∧ xE U H
theorem Kn.same {U : xU} {S S' : State} {H : Heap} (h : S.vm = S'.vm) (k : Kn U S H) : Kn U S' H := by
  obtain ⟨k1, k2, k3, ⟨k4, k5, k6⟩, ⟨k7, ks'⟩, k8, k9⟩ := k
  have ha : S.vm.Alike S'.vm := h ▸ Vm.Alike.refl S.vm
  exact ⟨k1.moved ha, fun q hq => (k2 q hq).same rfl h, fun q hq => (k3 q hq).same rfl h, ⟨k4.moved ha, k5.moved ha, k6.moved ha⟩, ⟨k7.same rfl h, ks'.moved ha⟩, fun i hi => ⟨(k8 i hi).1.moved ha, (k8 i hi).2.moved ha⟩, k9⟩
theorem Kn.warm {U : xU} {S S' : State} {H : Heap} (h : S.WarmedH S'.vm) (k : Kn U S H) : Kn U S' H := by
  obtain ⟨k1, k2, k3, ⟨k4, k5, k6⟩, ⟨k7, ks'⟩, k8, k9⟩ := k
  have ha := h.alike
  exact ⟨k1.moved ha, fun q hq => (k2 q hq).warmM h, fun q hq => (k3 q hq).warmF h, ⟨k4.moved ha, k5.moved ha, k6.moved ha⟩, ⟨k7.warmC h, ks'.moved ha⟩, fun i hi => ⟨(k8 i hi).1.moved ha, (k8 i hi).2.moved ha⟩, k9⟩
theorem Kn.kept {U : xU} {S : State} {H H1 : Heap} (hq : ∀ a : Nat, a < H.size → ¬ uB U a → H1[a]? = H[a]?) (k : Kn U S H) : Kn U S H1 := by
  obtain ⟨k1, k2, k3, k4, ⟨k7, ks'⟩, k8, cell, e1, e2, e3, e4, e5, e6⟩ := k
  exact ⟨k1, k2, k3, k4, ⟨k7, ks'.kept hq⟩, fun i hi => ⟨(k8 i hi).1.kept hq, (k8 i hi).2.kept hq⟩, cell, by rw [hq _ (Array.getElem?_eq_some_iff.mp e1).1 e6]; exact e1, e2, e3, e4, e5, e6⟩
/-- the machine's heap holds the abstract one -/
def Hd (U : xU) (μ : xH) (H : Heap) : Prop := ∀ (a : Nat) (e : va_E), μ a = some e → uB U a ∧ va_at U.1 xcl (a, e) H
theorem Hd.lt {U : xU} {μ : xH} {H : Heap} (h : Hd U μ H) {a : Nat} {e : va_E} (ha : μ a = some e) : a < H.size := (h a e ha).2.lt
theorem Hd.put {U : xU} {μ : xH} {H H1 : Heap} (h : Hd U μ H) {a : Nat} {e0 e : va_E} (ha : μ a = some e0) (he : va_at U.1 xcl (a, e) H1) (ho : ∀ q : Nat, q ≠ a → H1[q]? = H[q]?) : Hd U (xup μ a e) H1 := by
  intro q x hx
  by_cases hq : q = a
  · subst hq
    rw [xup_s] at hx
    cases hx
    exact ⟨(h q e0 ha).1, he⟩
  · rw [xup_n hq] at hx
    exact ⟨(h q x hx).1, (h q x hx).2.kept (ho q hq)⟩
theorem Hd.new {U : xU} {μ : xH} {H H1 : Heap} (h : Hd U μ H) {a : Nat} {e : va_E} (hn : a = H.size) (hB : uB U a) (he : va_at U.1 xcl (a, e) H1) (ho : ∀ q : Nat, q < H.size → H1[q]? = H[q]?) : Hd U (xup μ a e) H1 := by
  intro q x hx
  by_cases hq : q = a
  · subst hq
    rw [xup_s] at hx
    cases hx
    exact ⟨hB, he⟩
  · rw [xup_n hq] at hx
    exact ⟨(h q x hx).1, (h q x hx).2.kept (ho q ((h q x hx).2.lt))⟩
/-- the locals, place by place -/
def lvl : Nat → List (Option Value) → List (Nat × Value)
  | _, [] => []
  | i, none :: r => lvl (i + 1) r
  | i, some v :: r => (i, v) :: lvl (i + 1) r
theorem lvl_mem : ∀ (ls : List (Option Value)) (b : Nat) (q : Nat × Value), q ∈ lvl b ls ↔ ∃ i, q.1 = b + i ∧ ls[i]? = some (some q.2) := by
  intro ls
  induction ls with
  | nil => intro b q; simp [lvl]
  | cons x r ih =>
    intro b q
    cases x with
    | none =>
      rw [lvl, ih]
      constructor
      · rintro ⟨i, h1, h2⟩
        exact ⟨i + 1, by omega, by simpa using h2⟩
      · rintro ⟨i, h1, h2⟩
        cases i with
        | zero => simp at h2
        | succ i => exact ⟨i, by omega, by simpa using h2⟩
    | some v =>
      rw [lvl, List.mem_cons, ih]
      constructor
      · rintro (rfl | ⟨i, h1, h2⟩)
        · exact ⟨0, by simp, by simp⟩
        · exact ⟨i + 1, by omega, by simpa using h2⟩
      · rintro ⟨i, h1, h2⟩
        cases i with
        | zero =>
          left
          obtain ⟨a, c⟩ := q
          simp at h1 h2
          rw [h1, h2]
        | succ i => exact Or.inr ⟨i, by omega, by simpa using h2⟩
theorem lvl_at {la : Array Slot} {nL i : Nat} {ls : List (Option Value)} {v : Value} (h : lv_has la nL (lvl 0 ls)) (hi : ls[i]? = some (some v)) : la[i]? = some (.val v) :=
  h.2.2 (i, v) ((lvl_mem ls 0 (i, v)).mpr ⟨i, by simp, hi⟩)
/-- no long stands in front of the place -/
def xok (ls : List (Option Value)) : Nat → Bool
  | 0 => true
  | i + 1 => match ls[i]? with
    | some (some v) => v.category != 2
    | _ => true
theorem lvl_st1 {la : Array Slot} {nL i : Nat} {ls : List (Option Value)} {v : Value} (h : lv_has la nL (((i, v) :: (lvl 0 ls).filter (fun q => !(q.1 == i) && !(q.1 + 1 == i && q.2.category == 2))))) (hk : xok ls i = true) : lv_has la nL (lvl 0 (ls.set i (some v))) := by
  refine ⟨h.1, h.2.1, fun q hq => ?_⟩
  obtain ⟨j, h1, h2⟩ := (lvl_mem _ 0 q).mp hq
  have h1 : q.1 = j := by omega
  by_cases hj : j = i
  · subst hj
    rw [List.getElem?_set_self (by
      rcases Nat.lt_or_ge j ls.length with z | z
      · exact z
      · rw [List.getElem?_eq_none (by simpa using z)] at h2; cases h2)] at h2
    have : q = (j, v) := by
      obtain ⟨a, c⟩ := q
      cases h2
      simp at h1
      rw [h1]
    rw [this]
    exact h.2.2 (j, v) List.mem_cons_self
  · rw [List.getElem?_set_ne (fun z => hj z.symm)] at h2
    refine h.2.2 q (List.mem_cons_of_mem _ (List.mem_filter.mpr ⟨(lvl_mem ls 0 q).mpr ⟨j, by omega, h2⟩, ?_⟩))
    simp only [Bool.and_eq_true, Bool.not_eq_true', beq_eq_false_iff_ne, ne_eq, Bool.and_eq_false_iff]
    refine ⟨by rw [h1]; exact hj, ?_⟩
    by_cases hi : q.1 + 1 = i
    · right
      subst hi
      rw [h1, xok, h2] at hk
      simpa using hk
    · exact Or.inl hi
theorem lvl_st2 {la : Array Slot} {nL i : Nat} {ls : List (Option Value)} {v : Value} (h : lv_has la nL (((i, v) :: (lvl 0 ls).filter (fun q => !(q.1 == i) && (!(q.1 == i + 1) && !(q.1 + 1 == i && q.2.category == 2)))))) (hk : xok ls i = true) : lv_has la nL (lvl 0 ((ls.set i (some v)).set (i + 1) none)) := by
  refine ⟨h.1, h.2.1, fun q hq => ?_⟩
  obtain ⟨j, h1, h2⟩ := (lvl_mem _ 0 q).mp hq
  have h1 : q.1 = j := by omega
  by_cases hj1 : j = i + 1
  · subst hj1
    exfalso
    rcases Nat.lt_or_ge (i + 1) ls.length with z | z
    · rw [List.getElem?_set_self (by simpa using z)] at h2
      cases h2
    · rw [List.getElem?_eq_none (by simpa using z)] at h2
      cases h2
  · rw [List.getElem?_set_ne (fun z => hj1 z.symm)] at h2
    by_cases hj : j = i
    · subst hj
      rw [List.getElem?_set_self (by
        rcases Nat.lt_or_ge j ls.length with z | z
        · exact z
        · rw [List.getElem?_eq_none (by simpa using z)] at h2; cases h2)] at h2
      have : q = (j, v) := by
        obtain ⟨a, c⟩ := q
        cases h2
        simp at h1
        rw [h1]
      rw [this]
      exact h.2.2 (j, v) List.mem_cons_self
    · rw [List.getElem?_set_ne (fun z => hj z.symm)] at h2
      refine h.2.2 q (List.mem_cons_of_mem _ (List.mem_filter.mpr ⟨(lvl_mem ls 0 q).mpr ⟨j, by omega, h2⟩, ?_⟩))
      simp only [Bool.and_eq_true, Bool.not_eq_true', beq_eq_false_iff_ne, ne_eq, Bool.and_eq_false_iff]
      refine ⟨by rw [h1]; exact hj, by rw [h1]; exact hj1, ?_⟩
      by_cases hi : q.1 + 1 = i
      · right
        subst hi
        rw [h1, xok, h2] at hk
        simpa using hk
      · exact Or.inl hi
/-- what is known at a frame of the method y, at every instruction -/
def Cx (U : xU) (K : xK) (y : MethodName) (cc : ByteArray) (nL : Nat) (ret : Option FieldType) (rm : Room) : Prop :=
  (kp K).tables.exec = Jvm.exec ∧ (kc K).code = cc ∧ (kc K).maxLocals = nL ∧ (ks K).vm.findClass y.cls = some (km K).cls ∧ (∀ w ∈ xgood, w.before (ka K) (ks K) = true) ∧ (kM K).sig.returnType = ret ∧ (kM K).locks = false ∧ kR K = rm ∧ Kn U (ks K) (ks K).heap ∧ U.2.1 ≤ (ks K).heap.size
/-- from the frame at pc, with these locals and this stack over this heap, the machine comes to Q -/
def AW (U : xU) (K : xK) (nL cells slots : Nat) (Q : State → Prop) (μ : xH) (pc : Nat) (ls : List (Option Value)) (st : List Value) : Prop :=
  ∀ (H : Heap) (locs : List Loc) (la : Array Slot), Hd U μ H → va_S (uB U) (ks K).heap H locs → lv_has la nL (lvl 0 ls) → W (kp K) (kl K) (ke K) (kR K) (ks K) (km K) (ka K) (kb K) (kM K) (kc K) H locs cells slots Q (F0 (km K) pc la st)
def cQ (U : xU) (post : Option Value → xH → Prop) : Array Value → State → Outcome → State → Prop := fun _ st oc t => (∃ (v : Option Value) (μ : xH), oc = .returned v ∧ post v μ ∧ Hd U μ t.heap) ∧ va_F (uB U) st t
def RQ (U : xU) (K : xK) (post : Option Value → xH → Prop) (mc ms : Nat) : State → Prop := MQ (kb K) (cQ U post) (ka K) (ks K) mc ms (uB U)
def cP (U : xU) (av : List Value) (μ : xH) : Array Value → State → Prop := va_Pc av (fun S => Hd U μ S.heap ∧ Kn U S S.heap ∧ U.2.1 ≤ S.heap.size)
/-- the contract of a method: from the heap μ, with these arguments, it returns, and post holds of the answer and of the heap -/
def Ct (l : Launch) (U : xU) (y : MethodName) (b : ByteArray) (maxL : Nat) (ret : Option FieldType) (rm : Room) (av : List Value) (μ : xH) (post : Option Value → xH → Prop) : Prop :=
  Met l y (.code y b maxL ret :: xgood) rm (cP U av μ) (cQ U post) rm.cells rm.slots (uB U)
theorem cP_blind {U : xU} {av : List Value} {μ : xH} : FrameBlind (cP U av μ) := fun _ S _ _ h => ⟨h.1, h.2.1, h.2.2.1.same rfl, h.2.2.2⟩
theorem Ct.of {l : Launch} {U : xU} {y : MethodName} {b : ByteArray} {maxL : Nat} {ret : Option FieldType} {rm : Room} {av : List Value} {μ : xH} {post : Option Value → xH → Prop} (ls : List (Option Value)) (hy : plainFor y = true) (hls : lvl 0 ls = lv_args 0 av) (hn : (lg_sl av).length ≤ maxL)
    (body : ∀ (K : xK) (Q : State → Prop), Cx U K y b maxL ret rm → (kM K).name = y.name → Q = RQ U K post rm.cells rm.slots → AW U K maxL 0 0 Q μ 0 ls []) : Ct l U y b maxL ret rm av μ post := by
  unfold Ct Met
  refine MetFree.of_bodySF (code := b) (maxLocals := maxL) (ret := ret) hy ?_ ?_
  · intro args s m h hn
    obtain ⟨meth, c, h1, h2, h3, h4, h5, h6, -, -⟩ := Cond.code_spec hn (atoms_spec (ws := .code y b maxL ret :: xgood) h _ List.mem_cons_self)
    exact ⟨meth, c, h1, h2, h3, h4, h5, h6⟩
  intro p e s m args below meth c s₁ B hml hv _
  obtain ⟨rfl, hH, hK, hB⟩ := hv
  have hts : ∀ w ∈ xgood, w.before av.toArray s = true := fun w hw => atoms_spec (ws := .code y b maxL ret :: xgood) B.pre w (List.mem_cons_of_mem _ hw)
  have X : Cx U (p, l, e, rm, s, m, av.toArray, below, meth, c) y b maxL ret rm := ⟨B.exec, B.bytes, hml, findClass_of_methodNamed B.named, hts, B.returns, B.notSynchronized, rfl, hK, hB⟩
  have hl := lv_entry av (n := maxL) hn
  rw [← hls] at hl
  have hh0 : s₁.heap = s.heap := by rw [B.state]; rfl
  obtain ⟨t, a1, o, b1, b2, b3⟩ := body (p, l, e, rm, s, m, av.toArray, below, meth, c) _ X (name_of_methodNamed B.named B.method).1 rfl s.heap [] _ hH va_S.rf hl s₁ hh0 (Stand.of_body B)
  refine ⟨t, o, ?_, b1, b2, ⟨b3.1, b3.2⟩⟩
  rw [lg_entry_eq]
  exact a1
