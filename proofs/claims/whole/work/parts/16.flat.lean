/-! a flat object: numbers and arrays of numbers, as one vector -/
/-- a field: is it an array, its type (0 int, 1 boolean, 2 char), its place in the vector, an array's length -/
abbrev xFS : Type := List (Bool × Nat × Nat × Nat)
def fval (ad : Nat → Nat) (z : xV) (k : Nat) (x : Bool × Nat × Nat × Nat) : Value := if x.1 = true then .ref (ad (k + 1)) else .int (z x.2.2.1)
def fok (t : Nat) (v : Int32) : Prop := (t = 1 → xz v) ∧ (t = 2 → narrow .char (.int v) = .int v)
theorem fok_i (v : Int32) : fok 0 v := ⟨(fun q => absurd q (by decide)), (fun q => absurd q (by decide))⟩
theorem fok_z {v : Int32} (h : xz v) : fok 1 v := ⟨(fun _ => h), (fun q => absurd q (by decide))⟩
theorem fok_c {v : Int32} (h : narrow .char (.int v) = .int v) : fok 2 v := ⟨(fun q => absurd q (by decide)), (fun _ => h)⟩
def flo (x : Bool × Nat × Nat × Nat) : Nat := x.2.2.1
def fhi (x : Bool × Nat × Nat × Nat) : Nat := if x.1 = true then x.2.2.1 + x.2.2.2 else x.2.2.1 + 1
def fapartB : xFS → Bool
  | [] => true
  | x :: r => r.all (fun y => decide (fhi x ≤ flo y) || decide (fhi y ≤ flo x)) && fapartB r
theorem fapart_ok : ∀ (FS : xFS), fapartB FS = true → ∀ (i j : Nat) (x y : Bool × Nat × Nat × Nat), FS[i]? = some x → FS[j]? = some y → i ≠ j → fhi x ≤ flo y ∨ fhi y ≤ flo x := by
  intro FS
  induction FS with
  | nil => intro _ i j x y h; simp at h
  | cons a r ih =>
    intro h i j x y hx hy hij
    simp only [fapartB, Bool.and_eq_true, List.all_eq_true, Bool.or_eq_true, decide_eq_true_eq] at h
    cases i with
    | zero =>
      cases j with
      | zero => exact absurd rfl hij
      | succ j =>
        simp at hx hy
        subst hx
        exact h.1 y (List.mem_of_getElem? hy)
    | succ i =>
      cases j with
      | zero =>
        simp at hx hy
        subst hy
        exact (h.1 x (List.mem_of_getElem? hx)).symm
      | succ j =>
        simp at hx hy
        exact ih h.2 i j x y hx hy (fun e => hij (by rw [e]))
def FRep (U : xU) (μ : xH) (ad : Nat → Nat) (ci : Nat) (FS : xFS) (z : xV) : Prop :=
  (∀ i j, i ≤ FS.length → j ≤ FS.length → ad i = ad j → i = j) ∧
  (∃ fs : List Value, μ (ad 0) = some (.inr (ci, fs)) ∧ fs.length = FS.length ∧ ∀ (k : Nat) (x : Bool × Nat × Nat × Nat), FS[k]? = some x → fs[k]? = some (fval ad z k x) ∧ (x.1 = false → fok x.2.1 (z x.2.2.1))) ∧
  ∀ (k : Nat) (x : Bool × Nat × Nat × Nat), FS[k]? = some x → x.1 = true → ∃ f : Nat → Int32, μ (ad (k + 1)) = some (.inl (uC U x.2.1, x.2.2.2, .inl f)) ∧ ∀ j, j < x.2.2.2 → f j = z (x.2.2.1 + j) ∧ fok x.2.1 (f j)
def FFr (ad : Nat → Nat) (N : Nat) (μ μ' : xH) : Prop := ∀ q, (∀ n, n ≤ N → q ≠ ad n) → μ' q = μ q
def FR (U : xU) (μ0 μ : xH) (ad : Nat → Nat) (ci : Nat) (FS : xFS) (z : xV) : Prop := FRep U μ ad ci FS z ∧ FFr ad FS.length μ0 μ
theorem FR.rf {U : xU} {μ : xH} {ad : Nat → Nat} {ci : Nat} {FS : xFS} {z : xV} (h : FRep U μ ad ci FS z) : FR U μ μ ad ci FS z := ⟨h, fun _ _ => rfl⟩
theorem FR.tr {U : xU} {μ0 μ μ' : xH} {ad : Nat → Nat} {ci : Nat} {FS : xFS} {z z' : xV} (h : FR U μ0 μ ad ci FS z) (h2 : FR U μ μ' ad ci FS z') : FR U μ0 μ' ad ci FS z' := ⟨h2.1, fun q hq => (h2.2 q hq).trans (h.2 q hq)⟩
theorem FR.to {U : xU} {μ0 μ : xH} {ad : Nat → Nat} {ci : Nat} {FS : xFS} {z z' : xV} (h : FR U μ0 μ ad ci FS z) (e : z = z') : FR U μ0 μ ad ci FS z' := e ▸ h
theorem FR.g0 {U : xU} {μ0 μ : xH} {ad : Nat → Nat} {ci : Nat} {FS : xFS} {z : xV} (h : FR U μ0 μ ad ci FS z) : ∃ fs : List Value, μ (ad 0) = some (.inr (ci, fs)) := ⟨_, h.1.2.1.choose_spec.1⟩
/-- a number of the object is written -/
theorem FR.pI {U : xU} {μ0 μ : xH} {ad : Nat → Nat} {ci : Nat} {FS : xFS} {z : xV} (h : FR U μ0 μ ad ci FS z) (hA : fapartB FS = true) {k t b n : Nat} (hk : FS[k]? = some (false, t, b, n)) {v : Int32} (hv : fok t v) {fs : List Value} (hfs : μ (ad 0) = some (.inr (ci, fs))) : FR U μ0 (xup μ (ad 0) (.inr (ci, fs.set k (.int v)))) ad ci FS (upd z b v) := by
  obtain ⟨⟨h1, ⟨fs', e1, e2, e3⟩, h3⟩, hF⟩ := h
  rw [hfs] at e1
  cases e1
  have hap := fapart_ok FS hA
  have hkl : k < FS.length := (List.getElem?_eq_some_iff.mp hk).1
  refine ⟨⟨h1, ⟨_, xup_s, by rw [List.length_set]; exact e2, fun j x hx => ?_⟩, fun j x hx hx1 => ?_⟩, fun q hq => ?_⟩
  · by_cases hj : j = k
    · subst hj
      rw [hk] at hx
      cases hx
      refine ⟨?_, fun _ => ?_⟩
      · rw [List.getElem?_set_self (by omega)]
        simp [fval, upd_s]
      · show fok t (upd z b v b)
        rw [upd_s]; exact hv
    · obtain ⟨g1, g2⟩ := e3 j x hx
      have hne : x.1 = false → x.2.2.1 ≠ b := by
        intro hf e
        have := hap j k x _ hx hk hj
        simp [flo, fhi, hf] at this
        omega
      rw [List.getElem?_set_ne (fun z => hj z.symm), g1]
      cases hxb : x.1 with
      | true => exact ⟨by simp [fval, hxb], fun q => by cases q⟩
      | false =>
        refine ⟨by simp [fval, hxb, upd_n (hne hxb)], fun _ => ?_⟩
        rw [upd_n (hne hxb)]
        exact g2 hxb
  · have hj : j ≠ k := fun e => by subst e; rw [hk] at hx; cases hx; cases hx1
    have hjl : j < FS.length := (List.getElem?_eq_some_iff.mp hx).1
    obtain ⟨f, q1, q2⟩ := h3 j x hx hx1
    refine ⟨f, by rw [xup_n (fun e => absurd (h1 _ _ (by omega) (by omega) e) (by omega))]; exact q1, fun i hi => ?_⟩
    have := hap j k x _ hx hk hj
    simp [flo, fhi, hx1] at this
    rw [upd_n (by omega)]
    exact q2 i hi
  · exact (xup_n (hq 0 (by omega))).trans (hF q hq)
/-- a place of an array is written -/
theorem FR.pA {U : xU} {μ0 μ : xH} {ad : Nat → Nat} {ci : Nat} {FS : xFS} {z : xV} (h : FR U μ0 μ ad ci FS z) (hA : fapartB FS = true) {k t b n : Nat} (hk : FS[k]? = some (true, t, b, n)) {f : Nat → Int32} (hf : ∀ j, j < n → f j = z (b + j) ∧ fok t (f j)) {i : Nat} (hi : i < n) {v : Int32} (hv : fok t v) : FR U μ0 (xup μ (ad (k + 1)) (.inl (uC U t, n, .inl (upd f i v)))) ad ci FS (upd z (b + i) v) := by
  obtain ⟨⟨h1, ⟨fs, e1, e2, e3⟩, h3⟩, hF⟩ := h
  have hap := fapart_ok FS hA
  have hkl : k < FS.length := (List.getElem?_eq_some_iff.mp hk).1
  refine ⟨⟨h1, ⟨fs, by rw [xup_n (fun e => absurd (h1 _ _ (by omega) (by omega) e) (by omega))]; exact e1, e2, fun j x hx => ?_⟩, fun j x hx hx1 => ?_⟩, fun q hq => ?_⟩
  · obtain ⟨g1, g2⟩ := e3 j x hx
    cases hxb : x.1 with
    | true => exact ⟨by rw [g1]; simp [fval, hxb], fun q => by cases q⟩
    | false =>
      have hj : j ≠ k := fun e => by subst e; rw [hk] at hx; cases hx; cases hxb
      have := hap j k x _ hx hk hj
      simp [flo, fhi, hxb] at this
      have hne : x.2.2.1 ≠ b + i := by omega
      exact ⟨by rw [g1]; simp [fval, hxb, upd_n hne], fun _ => by rw [upd_n hne]; exact g2 hxb⟩
  · have hjl : j < FS.length := (List.getElem?_eq_some_iff.mp hx).1
    by_cases hj : j = k
    · subst hj
      rw [hk] at hx
      cases hx
      refine ⟨_, xup_s, fun m hm => ?_⟩
      by_cases e : m = i
      · subst e
        rw [upd_s]
        exact ⟨by show v = upd z (b + m) v (b + m); rw [upd_s], hv⟩
      · rw [upd_n e]
        refine ⟨?_, (hf m hm).2⟩
        show f m = upd z (b + i) v (b + m)
        rw [upd_n (by omega)]
        exact (hf m hm).1
    · obtain ⟨g, q1, q2⟩ := h3 j x hx hx1
      refine ⟨g, by rw [xup_n (fun e => hj (by have := h1 _ _ (by omega) (by omega) e; omega))]; exact q1, fun m hm => ?_⟩
      have := hap j k x _ hx hk hj
      simp [flo, fhi, hx1] at this
      rw [upd_n (by omega)]
      exact q2 m hm
  · exact (xup_n (hq (k + 1) (by omega))).trans (hF q hq)
theorem FR.gA {U : xU} {μ0 μ : xH} {ad : Nat → Nat} {ci : Nat} {FS : xFS} {z : xV} (h : FR U μ0 μ ad ci FS z) {k t b n : Nat} (hk : FS[k]? = some (true, t, b, n)) : ∃ f : Nat → Int32, μ (ad (k + 1)) = some (.inl (uC U t, n, .inl f)) ∧ ∀ j, j < n → f j = z (b + j) ∧ fok t (f j) := h.1.2.2 k _ hk rfl
theorem FR.gI {U : xU} {μ0 μ : xH} {ad : Nat → Nat} {ci : Nat} {FS : xFS} {z : xV} (h : FR U μ0 μ ad ci FS z) {k t b n : Nat} (hk : FS[k]? = some (false, t, b, n)) : fok t (z b) := by
  obtain ⟨fs, -, -, e3⟩ := h.1.2.1
  exact (e3 k _ hk).2 rfl
theorem FR.gc {U : xU} {μ0 μ : xH} {ad : Nat → Nat} {ci : Nat} {FS : xFS} {z : xV} (h : FR U μ0 μ ad ci FS z) {k t b n : Nat} (hk : FS[k]? = some (true, t, b, n)) {j : Nat} (hj : j < n) : fok t (z (b + j)) := by
  obtain ⟨f, -, h2⟩ := h.gA hk
  have := h2 j hj
  rw [← this.1]; exact this.2
/-- places that no field has may be anything -/
theorem FR.congr {U : xU} {μ0 μ : xH} {ad : Nat → Nat} {ci : Nat} {FS : xFS} {z z' : xV} (h : FR U μ0 μ ad ci FS z) (e : ∀ (k : Nat) (x : Bool × Nat × Nat × Nat), FS[k]? = some x → ∀ j, flo x ≤ j → j < fhi x → z' j = z j) : FR U μ0 μ ad ci FS z' := by
  obtain ⟨⟨h1, ⟨fs, e1, e2, e3⟩, h3⟩, hF⟩ := h
  refine ⟨⟨h1, ⟨fs, e1, e2, fun k x hx => ?_⟩, fun k x hx hx1 => ?_⟩, hF⟩
  · obtain ⟨g1, g2⟩ := e3 k x hx
    cases hxb : x.1 with
    | true => exact ⟨by rw [g1]; simp [fval, hxb], fun q => by cases q⟩
    | false =>
      have := e k x hx x.2.2.1 (by simp [flo]) (by simp [fhi, hxb])
      exact ⟨by rw [g1]; simp [fval, hxb, this], fun _ => by rw [this]; exact g2 hxb⟩
  · obtain ⟨f, q1, q2⟩ := h3 k x hx hx1
    exact ⟨f, q1, fun j hj => ⟨by rw [e k x hx _ (by simp [flo]) (by simp [fhi, hx1]; omega)]; exact (q2 j hj).1, (q2 j hj).2⟩⟩
abbrev CtFR (l : Launch) (U : xU) (y : MethodName) (b : ByteArray) (maxL : Nat) (ret : Option FieldType) (rm : Room) (av : List Value) (μ : xH) (ad : Nat → Nat) (ci : Nat) (FS : xFS) (r : Int32) (z : xV) : Prop := Ct l U y b maxL ret rm av μ (fun v μ' => v = some (.int r) ∧ FR U μ μ' ad ci FS z)
abbrev CtFK (l : Launch) (U : xU) (y : MethodName) (b : ByteArray) (maxL : Nat) (ret : Option FieldType) (rm : Room) (av : List Value) (μ : xH) (ad : Nat → Nat) (ci : Nat) (FS : xFS) (z : xV) : Prop := Ct l U y b maxL ret rm av μ (fun v μ' => v = none ∧ FR U μ μ' ad ci FS z)
section XFROWS
variable {U : xU} {K : xK} {y : MethodName} {cc : ByteArray} {nL cells slots : Nat} {ret : Option FieldType} {rm : Room} {Q : State → Prop} {μ0 μ : xH} {ad : Nat → Nat} {ci : Nat} {FS : xFS} {z : xV} {pc index : Nat} {ls : List (Option Value)} {st : List Value} {C : String} {T : u_T} {N : Nat}
theorem aw_fgetI (X : Cx U K y cc nL ret rm) (hJ : FR U μ0 μ ad ci FS z) (k : Nat) {t b n : Nat} (hk : FS[k]? = some (false, t, b, n)) (hf : XF y.cls index ci k C T N) (hdg : decode cc pc = .ok (.getfield index, 3)) (kk : AW U K nL cells slots Q μ (pc + 3) ls (.int (z b) :: st)) : AW U K nL cells slots Q μ pc ls (.ref (ad 0) :: st) := by
  obtain ⟨fs, e1, e2, e3⟩ := hJ.1.2.1
  exact aw_get X hf e1 (by rw [(e3 k _ hk).1]; rfl) hdg kk
theorem aw_fgetA (X : Cx U K y cc nL ret rm) (hJ : FR U μ0 μ ad ci FS z) (k : Nat) {t b n : Nat} (hk : FS[k]? = some (true, t, b, n)) (hf : XF y.cls index ci k C T N) (hdg : decode cc pc = .ok (.getfield index, 3)) (kk : AW U K nL cells slots Q μ (pc + 3) ls (.ref (ad (k + 1)) :: st)) : AW U K nL cells slots Q μ pc ls (.ref (ad 0) :: st) := by
  obtain ⟨fs, e1, e2, e3⟩ := hJ.1.2.1
  exact aw_get X hf e1 (by rw [(e3 k _ hk).1]; rfl) hdg kk
theorem aw_fput (X : Cx U K y cc nL ret rm) (hA : fapartB FS = true) (hJ : FR U μ0 μ ad ci FS z) (k : Nat) {b n : Nat} (hk : FS[k]? = some (false, 0, b, n)) {v : Int32} (hf : XF y.cls index ci k C T N) (hT : (T k).2.2.2 = false) (hd : parseFieldDescriptor (T k).2.2.1 = some .int) (hdg : decode cc pc = .ok (.putfield index, 3)) (kk : ∀ (μ' : xH) (z' : xV), z' = upd z b v → FR U μ0 μ' ad ci FS z' → AW U K nL cells slots Q μ' (pc + 3) ls st) : AW U K nL cells slots Q μ pc ls (.int v :: .ref (ad 0) :: st) := by
  obtain ⟨fs, e1, e2, e3⟩ := hJ.1.2.1
  have hkl : k < FS.length := (List.getElem?_eq_some_iff.mp hk).1
  exact aw_put X hf e1 hT hd xfit_i (by omega) hdg (kk _ _ rfl (hJ.pI hA hk (fok_i _) e1))
theorem aw_fputZ (X : Cx U K y cc nL ret rm) (hA : fapartB FS = true) (hJ : FR U μ0 μ ad ci FS z) (k : Nat) {b n : Nat} (hk : FS[k]? = some (false, 1, b, n)) {v : Int32} (hv : xz v) (hf : XF y.cls index ci k C T N) (hT : (T k).2.2.2 = false) (hd : parseFieldDescriptor (T k).2.2.1 = some .boolean) (hdg : decode cc pc = .ok (.putfield index, 3)) (kk : ∀ (μ' : xH) (z' : xV), z' = upd z b v → FR U μ0 μ' ad ci FS z' → AW U K nL cells slots Q μ' (pc + 3) ls st) : AW U K nL cells slots Q μ pc ls (.int v :: .ref (ad 0) :: st) := by
  obtain ⟨fs, e1, e2, e3⟩ := hJ.1.2.1
  have hkl : k < FS.length := (List.getElem?_eq_some_iff.mp hk).1
  exact aw_put X hf e1 hT hd (xfit_z hv) (by omega) hdg (kk _ _ rfl (hJ.pI hA hk (fok_z hv) e1))
theorem aw_flen (X : Cx U K y cc nL ret rm) (hJ : FR U μ0 μ ad ci FS z) (k : Nat) {t b n : Nat} (hk : FS[k]? = some (true, t, b, n)) {ty : FieldType} (ht : (xty (uC U))[t]? = some (uC U t, ty)) {v : Int32} (hv : Int32.ofNat n = v) (hdg : decode cc pc = .ok (.arraylength, 1)) (kk : AW U K nL cells slots Q μ (pc + 1) ls (.int v :: st)) : AW U K nL cells slots Q μ pc ls (.ref (ad (k + 1)) :: st) := by
  obtain ⟨f, h1, -⟩ := hJ.gA hk
  exact aw_alen X (t0 := t) ht h1 hv hdg kk
theorem aw_fiald (X : Cx U K y cc nL ret rm) (hJ : FR U μ0 μ ad ci FS z) (k : Nat) {b n : Nat} (hk : FS[k]? = some (true, 0, b, n)) (j : Nat) {i : Int32} (hin : vp_in i n) (hj : b + i.toNatClampNeg = j) (hdg : decode cc pc = .ok (.iaload, 1)) (kk : AW U K nL cells slots Q μ (pc + 1) ls (.int (z j) :: st)) : AW U K nL cells slots Q μ pc ls (.int i :: .ref (ad (k + 1)) :: st) := by
  subst hj
  obtain ⟨f, h1, h2⟩ := hJ.gA hk
  exact aw_iald X h1 hin hdg (by rw [(h2 _ (xin_lt hin)).1]; exact kk)
theorem aw_fiast (X : Cx U K y cc nL ret rm) (hA : fapartB FS = true) (hJ : FR U μ0 μ ad ci FS z) (k : Nat) {b n : Nat} (hk : FS[k]? = some (true, 0, b, n)) (j : Nat) {i v : Int32} (hin : vp_in i n) (hj : b + i.toNatClampNeg = j) (hdg : decode cc pc = .ok (.iastore, 1)) (kk : ∀ (μ' : xH) (z' : xV), z' = upd z j v → FR U μ0 μ' ad ci FS z' → AW U K nL cells slots Q μ' (pc + 1) ls st) : AW U K nL cells slots Q μ pc ls (.int v :: .int i :: .ref (ad (k + 1)) :: st) := by
  subst hj
  obtain ⟨f, h1, h2⟩ := hJ.gA hk
  exact aw_iast X h1 hin hdg (kk _ _ rfl (hJ.pA hA hk h2 (xin_lt hin) (fok_i _)))
theorem aw_fzald (X : Cx U K y cc nL ret rm) (hJ : FR U μ0 μ ad ci FS z) (k : Nat) {b n : Nat} (hk : FS[k]? = some (true, 1, b, n)) (j : Nat) {i : Int32} (hin : vp_in i n) (hj : b + i.toNatClampNeg = j) (hdg : decode cc pc = .ok (.baload, 1)) (kk : AW U K nL cells slots Q μ (pc + 1) ls (.int (z j) :: st)) : AW U K nL cells slots Q μ pc ls (.int i :: .ref (ad (k + 1)) :: st) := by
  subst hj
  obtain ⟨f, h1, h2⟩ := hJ.gA hk
  exact aw_zald X h1 hin hdg (by rw [(h2 _ (xin_lt hin)).1]; exact kk)
theorem aw_fzast (X : Cx U K y cc nL ret rm) (hA : fapartB FS = true) (hJ : FR U μ0 μ ad ci FS z) (k : Nat) {b n : Nat} (hk : FS[k]? = some (true, 1, b, n)) (j : Nat) {i v : Int32} (hv : xz v) (hin : vp_in i n) (hj : b + i.toNatClampNeg = j) (hdg : decode cc pc = .ok (.bastore, 1)) (kk : ∀ (μ' : xH) (z' : xV), z' = upd z j v → FR U μ0 μ' ad ci FS z' → AW U K nL cells slots Q μ' (pc + 1) ls st) : AW U K nL cells slots Q μ pc ls (.int v :: .int i :: .ref (ad (k + 1)) :: st) := by
  subst hj
  obtain ⟨f, h1, h2⟩ := hJ.gA hk
  exact aw_zast X hv h1 hin hdg (kk _ _ rfl (hJ.pA hA hk h2 (xin_lt hin) (fok_z hv)))
theorem aw_fcald (X : Cx U K y cc nL ret rm) (hJ : FR U μ0 μ ad ci FS z) (k : Nat) {b n : Nat} (hk : FS[k]? = some (true, 2, b, n)) (j : Nat) {i : Int32} (hin : vp_in i n) (hj : b + i.toNatClampNeg = j) (hdg : decode cc pc = .ok (.caload, 1)) (kk : AW U K nL cells slots Q μ (pc + 1) ls (.int (z j) :: st)) : AW U K nL cells slots Q μ pc ls (.int i :: .ref (ad (k + 1)) :: st) := by
  subst hj
  obtain ⟨f, h1, h2⟩ := hJ.gA hk
  exact aw_cald X h1 hin hdg (by rw [(h2 _ (xin_lt hin)).1]; exact kk)
theorem aw_fcast (X : Cx U K y cc nL ret rm) (hA : fapartB FS = true) (hJ : FR U μ0 μ ad ci FS z) (k : Nat) {b n : Nat} (hk : FS[k]? = some (true, 2, b, n)) (j : Nat) {i v : Int32} (hv : narrow .char (.int v) = .int v) (hin : vp_in i n) (hj : b + i.toNatClampNeg = j) (hdg : decode cc pc = .ok (.castore, 1)) (kk : ∀ (μ' : xH) (z' : xV), z' = upd z j v → FR U μ0 μ' ad ci FS z' → AW U K nL cells slots Q μ' (pc + 1) ls st) : AW U K nL cells slots Q μ pc ls (.int v :: .int i :: .ref (ad (k + 1)) :: st) := by
  subst hj
  obtain ⟨f, h1, h2⟩ := hJ.gA hk
  exact aw_cast X hv h1 hin hdg (kk _ _ rfl (hJ.pA hA hk h2 (xin_lt hin) (fok_c hv)))
variable {y' : MethodName} {b' : ByteArray} {maxL n : Nat} {ret' : Option FieldType} {rm' : Room}
theorem aw_cVFF (X : Cx U K y cc nL ret rm) {As : List Value} {N' : Nat} {T' : u_T} {r : Int32} (hJ : FR U μ0 μ ad ci FS z) (hM : CtF (kl K) U y' b' maxL ret' rm' (.ref (ad 0) :: As) μ r) (hs : XV y.cls index y') (hy : XY y' b' maxL ret' n) (hrm : rm'.frames + 1 ≤ rm.frames ∧ 8 + (maxL + 11) + rm'.locals ≤ rm.locals) (hm : rm'.cells = 0 ∧ rm'.slots = 0) (hf : cells ≤ rm.cells ∧ slots ≤ rm.slots) (hn : As.length = n) (hst : (st.map fun v => v.category).sum ≤ 8) (hci : xcl[ci]? = some (y'.cls, T', N')) (hdg : decode cc pc = .ok (.invokevirtual index, 3)) (kk : AW U K nL cells slots Q μ (pc + 3) ls (.int r :: st)) : AW U K nL cells slots Q μ pc ls (As.reverse ++ .ref (ad 0) :: st) := by
  have hR := X.2.2.2.2.2.2.2.1
  obtain ⟨fs, hμ⟩ := hJ.g0
  refine aw_cV X hM hs hy hrm (by rw [hm.1, hm.2, hR]; exact hf) hn hst hμ hci hdg (fun v μ1 hp => ?_)
  obtain ⟨rfl, rfl⟩ := hp
  rw [hm.1, hm.2]
  exact kk
theorem aw_cVFR (X : Cx U K y cc nL ret rm) {As : List Value} {N' : Nat} {T' : u_T} {r : Int32} {z1 : xV} (hJ : FR U μ0 μ ad ci FS z) (hM : CtFR (kl K) U y' b' maxL ret' rm' (.ref (ad 0) :: As) μ ad ci FS r z1) (hs : XV y.cls index y') (hy : XY y' b' maxL ret' n) (hrm : rm'.frames + 1 ≤ rm.frames ∧ 8 + (maxL + 11) + rm'.locals ≤ rm.locals) (hm : rm'.cells = 0 ∧ rm'.slots = 0) (hf : cells ≤ rm.cells ∧ slots ≤ rm.slots) (hn : As.length = n) (hst : (st.map fun v => v.category).sum ≤ 8) (hci : xcl[ci]? = some (y'.cls, T', N')) (hdg : decode cc pc = .ok (.invokevirtual index, 3)) (kk : ∀ (μ' : xH) (z' : xV), z' = z1 → FR U μ0 μ' ad ci FS z' → AW U K nL cells slots Q μ' (pc + 3) ls (.int r :: st)) : AW U K nL cells slots Q μ pc ls (As.reverse ++ .ref (ad 0) :: st) := by
  have hR := X.2.2.2.2.2.2.2.1
  obtain ⟨fs, hμ⟩ := hJ.g0
  refine aw_cV X hM hs hy hrm (by rw [hm.1, hm.2, hR]; exact hf) hn hst hμ hci hdg (fun v μ1 hp => ?_)
  obtain ⟨rfl, hp⟩ := hp
  rw [hm.1, hm.2]
  exact kk _ _ rfl (hJ.tr hp)
theorem aw_cVFK (X : Cx U K y cc nL ret rm) {As : List Value} {N' : Nat} {T' : u_T} {z1 : xV} (hJ : FR U μ0 μ ad ci FS z) (hM : CtFK (kl K) U y' b' maxL ret' rm' (.ref (ad 0) :: As) μ ad ci FS z1) (hs : XV y.cls index y') (hy : XY y' b' maxL ret' n) (hrm : rm'.frames + 1 ≤ rm.frames ∧ 8 + (maxL + 11) + rm'.locals ≤ rm.locals) (hm : rm'.cells = 0 ∧ rm'.slots = 0) (hf : cells ≤ rm.cells ∧ slots ≤ rm.slots) (hn : As.length = n) (hst : (st.map fun v => v.category).sum ≤ 8) (hci : xcl[ci]? = some (y'.cls, T', N')) (hdg : decode cc pc = .ok (.invokevirtual index, 3)) (kk : ∀ (μ' : xH) (z' : xV), z' = z1 → FR U μ0 μ' ad ci FS z' → AW U K nL cells slots Q μ' (pc + 3) ls st) : AW U K nL cells slots Q μ pc ls (As.reverse ++ .ref (ad 0) :: st) := by
  have hR := X.2.2.2.2.2.2.2.1
  obtain ⟨fs, hμ⟩ := hJ.g0
  refine aw_cV X hM hs hy hrm (by rw [hm.1, hm.2, hR]; exact hf) hn hst hμ hci hdg (fun v μ1 hp => ?_)
  obtain ⟨rfl, hp⟩ := hp
  rw [hm.1, hm.2]
  exact kk _ _ rfl (hJ.tr hp)
end XFROWS
/-- the pad: 0..59 the text, 60 its length, 61 where the reading stands, 62 order, 63 hose, 64 grade, 65 hours, 66..69 units -/
def FP : xFS := [(true, 2, 0, 60), (false, 0, 60, 0), (false, 0, 61, 0), (false, 0, 62, 0), (false, 0, 63, 0), (false, 0, 64, 0), (false, 0, 65, 0), (true, 0, 66, 4)]
theorem FP_a : fapartB FP = true := by decide
/-- the model: 0..79 its row, 100.. was, 200.. before, 700.. slots, 860.. isSaved, 870.. pad, 930.. unitsRead, 940 known, 941 length, 942 place, 943 isWrong, 944 kind, 945 number, 946 hoseRead, 947 gradeRead -/
def FM : xFS := [(true, 0, 0, 80), (true, 0, 100, 80), (true, 0, 200, 480), (false, 0, 940, 0), (true, 0, 700, 160), (true, 1, 860, 2), (true, 0, 870, 60), (false, 0, 941, 0), (false, 0, 942, 0), (false, 1, 943, 0), (false, 0, 944, 0), (false, 0, 945, 0), (false, 0, 946, 0), (false, 0, 947, 0), (true, 0, 930, 4)]
theorem FM_a : fapartB FM = true := by decide
