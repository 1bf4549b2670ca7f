/-! what constructors make: the cells A, that hold E, are new but the first, and all else is as it was -/
def GH (μ0 μ : xH) (A : List Nat) (E : List va_E) : Prop :=
  A.length = E.length ∧ (∀ (i : Nat) (a : Nat) (e : va_E), A[i]? = some a → E[i]? = some e → μ a = some e) ∧ (∀ (i j a : Nat), A[i]? = some a → A[j]? = some a → i = j) ∧ (∀ q, q ∉ A → μ q = μ0 q) ∧ ∀ (i a : Nat), A[i]? = some a → 0 < i → μ0 a = none
theorem GH.som {μ0 μ : xH} {A : List Nat} {E : List va_E} (h : GH μ0 μ A E) {a : Nat} (ha : a ∈ A) : ∃ (i : Nat) (e : va_E), A[i]? = some a ∧ E[i]? = some e ∧ μ a = some e := by
  obtain ⟨i, hi⟩ := List.mem_iff_getElem?.mp ha
  have hl : i < A.length := (List.getElem?_eq_some_iff.mp hi).1
  have he : E[i]? = some (E[i]'(by rw [← h.1]; exact hl)) := List.getElem?_eq_getElem _
  exact ⟨i, _, hi, he, h.2.1 i a _ hi he⟩
theorem GH.not {μ0 μ : xH} {A : List Nat} {E : List va_E} (h : GH μ0 μ A E) {q : Nat} (hq : μ q = none) : q ∉ A := fun ha => by
  obtain ⟨i, e, -, -, h3⟩ := h.som ha
  rw [hq] at h3
  cases h3
theorem GH.one {μ : xH} {a : Nat} {e : va_E} (h : μ a = some e) : GH μ μ [a] [e] := by
  refine ⟨rfl, fun i b x hb hx => ?_, fun i j b hi hj => ?_, fun _ _ => rfl, fun i b hb hi => ?_⟩
  · cases i with
    | zero => cases hb; cases hx; exact h
    | succ i => simp at hb
  · cases i with
    | zero =>
      cases j with
      | zero => rfl
      | succ j => simp at hj
    | succ i => simp at hi
  · cases i with
    | zero => exact absurd hi (by decide)
    | succ i => simp at hb
theorem GH.app {μ0 μ μ' : xH} {A B : List Nat} {E F : List va_E} {i a : Nat} {e : va_E} (h : GH μ0 μ A E) (hi : A[i]? = some a) (h2 : GH μ μ' (a :: B) (e :: F)) : GH μ0 μ' (A ++ B) (E.set i e ++ F) := by
  obtain ⟨l1, v1, d1, f1, n1⟩ := h
  obtain ⟨l2, v2, d2, f2, n2⟩ := h2
  have hil : i < A.length := (List.getElem?_eq_some_iff.mp hi).1
  have hB : ∀ (j b : Nat), B[j]? = some b → μ b = none := fun j b hb => n2 (j + 1) b (by simpa using hb) (by omega)
  have hAB : ∀ (j k b : Nat), A[j]? = some b → B[k]? = some b → False := by
    intro j k b hA hb
    have hl : j < A.length := (List.getElem?_eq_some_iff.mp hA).1
    have := v1 j b _ hA (List.getElem?_eq_getElem (by rw [← l1]; exact hl))
    rw [hB k b hb] at this
    cases this
  have hmem : ∀ b, b ∈ B → ∃ k : Nat, B[k]? = some b := fun b hb => List.mem_iff_getElem?.mp hb
  refine ⟨by simp at l2 ⊢; omega, fun j b x hb hx => ?_, fun j k b hj hk => ?_, fun q hq => ?_, fun j b hb hj => ?_⟩
  · by_cases hl : j < A.length
    · rw [List.getElem?_append_left hl] at hb
      rw [List.getElem?_append_left (by rw [List.length_set, ← l1]; exact hl)] at hx
      by_cases hji : j = i
      · subst hji
        rw [hi] at hb
        cases hb
        rw [List.getElem?_set_self (by rw [← l1]; exact hl)] at hx
        cases hx
        exact v2 0 _ _ rfl rfl
      · rw [List.getElem?_set_ne (fun z => hji z.symm)] at hx
        have hne : b ∉ a :: B := fun hm => by
          rcases List.mem_cons.mp hm with e1 | e1
          · subst e1; exact hji (d1 j i b hb hi)
          · obtain ⟨k, hk⟩ := hmem b e1
            exact hAB j k b hb hk
        rw [f2 b hne]
        exact v1 j b x hb hx
    · rw [List.getElem?_append_right (by omega)] at hb
      rw [List.getElem?_append_right (by rw [List.length_set, ← l1]; omega)] at hx
      rw [List.length_set, ← l1] at hx
      exact v2 (j - A.length + 1) b x (by simpa using hb) (by simpa using hx)
  · by_cases hl : j < A.length
    · rw [List.getElem?_append_left hl] at hj
      by_cases hl2 : k < A.length
      · rw [List.getElem?_append_left hl2] at hk
        exact d1 j k b hj hk
      · rw [List.getElem?_append_right (by omega)] at hk
        exact (hAB j _ b hj hk).elim
    · rw [List.getElem?_append_right (by omega)] at hj
      by_cases hl2 : k < A.length
      · rw [List.getElem?_append_left hl2] at hk
        exact (hAB k _ b hk hj).elim
      · rw [List.getElem?_append_right (by omega)] at hk
        have := d2 (j - A.length + 1) (k - A.length + 1) b (by simpa using hj) (by simpa using hk)
        omega
  · have h1 : q ∉ A := fun z => hq (List.mem_append.mpr (Or.inl z))
    have h2 : q ∉ a :: B := fun z => by
      rcases List.mem_cons.mp z with e1 | e1
      · rw [e1] at h1; exact h1 (List.mem_of_getElem? hi)
      · exact hq (List.mem_append.mpr (Or.inr e1))
    exact (f2 q h2).trans (f1 q h1)
  · by_cases hl : j < A.length
    · rw [List.getElem?_append_left hl] at hb
      exact n1 j b hb hj
    · rw [List.getElem?_append_right (by omega)] at hb
      have hn := hB _ b hb
      have : b ∉ A := fun z => by
        obtain ⟨k, hk⟩ := List.mem_iff_getElem?.mp z
        exact hAB k _ b hk hb
      rw [← f1 b this]; exact hn
theorem GH.put {μ0 μ : xH} {A : List Nat} {E : List va_E} {i a : Nat} {e : va_E} (h : GH μ0 μ A E) (hi : A[i]? = some a) : GH μ0 (xup μ a e) A (E.set i e) := by
  obtain ⟨l1, v1, d1, f1, n1⟩ := h
  refine ⟨by rw [List.length_set]; exact l1, fun j b x hb hx => ?_, d1, fun q hq => ?_, n1⟩
  · have hl : j < A.length := (List.getElem?_eq_some_iff.mp hb).1
    by_cases hji : j = i
    · subst hji
      rw [hi] at hb
      cases hb
      rw [List.getElem?_set_self (by rw [← l1]; exact hl)] at hx
      rw [xup_s]; exact hx
    · rw [List.getElem?_set_ne (fun z => hji z.symm)] at hx
      rw [xup_n (fun z => by subst z; exact hji (d1 j i b hb hi))]
      exact v1 j b x hb hx
  · rw [xup_n (fun z => by subst z; exact hq (List.mem_of_getElem? hi))]
    exact f1 q hq
theorem GH.new {μ0 μ : xH} {A : List Nat} {E : List va_E} {q : Nat} {e : va_E} (h : GH μ0 μ A E) (hq : μ q = none) : GH μ0 (xup μ q e) (A ++ [q]) (E ++ [e]) := by
  have hn := h.not hq
  obtain ⟨l1, v1, d1, f1, n1⟩ := h
  refine ⟨by simp [l1], fun j b x hb hx => ?_, fun j k b hj hk => ?_, fun r hr => ?_, fun j b hb hj => ?_⟩
  · by_cases hl : j < A.length
    · rw [List.getElem?_append_left hl] at hb
      rw [List.getElem?_append_left (by rw [← l1]; exact hl)] at hx
      rw [xup_n (fun z => by subst z; exact hn (List.mem_of_getElem? hb))]
      exact v1 j b x hb hx
    · have hj1 : j = A.length := by
        have := (List.getElem?_eq_some_iff.mp hb).1
        simp at this
        omega
      subst hj1
      simp at hb
      rw [l1] at hx
      simp at hx
      rw [← hb, ← hx, xup_s]
  · by_cases hl : j < A.length
    · rw [List.getElem?_append_left hl] at hj
      by_cases hl2 : k < A.length
      · rw [List.getElem?_append_left hl2] at hk
        exact d1 j k b hj hk
      · have hk1 : k = A.length := by
          have := (List.getElem?_eq_some_iff.mp hk).1
          simp at this
          omega
        subst hk1
        simp at hk
        subst hk
        exact (hn (List.mem_of_getElem? hj)).elim
    · have hj1 : j = A.length := by
        have := (List.getElem?_eq_some_iff.mp hj).1
        simp at this
        omega
      by_cases hl2 : k < A.length
      · rw [List.getElem?_append_left hl2] at hk
        subst hj1
        simp at hj
        subst hj
        exact (hn (List.mem_of_getElem? hk)).elim
      · have := (List.getElem?_eq_some_iff.mp hk).1
        simp at this
        omega
  · have h1 : r ∉ A := fun z => hr (List.mem_append.mpr (Or.inl z))
    have h2 : r ≠ q := fun z => hr (List.mem_append.mpr (Or.inr (by rw [z]; exact List.mem_singleton.mpr rfl)))
    rw [xup_n h2]
    exact f1 r h1
  · by_cases hl : j < A.length
    · rw [List.getElem?_append_left hl] at hb
      exact n1 j b hb hj
    · have hj1 : j = A.length := by
        have := (List.getElem?_eq_some_iff.mp hb).1
        simp at this
        omega
      subst hj1
      simp at hb
      subst hb
      rw [← f1 q hn]; exact hq
section XMAKE
variable {U : xU} {K : xK} {y : MethodName} {cc : ByteArray} {nL cells slots : Nat} {ret : Option FieldType} {rm : Room} {Q : State → Prop} {μ0 μ : xH} {A : List Nat} {E : List va_E} {pc index : Nat} {ls : List (Option Value)} {st : List Value}
theorem aw_gget (X : Cx U K y cc nL ret rm) (hG : GH μ0 μ A E) (i : Nat) {a ci k N : Nat} {C : String} {T : u_T} {fs : List Value} {v : Value} (ha : A[i]? = some a) (he : E[i]? = some (.inr (ci, fs))) (hf : XF y.cls index ci k C T N) (hv : fs[k]? = some v) (hdg : decode cc pc = .ok (.getfield index, 3)) (kk : AW U K nL cells slots Q μ (pc + 3) ls (v :: st)) : AW U K nL cells slots Q μ pc ls (.ref a :: st) := aw_get X hf (hG.2.1 i _ _ ha he) hv hdg kk
theorem aw_gput (X : Cx U K y cc nL ret rm) (hG : GH μ0 μ A E) (i : Nat) {a ci k N : Nat} {C : String} {T : u_T} {fs : List Value} {v : Value} (ty : FieldType) (ha : A[i]? = some a) (he : E[i]? = some (.inr (ci, fs))) (hf : XF y.cls index ci k C T N) (hfin : (T k).2.2.2 = false) (hd : parseFieldDescriptor (T k).2.2.1 = some ty) (hn : narrow ty v = v ∧ fits ty v = true) (hl : k < fs.length) (hdg : decode cc pc = .ok (.putfield index, 3)) (kk : ∀ μ' : xH, GH μ0 μ' A (E.set i (.inr (ci, fs.set k v))) → AW U K nL cells slots Q μ' (pc + 3) ls st) : AW U K nL cells slots Q μ pc ls (v :: .ref a :: st) := aw_put X hf (hG.2.1 i _ _ ha he) hfin hd hn hl hdg (kk _ (hG.put ha))
theorem aw_gputF (X : Cx U K y cc nL ret rm) (hnm : (kM K).name = "<init>") (hG : GH μ0 μ A E) (i : Nat) {a ci k N : Nat} {C : String} {T : u_T} {fs : List Value} {v : Value} (ty : FieldType) (hC : C = y.cls) (ha : A[i]? = some a) (he : E[i]? = some (.inr (ci, fs))) (hf : XF y.cls index ci k C T N) (hfin : (T k).2.2.2 = true) (hd : parseFieldDescriptor (T k).2.2.1 = some ty) (hn : narrow ty v = v ∧ fits ty v = true) (hl : k < fs.length) (hdg : decode cc pc = .ok (.putfield index, 3)) (kk : ∀ μ' : xH, GH μ0 μ' A (E.set i (.inr (ci, fs.set k v))) → AW U K nL cells slots Q μ' (pc + 3) ls st) : AW U K nL cells slots Q μ pc ls (v :: .ref a :: st) := aw_putF X hf hnm hC (hG.2.1 i _ _ ha he) hfin hd hn hl hdg (kk _ (hG.put ha))
theorem aw_gnewa (X : Cx U K y cc nL ret rm) (hG : GH μ0 μ A E) {atype : ArrayType} {ty : FieldType} {t0 : Nat} (harr : Cond.arrayClass ty ∈ xgood) (hty : newarray.typeOf atype = ty) (ht : (xty (uC U))[t0]? = some (uC U t0, ty)) {n : Int32} (N' : Nat) (hd : defaultValue ty = .int 0) (hn : ¬ n < 0) (hN : n.toNatClampNeg = N') (hb : N' * componentBytes ty ≤ 536870912) (hc : cells + 1 ≤ rm.cells ∧ slots + N' ≤ rm.slots) (hdg : decode cc pc = .ok (.newarray atype, 2)) (kk : ∀ (q : Nat) (μ' : xH), GH μ0 μ' (A ++ [q]) (E ++ [.inl (uC U t0, N', .inl (fun _ => 0))]) → AW U K nL (cells + 1) (slots + N') Q μ' (pc + 2) ls (.ref q :: st)) : AW U K nL cells slots Q μ pc ls (.int n :: st) :=
  aw_newa X harr hty ht hd rfl hn hN hb hc hdg (fun q hq => kk q _ (hG.new hq))
theorem aw_gnewq (X : Cx U K y cc nL ret rm) (hG : GH μ0 μ A E) {C : String} {t0 : Nat} (hl : Cond.classLink y.cls index C ∈ xgood) (hAO : va_AO C (ks K)) (ht : (xty (uC U))[t0]? = some (uC U t0, .object C)) {n : Int32} (N' : Nat) (hn : ¬ n < 0) (hN : n.toNatClampNeg = N') (hb : N' * 4 ≤ 536870912) (hc : cells + 1 ≤ rm.cells ∧ slots + N' ≤ rm.slots) (hdg : decode cc pc = .ok (.anewarray index, 3)) (kk : ∀ (q : Nat) (μ' : xH), GH μ0 μ' (A ++ [q]) (E ++ [.inl (uC U t0, N', .inr (.inr (.inr (.inr (fun _ => none)))))]) → AW U K nL (cells + 1) (slots + N') Q μ' (pc + 3) ls (.ref q :: st)) : AW U K nL cells slots Q μ pc ls (.int n :: st) :=
  aw_newq X hl hAO ht hn hN hb hc hdg (fun q hq => kk q _ (hG.new hq))
theorem aw_gnew (X : Cx U K y cc nL ret rm) (hG : GH μ0 μ A E) {ci N : Nat} {C : String} {T : u_T} {fs : List Value} (hci : xcl[ci]? = some (C, T, N)) (hl : Cond.classLink y.cls index C ∈ xgood) (hi : Cond.instantiable C N ∈ xgood) (hn : Cond.initialized C ∈ xgood) (ty : Nat → FieldType) (hty : ∀ k, k < N → parseFieldDescriptor (T k).2.2.1 = some (ty k)) (hfs : ∀ j, j < N → defaultValue (ty j) = vp_V fs j) (hc : cells + 1 ≤ rm.cells ∧ slots + N ≤ rm.slots) (hdg : decode cc pc = .ok (.new index, 3)) (kk : ∀ (q : Nat) (μ' : xH), GH μ0 μ' (A ++ [q]) (E ++ [.inr (ci, fs)]) → AW U K nL (cells + 1) (slots + N) Q μ' (pc + 3) ls (.ref q :: st)) : AW U K nL cells slots Q μ pc ls st :=
  aw_new X hci hl hi hn ty hty hfs hc hdg (fun q hq => kk q _ (hG.new hq))
theorem aw_gclone (X : Cx U K y cc nL ret rm) (hG : GH μ0 μ A E) (hl : Cond.methodLink y.cls index ⟨"[I", "clone", "()Ljava/lang/Object;"⟩ ∈ xgood) (hrm : 1 ≤ rm.frames ∧ (st.map fun v => v.category).sum + 14 ≤ rm.locals) (hc : cells + 1 ≤ rm.cells ∧ slots + 6 ≤ rm.slots) (hdg : decode cc pc = .ok (.invokevirtual index, 3)) (kk : ∀ (q : Nat) (μ' : xH), GH μ0 μ' (A ++ [q]) (E ++ [.inl (uC U 0, 6, .inl (xsV 0))]) → AW U K nL (cells + 1) (slots + 6) Q μ' (pc + 3) ls (.ref q :: st)) : AW U K nL cells slots Q μ pc ls (.ref (uA U 0) :: st) :=
  aw_clone X hl cl_1 cl_2 cl_3 cl_4 hrm hc hdg (fun q hq => kk q _ (hG.new hq))
theorem aw_gaast (X : Cx U K y cc nL ret rm) (hG : GH μ0 μ A E) (i j : Nat) {a v n t0 ci : Nat} {r : vw_C} (ht : (xty (uC U))[t0]? = some (uC U t0, .object r.1)) {f : Nat → Option Nat} {x : Int32} (m : Nat) {vs : List Value} (ha : A[i]? = some a) (he : E[i]? = some (.inl (uC U t0, n, .inr (.inr (.inr (.inr f)))))) (hv : A[j]? = some v) (hve : E[j]? = some (.inr (ci, vs))) (hc : xcl[ci]? = some r) (hin : vp_in x n) (hm : x.toNatClampNeg = m) (hdg : decode cc pc = .ok (.aastore, 1)) (kk : ∀ μ' : xH, GH μ0 μ' A (E.set i (.inl (uC U t0, n, .inr (.inr (.inr (.inr (va_up f m (some v)))))))) → AW U K nL cells slots Q μ' (pc + 1) ls st) : AW U K nL cells slots Q μ pc ls (.ref v :: .int x :: .ref a :: st) := by
  subst hm
  exact aw_aast X ht (hG.2.1 i _ _ ha he) (hG.2.1 j _ _ hv hve) hc hin hdg (kk _ (hG.put ha))
theorem aw_galen (X : Cx U K y cc nL ret rm) (hG : GH μ0 μ A E) (i : Nat) {a : Nat} {x : vp_A} {t0 : Nat} {ty : FieldType} (ht : (xty (uC U))[t0]? = some (uC U t0, ty)) {v : Int32} (ha : A[i]? = some a) (he : E[i]? = some (.inl (uC U t0, x))) (hv : Int32.ofNat x.1 = v) (hdg : decode cc pc = .ok (.arraylength, 1)) (kk : AW U K nL cells slots Q μ (pc + 1) ls (.int v :: st)) : AW U K nL cells slots Q μ pc ls (.ref a :: st) := aw_alen X ht (hG.2.1 i _ _ ha he) hv hdg kk
end XMAKE
/-- a fresh jetty -/
def zI : xV := fun k => if k < 6 then xsV 0 k else if 26 ≤ k ∧ k < 50 then (if (k - 26) % 6 = 0 then 90 else if (k - 26) % 6 ≤ 2 then -100006 else 0) else 0
theorem df_X0 : ∀ j, j < 7 → defaultValue (tyX0 j) = vp_V [.int 0, .int 0, .int 0, .int 0, .int 0, .int 0, .int 0] j := by
  intro j hj
  rcases (show j = 0 ∨ j = 1 ∨ j = 2 ∨ j = 3 ∨ j = 4 ∨ j = 5 ∨ j = 6 by omega) with rfl | rfl | rfl | rfl | rfl | rfl | rfl <;> rfl
theorem df_X3 : ∀ j, j < 2 → defaultValue (tyX3 j) = vp_V [.null, .int 0] j := by
  intro j hj
  rcases (show j = 0 ∨ j = 1 by omega) with rfl | rfl <;> rfl
theorem df_X2 : ∀ j, j < 8 → defaultValue (tyX2 j) = vp_V [.null, .int 0, .int 0, .int 0, .int 0, .int 0, .int 0, .null] j := by
  intro j hj
  rcases (show j = 0 ∨ j = 1 ∨ j = 2 ∨ j = 3 ∨ j = 4 ∨ j = 5 ∨ j = 6 ∨ j = 7 by omega) with rfl | rfl | rfl | rfl | rfl | rfl | rfl | rfl <;> rfl
theorem df_X1 : ∀ j, j < 14 → defaultValue (tyX1 j) = vp_V [.null, .null, .null, .null, .null, .null, .int 0, .int 0, .int 0, .int 0, .int 0, .int 0, .int 0, .int 0] j := by
  intro j hj
  rcases (show j = 0 ∨ j = 1 ∨ j = 2 ∨ j = 3 ∨ j = 4 ∨ j = 5 ∨ j = 6 ∨ j = 7 ∨ j = 8 ∨ j = 9 ∨ j = 10 ∨ j = 11 ∨ j = 12 ∨ j = 13 by omega) with rfl | rfl | rfl | rfl | rfl | rfl | rfl | rfl | rfl | rfl | rfl | rfl | rfl | rfl <;> rfl
