/-! THE CLAIM OUT OF ONE WALK OF THE LAW'S BODY. Your part is whole_start (and what it stands on); all else here is the same for every law, but numbers. -/
def R_law : String := "JettyHosesLaw"
def lw_P (b : Addr) (xs : List Int32) (args : Array Value) (s : State) : Prop := args = #[.ref b] ∧ s.IntsAt b xs ∧ xs.length ≤ 260 ∧ (Jvm.Cond.and given_1 narrow_1).before args s = true
def lw_Q (_ : Array Value) (s : State) (o : Outcome) (t : State) : Prop := o = .returned (some (.int 1)) ∧ Framed s o t [] 620216 7241600
def lw_Z (below : List Frame) (a : Array Value) (s : State) : State → Prop := fun t => ∃ o, t.status = .running ∧ Ended t below o ∧ lw_Q a s o t
/-- the law's own end, with 1 on the stack, nothing written that was there before, its room as the claim has it -/
theorem lw_ret {p : Program} {l : Launch} {e : Env} {s : State} {m : MethodId} {below : List Frame} {meth : Method} {c : Code} {b : Nat} (hx : p.tables.exec = Jvm.exec) (hb : c.code = code) (hr : meth.sig.returnType = ret) (hlocks : meth.locks = false) {pc : Nat} {H : Heap} {ls : Array Slot} (hdg : decode code pc = .ok (.ireturn, 1)) : W p l e room_1 s m #[Value.ref b] below meth c H [] 620216 7241600 (lw_Z below #[Value.ref b] s) (F0 m pc ls [.int 1]) := by
  intro T hT X
  obtain ⟨fs, hret, hrun, hended, hW, hframe⟩ := X.leave (v := some (.int 1)) (hlocks := hlocks) (fun h => by rw [hr] at h; cases h)
  have hmeth' : T.vm.method? m = some meth := X.method'
  refine ⟨T.setFrames fs, ?_, .returned (some (.int 1)), hrun, hended, rfl, ⟨_, rfl⟩, hW, hframe⟩
  jvm_step X.here [X.here.top, hx, hb, hdg, hmeth', hr, ret, narrow_b1]
  (try refine ⟨rfl, ?_⟩); (try refine ⟨rfl, ?_⟩)
  first | (intro acts; rw [hret _ acts rfl rfl rfl]) | rw [hret _ _ rfl rfl rfl]
  exact Steps.refl _
/-- what holds at the law's entry: the machine, the code, the tables' words (any of lw_tbl by 'hts w (by decide +kernel)'), the script of L ints xs at the cell b, what the Statement gives of the start (any of its parts by flat_of_before) -/
def lw_At (p : Program) (s : State) (m : MethodId) (meth : Method) (c : Code) (b L : Nat) (xs : Nat → Int32) : Prop :=
  p.tables.exec = Jvm.exec ∧ c.code = code ∧ meth.sig.returnType = ret ∧ c.maxLocals = 9 ∧ s.vm.findClass R_law = some m.cls ∧ (∀ w ∈ lw_tbl, w.before #[Value.ref b] s = true) ∧ va_X b L xs s s.heap ∧ b < s.heap.size ∧ meth.locks = false ∧ (Jvm.Cond.and given_1 narrow_1).before #[Value.ref b] s = true
/-! what is known at the law's entry -/
theorem xs_S (t : Nat) : xsN t = "FIRST_SETTING" ∨ xsN t = "LEAST_SETTING" ∨ xsN t = "MOST_SETTING" ∨ xsN t = "TIDE_TENTHS" := by
  unfold xsN
  split <;> simp
theorem xk_cls {s : State} {A : Array Value} (hts : ∀ w ∈ xgood, w.before A s = true) : ∃ D : va_G, ∀ (c : Nat) (q : vw_C), xcl[c]? = some q → u_Kn s q.1 q.2.1 q.2.2 (D.1 c) (D.2 c) := by
  obtain ⟨c0, i0, h0⟩ := u_known (T := TX0) (N := 7) hts xc_X0.1 (hts _ i_X0)
  obtain ⟨c1, i1, h1⟩ := u_known (T := TX1) (N := 14) hts xc_X1.1 (hts _ i_X1)
  obtain ⟨c2, i2, h2⟩ := u_known (T := TX2) (N := 8) hts xc_X2.1 (hts _ i_X2)
  obtain ⟨c3, i3, h3⟩ := u_known (T := TX3) (N := 2) hts xc_X3.1 (hts _ i_X3)
  obtain ⟨c4, i4, h4⟩ := u_known (T := TX4) (N := 8) hts xc_X4.1 (hts _ i_X4)
  refine ⟨(fun c => match c with | 0 => c0 | 1 => c1 | 2 => c2 | 3 => c3 | _ => c4, fun c => match c with | 0 => i0 | 1 => i1 | 2 => i2 | 3 => i3 | _ => i4), fun c q hq => ?_⟩
  match c, hq with
  | 0, hq => cases hq; exact h0
  | 1, hq => cases hq; exact h1
  | 2, hq => cases hq; exact h2
  | 3, hq => cases hq; exact h3
  | 4, hq => cases hq; exact h4
  | k + 5, hq => simp [xcl] at hq
theorem xk_of {s : State} {A : Array Value} {ty : FieldType} (hty : ∀ C, ty ≠ .object C) (h : (Cond.arrayClass ty).before A s = true) : ∃ cA : ClassId, ArrOfT s cA ty ∧ va_RA s cA ty ∧ s.vm.findClass ("[" ++ ty.toString) = some cA := by
  obtain ⟨c, k, comp, h1, h2, h3⟩ := Cond.arrayClass_spec h
  refine ⟨c, fun n z => ⟨(fun _ h => nomatch h), k, h2, comp, h3⟩, ?_, h1⟩
  cases ty with
  | object C => exact absurd rfl (hty C)
  | _ => exact h1
theorem xk_ofo {s : State} {A : Array Value} {C : String} (h : (Cond.arrayOver (.object C)).before A s = true) : ∃ cA : ClassId, ArrOfT s cA (.object C) ∧ va_RA s cA (.object C) := by
  obtain ⟨comp, c, k, h1, -, h3, h4, h5⟩ := Cond.arrayOver_spec h
  exact ⟨c, fun n z => ⟨(fun _ h => nomatch h), k, h3, comp, h4⟩, k, comp, h3, h4, h1, h5⟩
theorem xk_arr {s : State} {A : Array Value} (hts : ∀ w ∈ lw_tbl, w.before A s = true) : ∃ cA : Nat → ClassId, (∀ (k : Nat) (q : ClassId × FieldType), (xty cA)[k]? = some q → ArrOfT s q.1 q.2 ∧ va_RA s q.1 q.2) ∧ s.vm.findClass "[I" = some (cA 0) := by
  have hg : ∀ w ∈ xgood, w.before A s = true := fun w hw => hts w (List.mem_filter.mp hw).1
  obtain ⟨c0, a0, b0, f0⟩ := xk_of (fun C h => by cases h) (hg _ ac_int)
  obtain ⟨c1, a1, b1, -⟩ := xk_of (fun C h => by cases h) (hg _ ac_boolean)
  obtain ⟨c2, a2, b2, -⟩ := xk_of (fun C h => by cases h) (hg _ ac_char)
  obtain ⟨c3, a3, b3⟩ := xk_ofo (hts (.arrayOver (.object RX0)) (List.mem_of_getElem? (i := 36) (by decide +kernel)))
  obtain ⟨c4, a4, b4⟩ := xk_ofo (hts (.arrayOver (.object RX3)) (List.mem_of_getElem? (i := 38) (by decide +kernel)))
  obtain ⟨c5, a5, b5⟩ := xk_ofo (hts (.arrayOver (.object RX1)) (List.mem_of_getElem? (i := 175) (by decide +kernel)))
  refine ⟨fun c => match c with | 0 => c0 | 1 => c1 | 2 => c2 | 3 => c3 | 4 => c4 | _ => c5, fun k q hq => ?_, f0⟩
  match k, hq with
  | 0, hq => cases hq; exact ⟨a0, b0⟩
  | 1, hq => cases hq; exact ⟨a1, b1⟩
  | 2, hq => cases hq; exact ⟨a2, b2⟩
  | 3, hq => cases hq; exact ⟨a3, b3⟩
  | 4, hq => cases hq; exact ⟨a4, b4⟩
  | 5, hq => cases hq; exact ⟨a5, b5⟩
  | k + 6, hq => simp [xty] at hq
/-- a static table, out of what is given of it -/
theorem xk_tab {s : State} {A : Array Value} (hts : ∀ w ∈ lw_tbl, w.before A s = true) (hg : ∀ w ∈ flatC (Jvm.Cond.and given_1 narrow_1), w.before A s = true) (n : String) (N : Nat) (f : Nat → Int32) (hN : N < 2 ^ 31) (i : Nat) (hi : lw_tbl[i]? = some (.laysStatic RX4 n "[I")) (ha : Cond.arrayOf (.static RX4 n "[I") .int ∈ flatC (Jvm.Cond.and given_1 narrow_1)) (hl : Cond.eq (.length (.static RX4 n "[I")) (.int (Int32.ofNat N)) ∈ flatC (Jvm.Cond.and given_1 narrow_1)) (he : ∀ j, j < N → Cond.eq (.elem (.static RX4 n "[I") (.int (Int32.ofNat j))) (.int (f j)) ∈ flatC (Jvm.Cond.and given_1 narrow_1)) : ∃ t : Nat, (Term.static RX4 n "[I").eval A s none [] s = some (.ref t) ∧ va_Z RX4 n "[I" (.ref t) (fun q => s.heap.size ≤ q) s s.heap ∧ va_T .int t N (fun j => .int (f j)) (fun q => s.heap.size ≤ q) s s.heap := by
  have hA : ∀ a : Nat, a < s.heap.size → ¬ (s.heap.size ≤ a) := fun a h => Nat.not_le.mpr h
  obtain ⟨t, h1, h2⟩ := va_Tof (A := fun q => s.heap.size ≤ q) hN (hg _ ha) (va_eqt (hg _ hl)) (fun j hj => va_eqt (hg _ (he j hj))) hA
  exact ⟨t, h1, va_Zref (hts _ (List.mem_of_getElem? hi)) (hts (.initialized RX4) (List.mem_of_getElem? (i := 5) (by decide +kernel))) h1 hA, h2⟩
theorem xk_ex {s : State} {A : Array Value} {tm : Term} {t N : Nat} {c0 : ClassId} {f : Nat → Int32} (hN : N < 2 ^ 31) (ht : tm.eval A s none [] s = some (.ref t)) (hl : (Cond.eq (.length tm) (.int (Int32.ofNat N))).before A s = true) (hx : (Cond.exactly tm "[I").before A s = true) (hc : s.vm.findClass "[I" = some c0) (hT : va_T .int t N (fun j => .int (f j)) (fun q => s.heap.size ≤ q) s s.heap) : ∃ cell : Cell, s.heap[t]? = some cell ∧ cell.cls = c0 ∧ cell.slots = (vp_cell c0 (N, .inl f)).slots ∧ (∀ k, cell.vm ≠ .statics k) ∧ cell.vm ≠ .unknown ∧ ¬ (s.heap.size ≤ t) := by
  obtain ⟨cell, z1, z2, z3, z4, z5, z6, z7⟩ := hT
  obtain ⟨a, c, cell', k, e1, e2, e3, e4, e5, e6, -⟩ := Cond.exactly_spec hx
  cases ht.symm.trans e1
  cases hc.symm.trans e2
  cases z1.symm.trans e3
  have hv := va_eqt hl
  obtain ⟨b, cell2, h1, h2, -⟩ := Term.length_spec hv
  cases ht.symm.trans h1
  obtain ⟨h3, -, -, -⟩ := State.arrayAt?_spec h2
  cases z1.symm.trans h3
  have hsz : cell.slots.size < 2147483648 := by
    simp only [Term.eval, ht, h2, Option.bind_eq_bind, Option.bind_some] at hv
    by_cases hlt : cell.slots.size < 2147483648
    · exact hlt
    · simp [hlt] at hv
  have hs : cell.slots.size = N := by
    have e := congrArg Int32.toInt z5
    rw [show cell.slots.size.toInt32 = Int32.ofNat cell.slots.size from rfl, Int32.toInt_ofNat_small hsz, Int32.toInt_ofNat_small hN] at e
    exact Int.ofNat.inj e
  refine ⟨cell, z1, e6, ?_, z2.1, z3, z7⟩
  rw [vp_cell_i]
  apply Array.ext_getElem?
  intro i
  by_cases hi : i < N
  · rw [z6 i hi, arrV_read _ _ hi]
  · rw [Array.getElem?_eq_none (by omega), Array.getElem?_eq_none (by rw [arrV_size]; omega)]
theorem xk_all {s : State} {A : Array Value} {b L : Nat} {xs : Nat → Int32} (hL : L ≤ 260) (hX : va_X b L xs s s.heap) (hb : b < s.heap.size) (hts : ∀ w ∈ lw_tbl, w.before A s = true) (hg : ∀ w ∈ flatC (Jvm.Cond.and given_1 narrow_1), w.before A s = true) : ∃ U : xU, U.2.1 = s.heap.size ∧ uA U 4 = b ∧ Kn U s s.heap := by
  have hgd : ∀ w ∈ xgood, w.before A s = true := fun w hw => hts w (List.mem_filter.mp hw).1
  obtain ⟨D, hD⟩ := xk_cls hgd
  obtain ⟨cA, hA, hc⟩ := xk_arr hts
  obtain ⟨t0, a0, b0, d0⟩ := xk_tab hts hg "FIRST_SETTING" 6 (xsV 0) (by decide) 27 (by decide +kernel) (by decide +kernel) (by decide +kernel) (fun j hj => by
    match j, hj with
    | 0, _ => decide +kernel
    | 1, _ => decide +kernel
    | 2, _ => decide +kernel
    | 3, _ => decide +kernel
    | 4, _ => decide +kernel
    | 5, _ => decide +kernel
    | j + 6, hj => omega)
  obtain ⟨t1, a1, b1, d1⟩ := xk_tab hts hg "LEAST_SETTING" 6 (xsV 1) (by decide) 447 (by decide +kernel) (by decide +kernel) (by decide +kernel) (fun j hj => by
    match j, hj with
    | 0, _ => decide +kernel
    | 1, _ => decide +kernel
    | 2, _ => decide +kernel
    | 3, _ => decide +kernel
    | 4, _ => decide +kernel
    | 5, _ => decide +kernel
    | j + 6, hj => omega)
  obtain ⟨t2, a2, b2, d2⟩ := xk_tab hts hg "MOST_SETTING" 6 (xsV 2) (by decide) 449 (by decide +kernel) (by decide +kernel) (by decide +kernel) (fun j hj => by
    match j, hj with
    | 0, _ => decide +kernel
    | 1, _ => decide +kernel
    | 2, _ => decide +kernel
    | 3, _ => decide +kernel
    | 4, _ => decide +kernel
    | 5, _ => decide +kernel
    | j + 6, hj => omega)
  obtain ⟨t3, a3, b3, d3⟩ := xk_tab hts hg "TIDE_TENTHS" 12 (xsV 3) (by decide) 277 (by decide +kernel) (by decide +kernel) (by decide +kernel) (fun j hj => by
    match j, hj with
    | 0, _ => decide +kernel
    | 1, _ => decide +kernel
    | 2, _ => decide +kernel
    | 3, _ => decide +kernel
    | 4, _ => decide +kernel
    | 5, _ => decide +kernel
    | 6, _ => decide +kernel
    | 7, _ => decide +kernel
    | 8, _ => decide +kernel
    | 9, _ => decide +kernel
    | 10, _ => decide +kernel
    | 11, _ => decide +kernel
    | j + 12, hj => omega)
  refine ⟨(D, s.heap.size, (fun i => match i with | 0 => t0 | 1 => t1 | 2 => t2 | 3 => t3 | _ => b), cA), rfl, rfl, ⟨hD, hA⟩, fun q hq => va_Nw.of rfl (hts _ (xnM_in q hq)), fun q hq => va_Nw.of rfl (hts _ (xnF_in q hq)), ⟨va_AO.of (A := A) ?_, va_AO.of (A := A) ?_, va_AO.of (A := A) ?_⟩, ⟨va_Nw.of (A := A) rfl (hts _ (List.mem_of_getElem? (i := 33) (by decide +kernel))), L, xs, hL, hX, Nat.not_le.mpr hb⟩, fun i hi => ?_, ?_⟩
  · exact hts (.arrayOver (.object RX0)) (List.mem_of_getElem? (i := 36) (by decide +kernel))
  · exact hts (.arrayOver (.object RX3)) (List.mem_of_getElem? (i := 38) (by decide +kernel))
  · exact hts (.arrayOver (.object RX1)) (List.mem_of_getElem? (i := 175) (by decide +kernel))
  · match i, hi with
    | 0, _ => exact ⟨b0, d0⟩
    | 1, _ => exact ⟨b1, d1⟩
    | 2, _ => exact ⟨b2, d2⟩
    | 3, _ => exact ⟨b3, d3⟩
    | i + 4, hi => omega
  · exact xk_ex (by decide) a0 (hg _ (by decide +kernel)) (hg _ (by decide +kernel)) hc d0
