def imin (a b : Int32) : Int32 := if b < a then b else a
def iabs (a : Int32) : Int32 := if 0 ≤ a then a else 0 - a
section XCALL
variable {U : xU} {K : xK} {y : MethodName} {cc : ByteArray} {nL cells slots : Nat} {ret : Option FieldType} {rm : Room} {Q : State → Prop} {μ : xH} {pc : Nat} {ls : List (Option Value)} {st : List Value} {a : Nat}
theorem Cx.pre (X : Cx U K y cc nL ret rm) {H : Heap} {locs : List Loc} {av : List Value} (h1 : Hd U μ H) (h2 : va_S (uB U) (ks K).heap H locs) : PreS (ks K) H (cP U av μ) av := by
  refine ⟨cP_blind, fun S hS hW => ⟨rfl, by rw [hS]; exact h1, ?_, by rw [hS]; exact Nat.le_trans X.2.2.2.2.2.2.2.2.2 h2.1⟩⟩
  rw [hS]
  exact (X.2.2.2.2.2.2.2.2.1.warm hW).kept h2.2.1
theorem Cx.fix (X : Cx U K y cc nL ret rm) : CallFix (kp K) (km K) (kc K) cc nL (ks K) (ka K) xgood y.cls := ⟨X.1, X.2.1, X.2.2.1, X.2.2.2.1, X.2.2.2.2.1⟩
theorem AW.run {Q : State → Prop} {mc ms : Nat} {rest stk : List Value} {as : Array Value} {post : Option Value → xH → Prop}
    (hr : ∀ (H : Heap) (locs : List Loc) (la : Array Slot), Hd U μ H → va_S (uB U) (ks K).heap H locs → lv_has la nL (lvl 0 ls) → va_Run (kp K) (kl K) (ke K) (kR K) (ks K) (km K) (ka K) (kb K) (kM K) (kc K) H locs cells slots mc ms (F0 (km K) pc la stk) rest (cQ U post as) (uB U))
    (kk : ∀ (v : Option Value) (μ1 : xH), post v μ1 → AW U K nL (cells + mc) (slots + ms) Q μ1 (pc + 3) ls (v.toList ++ rest)) : AW U K nL cells slots Q μ pc ls stk := by
  intro H locs la h1 h2 h3 T hT X
  obtain ⟨v, st₀, t, T', L, h0, X', hL, e1, e2, ⟨⟨v', μ1, hv, hp, hH⟩, hz, hk⟩, st⟩ := hr H locs la h1 h2 h3 T hT X
  cases hv
  rw [h0] at hz hk
  obtain ⟨t2, a1, b1⟩ := kk v μ1 hp T'.heap (locs ++ L) la (by rw [e1]; exact hH)
    ⟨Nat.le_trans h2.1 (by rw [e1]; exact hz), fun q g1 g2 => by rw [e1, hk q (Nat.lt_of_lt_of_le g1 h2.1) g2]; exact h2.2.1 q g1 g2, fun q hq => by
      rcases List.mem_append.mp hq with h | h
      · exact h2.2.2 q h
      · exact hL q h⟩ h3 T' rfl X'
  exact ⟨t2, st t2 a1, b1⟩
variable {y' : MethodName} {b' : ByteArray} {maxL n index : Nat} {ret' : Option FieldType} {rm' : Room} {post : Option Value → xH → Prop}
theorem xB (X : Cx U K y cc nL ret rm) (hy : XY y' b' maxL ret' n) (hrm : rm'.frames + 1 ≤ rm.frames ∧ 8 + (maxL + 11) + rm'.locals ≤ rm.locals) (hl : Cond.methodLink y.cls index y' ∈ xgood) : CallB (kR K) (ks K) (ka K) y.cls index y' b' maxL ret' (.code y' b' maxL ret' :: xgood) rm' rm'.cells rm'.slots n := by
  obtain ⟨k1, k2, k3, k4, k5⟩ := hy
  have hts := X.2.2.2.2.1
  exact callB_of n hts (xgood_in k1) rfl rfl rfl (hts _ k2) (hts _ hl) ⟨k3, k4, k5⟩ (by rw [X.2.2.2.2.2.2.2.1]; exact hrm)
theorem xBN (X : Cx U K y cc nL ret rm) {host : String} (hy : XY y' b' maxL ret' n) (hrm : rm'.frames + 1 ≤ rm.frames ∧ 8 + (maxL + 11) + rm'.locals ≤ rm.locals) (hl : (y.cls, index, y', host) ∈ xnM) : va_CN (kR K) (ks K) (ka K) y.cls index y' host b' maxL ret' (.code y' b' maxL ret' :: xgood) rm' rm'.cells rm'.slots n := by
  obtain ⟨k1, k2, k3, k4, k5⟩ := hy
  have hts := X.2.2.2.2.1
  exact va_cnB n hts (xgood_in k1) rfl rfl rfl (X.2.2.2.2.2.2.2.2.1.2.1 _ hl) (hts _ k2) ⟨k3, k4, k5⟩ (by rw [X.2.2.2.2.2.2.2.1]; exact hrm)
/-- invokevirtual of a method of the receiver's own class -/
theorem aw_cV (X : Cx U K y cc nL ret rm) {As : List Value} {fs : List Value} {ci N : Nat} {T : u_T} (hM : Ct (kl K) U y' b' maxL ret' rm' (.ref a :: As) μ post) (hs : XV y.cls index y') (hy : XY y' b' maxL ret' n) (hrm : rm'.frames + 1 ≤ rm.frames ∧ 8 + (maxL + 11) + rm'.locals ≤ rm.locals) (hf : cells + rm'.cells ≤ (kR K).cells ∧ slots + rm'.slots ≤ (kR K).slots) (hn : As.length = n) (hst : (st.map fun v => v.category).sum ≤ 8)
    (hμ : μ a = some (.inr (ci, fs))) (hci : xcl[ci]? = some (y'.cls, T, N)) (hdg : decode cc pc = .ok (.invokevirtual index, 3))
    (kk : ∀ (v : Option Value) (μ1 : xH), post v μ1 → AW U K nL (cells + rm'.cells) (slots + rm'.slots) Q μ1 (pc + 3) ls (v.toList ++ st)) : AW U K nL cells slots Q μ pc ls (As.reverse ++ .ref a :: st) := by
  refine AW.run (mc := rm'.cells) (ms := rm'.slots) (rest := st) (as := (Value.ref a :: As).toArray) (fun H locs la h1 h2 h3 => ?_) kk
  have hts := X.2.2.2.2.1
  have hp : PreV (ks K) H y'.cls a (cP U (.ref a :: As) μ) As := ⟨cP_blind, va_recv X.2.2.2.2.2.2.2.2.1.1 (xP1 h1 hμ) hci (q0 := 0) rfl, (X.pre h1 h2).2⟩
  exact va_runV X.fix hM ⟨xB X hy hrm hs.1, hts _ hs.2.1, hts _ hs.2.2⟩ hp rfl hn h3.1 rfl (lv_room hst) hdg hf
/-- invokestatic -/
theorem aw_cS (X : Cx U K y cc nL ret rm) {As : List Value} (hM : Ct (kl K) U y' b' maxL ret' rm' As μ post) (hs : XS y.cls index y') (hy : XY y' b' maxL ret' n) (hrm : rm'.frames + 1 ≤ rm.frames ∧ 8 + (maxL + 11) + rm'.locals ≤ rm.locals) (hf : cells + rm'.cells ≤ (kR K).cells ∧ slots + rm'.slots ≤ (kR K).slots) (hn : As.length = n) (hst : (st.map fun v => v.category).sum ≤ 8) (hdg : decode cc pc = .ok (.invokestatic index, 3))
    (kk : ∀ (v : Option Value) (μ1 : xH), post v μ1 → AW U K nL (cells + rm'.cells) (slots + rm'.slots) Q μ1 (pc + 3) ls (v.toList ++ st)) : AW U K nL cells slots Q μ pc ls (As.reverse ++ st) := by
  refine AW.run (mc := rm'.cells) (ms := rm'.slots) (rest := st) (as := As.toArray) (fun H locs la h1 h2 h3 => ?_) kk
  have hts := X.2.2.2.2.1
  exact va_runS X.fix hM ⟨xB X hy hrm hs.1, hts _ hs.2⟩ (X.pre h1 h2) rfl hn h3.1 rfl (lv_room hst) hdg hf
theorem aw_cSN (X : Cx U K y cc nL ret rm) {host : String} {As : List Value} (hM : Ct (kl K) U y' b' maxL ret' rm' As μ post) (hs : XSN y.cls index y' host) (hy : XY y' b' maxL ret' n) (hrm : rm'.frames + 1 ≤ rm.frames ∧ 8 + (maxL + 11) + rm'.locals ≤ rm.locals) (hf : cells + rm'.cells ≤ (kR K).cells ∧ slots + rm'.slots ≤ (kR K).slots) (hn : As.length = n) (hst : (st.map fun v => v.category).sum ≤ 8) (hdg : decode cc pc = .ok (.invokestatic index, 3))
    (kk : ∀ (v : Option Value) (μ1 : xH), post v μ1 → AW U K nL (cells + rm'.cells) (slots + rm'.slots) Q μ1 (pc + 3) ls (v.toList ++ st)) : AW U K nL cells slots Q μ pc ls (As.reverse ++ st) := by
  refine AW.run (mc := rm'.cells) (ms := rm'.slots) (rest := st) (as := As.toArray) (fun H locs la h1 h2 h3 => ?_) kk
  have hts := X.2.2.2.2.1
  exact va_runSN X.fix hM ⟨xBN X hy hrm hs.1, hts _ hs.2, trivial⟩ (X.pre h1 h2) rfl hn h3.1 rfl (lv_room hst) hdg hf
/-- invokespecial of a constructor -/
theorem aw_cI (X : Cx U K y cc nL ret rm) {As : List Value} (hM : Ct (kl K) U y' b' maxL none rm' (.ref a :: As) μ post) (hs : XI y.cls index y') (hy : XY y' b' maxL none n) (hrm : rm'.frames + 1 ≤ rm.frames ∧ 8 + (maxL + 11) + rm'.locals ≤ rm.locals) (hf : cells + rm'.cells ≤ (kR K).cells ∧ slots + rm'.slots ≤ (kR K).slots) (hn : As.length = n) (hst : (st.map fun v => v.category).sum ≤ 8) (hdg : decode cc pc = .ok (.invokespecial index, 3))
    (kk : ∀ (v : Option Value) (μ1 : xH), post v μ1 → AW U K nL (cells + rm'.cells) (slots + rm'.slots) Q μ1 (pc + 3) ls (v.toList ++ st)) : AW U K nL cells slots Q μ pc ls (As.reverse ++ .ref a :: st) := by
  refine AW.run (mc := rm'.cells) (ms := rm'.slots) (rest := st) (as := (Value.ref a :: As).toArray) (fun H locs la h1 h2 h3 => ?_) kk
  have hts := X.2.2.2.2.1
  exact va_runI X.fix hM ⟨xB X hy hrm hs.1, hs.2.2, hts _ hs.2.1⟩ (X.pre h1 h2) rfl hn h3.1 rfl (lv_room hst) hdg hf
theorem aw_cIN (X : Cx U K y cc nL ret rm) {host : String} {As : List Value} (hM : Ct (kl K) U y' b' maxL none rm' (.ref a :: As) μ post) (hs : XIN y.cls index y' host) (hy : XY y' b' maxL none n) (hrm : rm'.frames + 1 ≤ rm.frames ∧ 8 + (maxL + 11) + rm'.locals ≤ rm.locals) (hf : cells + rm'.cells ≤ (kR K).cells ∧ slots + rm'.slots ≤ (kR K).slots) (hn : As.length = n) (hst : (st.map fun v => v.category).sum ≤ 8) (hdg : decode cc pc = .ok (.invokespecial index, 3))
    (kk : ∀ (v : Option Value) (μ1 : xH), post v μ1 → AW U K nL (cells + rm'.cells) (slots + rm'.slots) Q μ1 (pc + 3) ls (v.toList ++ st)) : AW U K nL cells slots Q μ pc ls (As.reverse ++ .ref a :: st) := by
  refine AW.run (mc := rm'.cells) (ms := rm'.slots) (rest := st) (as := (Value.ref a :: As).toArray) (fun H locs la h1 h2 h3 => ?_) kk
  have hts := X.2.2.2.2.1
  exact va_runIN X.fix hM ⟨xBN X hy hrm hs.1, hs.2.2, hts _ hs.2.1⟩ (X.pre h1 h2) rfl hn h3.1 rfl (lv_room hst) hdg hf
/-- Object's constructor -/
theorem aw_obj (X : Cx U K y cc nL ret rm) (hl : Cond.methodLink y.cls index objectInit ∈ xgood) (hrm : 1 ≤ rm.frames ∧ (st.map fun v => v.category).sum + 12 ≤ rm.locals) (hdg : decode cc pc = .ok (.invokespecial index, 3)) (kk : AW U K nL cells slots Q μ (pc + 3) ls st) : AW U K nL cells slots Q μ pc ls (.ref a :: st) := by
  intro H locs la h1 h2 h3
  have hts := X.2.2.2.2.1
  refine W.objInit X.1 X.2.1 X.2.2.2.1 (hts _ hl) (hts _ oi_i) (hts _ oi_c) rfl (by rw [X.2.2.1]; exact h3.1) rfl hdg (by rw [X.2.2.2.2.2.2.2.1]; exact hrm.1) (by rw [X.2.2.2.2.2.2.2.1]; show 2 * 0 + _ + 12 ≤ _; omega) ?_
  exact kk H locs la h1 h2 h3
/-- Math.min, Math.abs -/
theorem aw_min (X : Cx U K y cc nL ret rm) (hl : Cond.methodLink y.cls index Lib.Math.min.name ∈ xgood) (hrm : 1 ≤ rm.frames ∧ (st.map fun v => v.category).sum + 13 ≤ rm.locals) (hc : cells ≤ rm.cells ∧ slots ≤ rm.slots) {u v : Int32} (hdg : decode cc pc = .ok (.invokestatic index, 3)) (kk : AW U K nL cells slots Q μ (pc + 3) ls (.int (imin u v) :: st)) : AW U K nL cells slots Q μ pc ls (.int v :: .int u :: st) := by
  intro H locs la h1 h2 h3
  have hts := X.2.2.2.2.1
  have hR := X.2.2.2.2.2.2.2.1
  exact va_mmin X.1 X.2.1 (by rw [X.2.2.1]; exact h3.1.symm) X.2.2.2.1 (hts _ hl) (hts _ mmin_s) (hts _ mm_i) (hts _ mmin_c) (by rw [hR]; exact hrm.1) (by rw [hR]; exact hrm.2) (by rw [hR]; exact hc.1) (by rw [hR]; exact hc.2) hdg (kk H locs la h1 h2 h3)
theorem aw_abs (X : Cx U K y cc nL ret rm) (hl : Cond.methodLink y.cls index Lib.Math.abs.name ∈ xgood) (hrm : 1 ≤ rm.frames ∧ (st.map fun v => v.category).sum + 13 ≤ rm.locals) (hc : cells ≤ rm.cells ∧ slots ≤ rm.slots) {u : Int32} (hdg : decode cc pc = .ok (.invokestatic index, 3)) (kk : AW U K nL cells slots Q μ (pc + 3) ls (.int (iabs u) :: st)) : AW U K nL cells slots Q μ pc ls (.int u :: st) := by
  intro H locs la h1 h2 h3
  have hts := X.2.2.2.2.1
  have hR := X.2.2.2.2.2.2.2.1
  exact va_mabs X.1 X.2.1 (by rw [X.2.2.1]; exact h3.1.symm) X.2.2.2.1 (hts _ hl) (hts _ mabs_s) (hts _ mm_i) (hts _ mabs_c) (by rw [hR]; exact hrm.1) (by rw [hR]; exact hrm.2) (by rw [hR]; exact hc.1) (by rw [hR]; exact hc.2) hdg (kk H locs la h1 h2 h3)
/-- making -/
theorem aw_new (X : Cx U K y cc nL ret rm) {ci N : Nat} {C : String} {T : u_T} {fs : List Value} (hci : xcl[ci]? = some (C, T, N)) (hl : Cond.classLink y.cls index C ∈ xgood) (hi : Cond.instantiable C N ∈ xgood) (hn : Cond.initialized C ∈ xgood) (ty : Nat → FieldType) (hty : ∀ k, k < N → parseFieldDescriptor (T k).2.2.1 = some (ty k)) (hfs : ∀ j, j < N → defaultValue (ty j) = vp_V fs j) (hc : cells + 1 ≤ rm.cells ∧ slots + N ≤ rm.slots) (hdg : decode cc pc = .ok (.new index, 3))
    (kk : ∀ q : Nat, μ q = none → AW U K nL (cells + 1) (slots + N) Q (xup μ q (.inr (ci, fs))) (pc + 3) ls (.ref q :: st)) : AW U K nL cells slots Q μ pc ls st := by
  intro H locs la h1 h2 h3
  have hts := X.2.2.2.2.1
  have hR := X.2.2.2.2.2.2.2.1
  have hKn := X.2.2.2.2.2.2.2.2.1.1.1 ci _ hci
  obtain ⟨c1, -, -⟩ := xc_all ci C T N hci
  have hno : μ H.size = none := by
    cases hq : μ H.size with
    | none => rfl
    | some e => exact absurd (h1.lt hq) (Nat.lt_irrefl _)
  refine W.newcK X.1 X.2.1 X.2.2.2.1 (hts _ hl) (hts _ hi) (hts _ hn) rfl hdg (by rw [hR]; exact hc.1) (by rw [hR]; exact hc.2) hKn.2.1 rfl fun H1 kC hkC e1 z1 o1 => ?_
  refine kk H.size hno H1 locs la (h1.new rfl (Nat.le_trans X.2.2.2.2.2.2.2.2.2 h2.1) ⟨_, hci, (u_born ty hts c1 hKn hkC e1 hty).to hfs⟩ o1) (h2.grown (by omega) o1) h3
theorem xRA {S : State} {cA cB : ClassId} {ty : FieldType} (h : va_RA S cA ty) (hf : S.vm.findClass ("[" ++ ty.toString) = some cB) : cB = cA := by
  cases ty with
  | object C =>
    obtain ⟨_, _, _, _, _, h4⟩ := h
    exact Option.some.inj (hf.symm.trans h4)
  | _ => exact Option.some.inj (hf.symm.trans h)
theorem aw_newa (X : Cx U K y cc nL ret rm) {atype : ArrayType} {ty : FieldType} {t0 : Nat} (harr : Cond.arrayClass ty ∈ xgood) (hty : newarray.typeOf atype = ty) (ht : (xty (uC U))[t0]? = some (uC U t0, ty)) {n : Int32} {N' : Nat} {f : Nat → Int32} (hd : defaultValue ty = .int 0) (hf : f = fun _ => 0) (hn : ¬ n < 0) (hN : n.toNatClampNeg = N') (hb : N' * componentBytes ty ≤ 536870912) (hc : cells + 1 ≤ rm.cells ∧ slots + N' ≤ rm.slots) (hdg : decode cc pc = .ok (.newarray atype, 2))
    (kk : ∀ q : Nat, μ q = none → AW U K nL (cells + 1) (slots + N') Q (xup μ q (.inl (uC U t0, N', .inl f))) (pc + 2) ls (.ref q :: st)) : AW U K nL cells slots Q μ pc ls (.int n :: st) := by
  subst hty
  intro H locs la h1 h2 h3
  have hts := X.2.2.2.2.1
  have hR := X.2.2.2.2.2.2.2.1
  have hno : μ H.size = none := by
    cases hq : μ H.size with
    | none => rfl
    | some e => exact absurd (h1.lt hq) (Nat.lt_irrefl _)
  refine va_newaK X.1 X.2.1 (hts _ harr) rfl hdg rfl hn hN hb (by rw [hR]; exact hc.1) (by rw [hR]; exact hc.2) rfl fun H1 cA e1 z1 o1 hAr hNm => ?_
  have hcA := xRA (X.2.2.2.2.2.2.2.2.1.1.2 t0 _ ht).2 hNm
  subst hcA
  refine kk H.size hno H1 locs la (h1.new rfl (Nat.le_trans X.2.2.2.2.2.2.2.2.2 h2.1) (by show H1[H.size]? = some (vp_cell _ _); rw [e1, vp_cell_i, hd, hf]) o1) (h2.grown (by omega) o1) h3
theorem aw_newq (X : Cx U K y cc nL ret rm) {C : String} {t0 : Nat} (hl : Cond.classLink y.cls index C ∈ xgood) (hAO : va_AO C (ks K)) (ht : (xty (uC U))[t0]? = some (uC U t0, .object C)) {n : Int32} {N' : Nat} (hn : ¬ n < 0) (hN : n.toNatClampNeg = N') (hb : N' * 4 ≤ 536870912) (hc : cells + 1 ≤ rm.cells ∧ slots + N' ≤ rm.slots) (hdg : decode cc pc = .ok (.anewarray index, 3))
    (kk : ∀ q : Nat, μ q = none → AW U K nL (cells + 1) (slots + N') Q (xup μ q (.inl (uC U t0, N', .inr (.inr (.inr (.inr (fun _ => none))))))) (pc + 3) ls (.ref q :: st)) : AW U K nL cells slots Q μ pc ls (.int n :: st) := by
  subst hN
  intro H locs la h1 h2 h3
  have hts := X.2.2.2.2.1
  have hR := X.2.2.2.2.2.2.2.1
  have hno : μ H.size = none := by
    cases hq : μ H.size with
    | none => rfl
    | some e => exact absurd (h1.lt hq) (Nat.lt_irrefl _)
  refine W.anew X.1 X.2.1 X.2.2.2.1 (hts _ hl) (va_AO.use hAO) rfl hdg rfl hn hb (by rw [hR]; exact hc.1) (by rw [hR]; exact hc.2) fun cA kA comp f1 f2 f3 f4 => ?_
  have hcA := xRA (X.2.2.2.2.2.2.2.2.1.1.2 t0 _ ht).2 f1
  subst hcA
  generalize hH1 : H.push ({ cls := uC U t0, slots := Array.replicate n.toNatClampNeg .null, vm := .none } : Cell) = H1
  have z1 : H1.size = H.size + 1 := by rw [← hH1, Array.size_push]
  have e1 : H1[H.size]? = some (arrV (uC U t0) n.toNatClampNeg (fun _ => .null)) := by rw [← hH1, Array.getElem?_push_size, ← arrV_new]
  have o1 : ∀ q : Nat, q < H.size → H1[q]? = H[q]? := fun q hq => by rw [← hH1, Array.getElem?_push, if_neg (Nat.ne_of_lt hq)]
  exact kk H.size hno H1 locs la (h1.new rfl (Nat.le_trans X.2.2.2.2.2.2.2.2.2 h2.1) (by show H1[H.size]? = some (vp_cell _ _); rw [e1, vp_cell_q]; rfl) o1) (h2.grown (by omega) o1) h3
end XCALL
