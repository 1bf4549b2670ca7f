section XHEAP
variable {U : xU} {K : xK} {y : MethodName} {cc : ByteArray} {nL cells slots : Nat} {ret : Option FieldType} {rm : Room} {Q : State → Prop} {μ : xH} {pc : Nat} {ls : List (Option Value)} {st : List Value} {a : Nat}
theorem xin_lt {i : Int32} {n : Nat} (h : vp_in i n) : i.toNatClampNeg < n := Nat.not_le.mp fun q => h (Or.inr q)
theorem va_S.puts {A : Nat → Prop} {H0 H H1 : Heap} {locs : List Loc} (h : va_S A H0 H locs) {a i : Nat} (ha : A a) (z : H1.size = H.size) (o : ∀ q : Nat, q ≠ a → H1[q]? = H[q]?) : va_S A H0 H1 (locs ++ [⟨a, i⟩]) := by
  refine ⟨by rw [z]; exact h.1, fun q h1 h2 => ?_, fun l hl => ?_⟩
  · rw [o q (fun e => h2 (e ▸ ha))]
    exact h.2.1 q h1 h2
  · rcases List.mem_append.mp hl with h1 | h1
    · exact h.2.2 l h1
    · rw [List.mem_singleton.mp h1]
      exact ha
theorem va_S.grown {A : Nat → Prop} {H0 H H1 : Heap} {locs : List Loc} (h : va_S A H0 H locs) (z : H.size ≤ H1.size) (o : ∀ q : Nat, q < H.size → H1[q]? = H[q]?) : va_S A H0 H1 locs :=
  ⟨Nat.le_trans h.1 z, fun q h1 h2 => (o q (Nat.lt_of_lt_of_le h1 h.1)).trans (h.2.1 q h1 h2), h.2.2⟩
/-- getfield -/
theorem aw_get (X : Cx U K y cc nL ret rm) {index ci k N : Nat} {C : String} {T : u_T} (hf : XF y.cls index ci k C T N) {fs : List Value} {v : Value} (hμ : μ a = some (.inr (ci, fs))) (hv : fs[k]? = some v) (hdg : decode cc pc = .ok (.getfield index, 3)) (kk : AW U K nL cells slots Q μ (pc + 3) ls (v :: st)) : AW U K nL cells slots Q μ pc ls (.ref a :: st) := by
  intro H locs la h1 h2 h3
  obtain ⟨f1, f2, f3, f4⟩ := hf
  obtain ⟨c1, -, -⟩ := xc_all ci C T N f1
  have hP : va_P U.1 xcl [(a, .inr (ci, fs))] H := fun k q hq => by
    cases k with
    | zero => cases hq; exact (h1 a _ hμ).2
    | succ k => simp at hq
  exact va_get (D := U.1) (tys := xty (uC U)) X.1 X.2.1 X.2.2.2.2.1 c1 X.2.2.2.1 X.2.2.2.2.2.2.2.2.1.1 hP 0 (he := rfl) f1 k f2 (X.2.2.2.2.1 _ f3) (fun x hx => by rw [f4] at hx; exact hx) hv hdg (kk H locs la h1 h2 h3)
theorem xfit_i {x : Int32} : narrow .int (.int x) = .int x ∧ fits .int (.int x) = true := ⟨rfl, rfl⟩
theorem xfit_z {x : Int32} (h : x = 0 ∨ x = 1) : narrow .boolean (.int x) = .int x ∧ fits .boolean (.int x) = true := by
  rcases h with rfl | rfl <;> exact ⟨rfl, rfl⟩
/-- putfield -/
theorem aw_put (X : Cx U K y cc nL ret rm) {index ci k N : Nat} {C : String} {T : u_T} (hf : XF y.cls index ci k C T N) {fs : List Value} {v : Value} {ty : FieldType} (hμ : μ a = some (.inr (ci, fs))) (hfin : (T k).2.2.2 = false) (hd : parseFieldDescriptor (T k).2.2.1 = some ty) (hn : narrow ty v = v ∧ fits ty v = true) (hl : k < fs.length) (hdg : decode cc pc = .ok (.putfield index, 3)) (kk : AW U K nL cells slots Q (xup μ a (.inr (ci, fs.set k v))) (pc + 3) ls st) : AW U K nL cells slots Q μ pc ls (v :: .ref a :: st) := by
  intro H locs la h1 h2 h3
  obtain ⟨f1, f2, f3, f4⟩ := hf
  obtain ⟨c1, ⟨ty0, c2⟩, c3⟩ := xc_all ci C T N f1
  have hK := X.2.2.2.2.2.2.2.2.1.1
  have hts := X.2.2.2.2.1
  have hap := va_apart (own := y.cls) hts c1 ty0 c2 c3 hK f1
  obtain ⟨hB, r, g1, cell, q1, q2, q3, q4⟩ := h1 a _ hμ
  have hr : r = (C, T, N) := Option.some.inj (g1.symm.trans f1)
  subst hr
  obtain ⟨hS, hfc, kC, hkC, hkind⟩ := hK.1 ci _ f1
  obtain ⟨cf, kf, fi, f, hi, hsl⟩ := hS k f2
  have hlay := hts _ (c1 _ (u_in_lay f2))
  unfold u_lay at hlay
  rw [if_neg (by rw [hfin]; decide)] at hlay
  have hst := (u_facts hfc hkC (u_lays hts c1 f2) hi).1
  have h6 := u_store hfc hkC hkind hlay hi hd hn.1 hn.2
  refine W.putK X.1 X.2.1 (f := f) ⟨X.2.2.2.1, hts _ f3, ⟨_, _, _, by rw [f4] at hi; exact hi⟩, hst⟩ (by rw [q2]; exact h6) q1 q3 (by rw [hsl]; exact k2_hasslot (q4 k f2)) rfl rfl hdg fun H' e1 e2 e3 => ?_
  rw [hsl] at e1 ⊢
  exact kk H' _ la (h1.put hμ ⟨_, f1, t_OB.to (V := updV (vp_V fs) k v) ⟨_, e1, q2, q3, t_set q4 hap f2 v⟩ (fun j _ => vp_updV_set hl v j)⟩ e3) (h2.puts hB e2 e3) h3
/-- putfield of a final field, in a constructor -/
theorem aw_putF (X : Cx U K y cc nL ret rm) {index ci k N : Nat} {C : String} {T : u_T} (hf : XF y.cls index ci k C T N) (hnm : (kM K).name = "<init>") (hC : C = y.cls) {fs : List Value} {v : Value} {ty : FieldType} (hμ : μ a = some (.inr (ci, fs))) (hfin : (T k).2.2.2 = true) (hd : parseFieldDescriptor (T k).2.2.1 = some ty) (hn : narrow ty v = v ∧ fits ty v = true) (hl : k < fs.length) (hdg : decode cc pc = .ok (.putfield index, 3)) (kk : AW U K nL cells slots Q (xup μ a (.inr (ci, fs.set k v))) (pc + 3) ls st) : AW U K nL cells slots Q μ pc ls (v :: .ref a :: st) := by
  intro H locs la h1 h2 h3
  obtain ⟨f1, f2, f3, f4⟩ := hf
  obtain ⟨c1, ⟨ty0, c2⟩, c3⟩ := xc_all ci C T N f1
  have hK := X.2.2.2.2.2.2.2.2.1.1
  have hts := X.2.2.2.2.1
  have hap := va_apart (own := y.cls) hts c1 ty0 c2 c3 hK f1
  obtain ⟨hB, r, g1, cell, q1, q2, q3, q4⟩ := h1 a _ hμ
  have hr : r = (C, T, N) := Option.some.inj (g1.symm.trans f1)
  subst hr
  obtain ⟨hS, hfc, kC, hkC, hkind⟩ := hK.1 ci _ f1
  obtain ⟨cf, kf, fi, f, hi, hsl⟩ := hS k f2
  have hlay := hts _ (c1 _ (u_in_lay f2))
  unfold u_lay at hlay
  rw [if_pos hfin] at hlay
  have hst := (u_facts hfc hkC (u_lays hts c1 f2) hi).1
  have hcf : (km K).cls = cf := by
    obtain ⟨_, _, c', _, _, _, -, -, hf', -, -, -, hown2, -⟩ := Cond.laysFinal_spec hlay
    have e1 : c' = cf := by have := hi.symm.trans hf'; simp at this; exact this.1.symm
    rw [f4, hC] at hown2
    rw [← e1]; exact Option.some.inj (X.2.2.2.1.symm.trans hown2)
  have h6 := u_fits hfc hkC hkind (Or.inr hlay) hi hd hn.1 hn.2
  refine W.putFinK X.1 X.2.1 X.2.2.2.1 (hts _ f3) (by rw [f4] at hi; exact hi) hst hcf hnm (by rw [q2]; exact h6) q1 q3 (by rw [hsl]; exact k2_hasslot (q4 k f2)) rfl rfl hdg fun H' e1 e2 e3 => ?_
  rw [hsl] at e1 ⊢
  exact kk H' _ la (h1.put hμ ⟨_, f1, t_OB.to (V := updV (vp_V fs) k v) ⟨_, e1, q2, q3, t_set q4 hap f2 v⟩ (fun j _ => vp_updV_set hl v j)⟩ e3) (h2.puts hB e2 e3) h3
theorem xP1 {H : Heap} {e : va_E} (h1 : Hd U μ H) (hμ : μ a = some e) : va_P U.1 xcl [(a, e)] H := fun k q hq => by
  cases k with
  | zero => cases hq; exact (h1 a _ hμ).2
  | succ k => simp at hq
theorem aw_iald (X : Cx U K y cc nL ret rm) {n : Nat} {f : Nat → Int32} {i : Int32} (hμ : μ a = some (.inl (uC U 0, n, .inl f))) (hin : vp_in i n) (hdg : decode cc pc = .ok (.iaload, 1)) (kk : AW U K nL cells slots Q μ (pc + 1) ls (.int (f i.toNatClampNeg) :: st)) : AW U K nL cells slots Q μ pc ls (.int i :: .ref a :: st) := fun H locs la h1 h2 h3 =>
  va_iald (D := U.1) (tys := xty (uC U)) X.1 X.2.1 X.2.2.2.2.2.2.2.2.1.1 (xP1 h1 hμ) 0 0 (ha := rfl) (ht := rfl) hin hdg (kk H locs la h1 h2 h3)
theorem aw_zald (X : Cx U K y cc nL ret rm) {n : Nat} {f : Nat → Int32} {i : Int32} (hμ : μ a = some (.inl (uC U 1, n, .inl f))) (hin : vp_in i n) (hdg : decode cc pc = .ok (.baload, 1)) (kk : AW U K nL cells slots Q μ (pc + 1) ls (.int (f i.toNatClampNeg) :: st)) : AW U K nL cells slots Q μ pc ls (.int i :: .ref a :: st) := fun H locs la h1 h2 h3 =>
  va_zald (D := U.1) (tys := xty (uC U)) X.1 X.2.1 X.2.2.2.2.2.2.2.2.1.1 (xP1 h1 hμ) 0 1 (ha := rfl) (ht := rfl) hin hdg (kk H locs la h1 h2 h3)
theorem aw_cald (X : Cx U K y cc nL ret rm) {n : Nat} {f : Nat → Int32} {i : Int32} (hμ : μ a = some (.inl (uC U 2, n, .inl f))) (hin : vp_in i n) (hdg : decode cc pc = .ok (.caload, 1)) (kk : AW U K nL cells slots Q μ (pc + 1) ls (.int (f i.toNatClampNeg) :: st)) : AW U K nL cells slots Q μ pc ls (.int i :: .ref a :: st) := fun H locs la h1 h2 h3 =>
  va_cald (D := U.1) (tys := xty (uC U)) X.1 X.2.1 X.2.2.2.2.2.2.2.2.1.1 (xP1 h1 hμ) 0 2 (ha := rfl) (ht := rfl) hin hdg (kk H locs la h1 h2 h3)
theorem aw_aald (X : Cx U K y cc nL ret rm) {n t0 : Nat} {C : String} (ht : (xty (uC U))[t0]? = some (uC U t0, .object C)) {f : Nat → Option Nat} {i : Int32} (hμ : μ a = some (.inl (uC U t0, n, .inr (.inr (.inr (.inr f)))))) (hin : vp_in i n) {v : Nat} (hv : f i.toNatClampNeg = some v) (hdg : decode cc pc = .ok (.aaload, 1)) (kk : AW U K nL cells slots Q μ (pc + 1) ls (.ref v :: st)) : AW U K nL cells slots Q μ pc ls (.int i :: .ref a :: st) := fun H locs la h1 h2 h3 =>
  va_aldq (D := U.1) (tys := xty (uC U)) X.1 X.2.1 X.2.2.2.2.2.2.2.2.1.1 (xP1 h1 hμ) 0 t0 (ha := rfl) (ht := ht) hin hdg (by rw [hv]; exact kk H locs la h1 h2 h3)
theorem aw_alen (X : Cx U K y cc nL ret rm) {x : vp_A} {t0 : Nat} {ty : FieldType} (ht : (xty (uC U))[t0]? = some (uC U t0, ty)) {v : Int32} (hμ : μ a = some (.inl (uC U t0, x))) (hv : Int32.ofNat x.1 = v) (hdg : decode cc pc = .ok (.arraylength, 1)) (kk : AW U K nL cells slots Q μ (pc + 1) ls (.int v :: st)) : AW U K nL cells slots Q μ pc ls (.ref a :: st) := fun H locs la h1 h2 h3 =>
  va_alen (D := U.1) (tys := xty (uC U)) X.1 X.2.1 X.2.2.2.2.2.2.2.2.1.1 (xP1 h1 hμ) 0 t0 (ha := rfl) (ht := ht) hv hdg (kk H locs la h1 h2 h3)
theorem xarr_i {cA : ClassId} {n k : Nat} {f : Nat → Int32} {x : Int32} : (vp_cell cA (n, .inl f)).setSlot k (.int x) = vp_cell cA (n, .inl (upd f k x)) := by
  rw [vp_cell_i, vp_cell_i, arrV_store]
  congr 1
  funext q
  by_cases hq : q = k
  · subst hq; simp [updV, upd]
  · simp [updV, upd, hq]
theorem aw_iast (X : Cx U K y cc nL ret rm) {n : Nat} {f : Nat → Int32} {i x : Int32} (hμ : μ a = some (.inl (uC U 0, n, .inl f))) (hin : vp_in i n) (hdg : decode cc pc = .ok (.iastore, 1)) (kk : AW U K nL cells slots Q (xup μ a (.inl (uC U 0, n, .inl (upd f i.toNatClampNeg x)))) (pc + 1) ls st) : AW U K nL cells slots Q μ pc ls (.int x :: .int i :: .ref a :: st) := by
  intro H locs la h1 h2 h3
  have hK := X.2.2.2.2.2.2.2.2.1.1
  refine W.iast X.1 X.2.1 (h1 a _ hμ).2 ((hK.2 0 _ rfl).1 n (fun j => .int (f j))) (fun q => by cases q) (by show ¬ (i < 0 ∨ (arrV _ _ _).slots.size ≤ _); rw [arrV_size]; exact hin) rfl rfl hdg fun H1 e z oq => ?_
  exact kk H1 _ la (h1.put hμ (by show H1[a]? = some (vp_cell _ _); rw [e, xarr_i]) oq) (h2.puts (h1 a _ hμ).1 z oq) h3
theorem aw_zast (X : Cx U K y cc nL ret rm) {n : Nat} {f : Nat → Int32} {i x : Int32} (hx : x = 0 ∨ x = 1) (hμ : μ a = some (.inl (uC U 1, n, .inl f))) (hin : vp_in i n) (hdg : decode cc pc = .ok (.bastore, 1)) (kk : AW U K nL cells slots Q (xup μ a (.inl (uC U 1, n, .inl (upd f i.toNatClampNeg x)))) (pc + 1) ls st) : AW U K nL cells slots Q μ pc ls (.int x :: .int i :: .ref a :: st) := by
  intro H locs la h1 h2 h3
  have hK := X.2.2.2.2.2.2.2.2.1.1
  refine W.zast X.1 X.2.1 (h1 a _ hμ).2 ((hK.2 1 _ rfl).1 n (fun j => .int (f j))) (fun q => by cases q) (by show ¬ (i < 0 ∨ (arrV _ _ _).slots.size ≤ _); rw [arrV_size]; exact hin) rfl rfl hdg fun H1 e z oq => ?_
  exact kk H1 _ la (h1.put hμ (by show H1[a]? = some (vp_cell _ _); rw [e, (xfit_z hx).1, xarr_i]) oq) (h2.puts (h1 a _ hμ).1 z oq) h3
theorem aw_cast (X : Cx U K y cc nL ret rm) {n : Nat} {f : Nat → Int32} {i x : Int32} (hx : narrow .char (.int x) = .int x) (hμ : μ a = some (.inl (uC U 2, n, .inl f))) (hin : vp_in i n) (hdg : decode cc pc = .ok (.castore, 1)) (kk : AW U K nL cells slots Q (xup μ a (.inl (uC U 2, n, .inl (upd f i.toNatClampNeg x)))) (pc + 1) ls st) : AW U K nL cells slots Q μ pc ls (.int x :: .int i :: .ref a :: st) := by
  intro H locs la h1 h2 h3
  have hK := X.2.2.2.2.2.2.2.2.1.1
  refine W.cast X.1 X.2.1 (h1 a _ hμ).2 ((hK.2 2 _ rfl).1 n (fun j => .int (f j))) (fun q => by cases q) (by show ¬ (i < 0 ∨ (arrV _ _ _).slots.size ≤ _); rw [arrV_size]; exact hin) rfl rfl hdg fun H1 e z oq => ?_
  exact kk H1 _ la (h1.put hμ (by show H1[a]? = some (vp_cell _ _); rw [e, hx, xarr_i]) oq) (h2.puts (h1 a _ hμ).1 z oq) h3
theorem xarr_q {cA : ClassId} {n k v : Nat} {f : Nat → Option Nat} : (vp_cell cA (n, .inr (.inr (.inr (.inr f))))).setSlot k (.ref v) = vp_cell cA (n, .inr (.inr (.inr (.inr (va_up f k (some v)))))) := by
  rw [vp_cell_q, vp_cell_q, arrV_store]
  congr 1
  funext q
  by_cases hq : q = k
  · subst hq; simp [updV, va_up, va_rf]
  · simp [updV, va_up, hq]
theorem aw_aast (X : Cx U K y cc nL ret rm) {n t0 v ci : Nat} {r : vw_C} (ht : (xty (uC U))[t0]? = some (uC U t0, .object r.1)) {f : Nat → Option Nat} {i : Int32} {vs : List Value} (hμ : μ a = some (.inl (uC U t0, n, .inr (.inr (.inr (.inr f)))))) (hv : μ v = some (.inr (ci, vs))) (hc : xcl[ci]? = some r) (hin : vp_in i n) (hdg : decode cc pc = .ok (.aastore, 1)) (kk : AW U K nL cells slots Q (xup μ a (.inl (uC U t0, n, .inr (.inr (.inr (.inr (va_up f i.toNatClampNeg (some v)))))))) (pc + 1) ls st) : AW U K nL cells slots Q μ pc ls (.ref v :: .int i :: .ref a :: st) := by
  intro H locs la h1 h2 h3
  have hK := X.2.2.2.2.2.2.2.2.1.1
  have h0 : ¬ i < 0 := fun q => hin (Or.inl q)
  obtain ⟨-, r', hr', cellV, g1, g2, g3, -⟩ := h1 v _ hv
  have hcls := (hK.1 ci r hc).2
  obtain ⟨kA, comp, k1, k2, k3, -⟩ := (hK.2 t0 _ ht).2
  have hcomp : comp = U.1.1 ci := Option.some.inj (k3.symm.trans hcls.1)
  subst hcomp
  obtain ⟨kC, hkC, -⟩ := hcls.2
  refine W.aast X.1 X.2.1 (h1 a _ hμ).2 (fun q h => by cases h) (fun h => by cases h) k1 k2 rfl hkC ⟨h0, by show _ < (arrV _ _ _).slots.size; rw [arrV_size]; exact xin_lt hin⟩ g1 (fun q h => by rw [g3] at h; cases h) (by rw [g2]; exact hkC) (by rw [g2]; exact va_assign hcls) rfl rfl hdg fun H1 e z oq => ?_
  exact kk H1 _ la (h1.put hμ (by show H1[a]? = some (vp_cell _ _); rw [e, xarr_q]) oq) (h2.puts (h1 a _ hμ).1 z oq) h3
/-- the static tables -/
theorem aw_gets (X : Cx U K y cc nL ret rm) {index t : Nat} (ht : t < 4) (hl : (y.cls, index, RX4, xsN t, "[I", RX4) ∈ xnF) (hdg : decode cc pc = .ok (.getstatic index, 3)) (kk : AW U K nL cells slots Q μ (pc + 3) ls (.ref (uA U t) :: st)) : AW U K nL cells slots Q μ pc ls st := by
  intro H locs la h1 h2 h3
  have hk := X.2.2.2.2.2.2.2.2.1
  exact va_getsN X.1 X.2.1 (hk.2.2.2.2.2.1 t ht).1 h2 X.2.2.2.1 (va_Nw.use rfl (hk.2.2.1 _ hl)) (fun _ h => h) hdg (kk H locs la h1 h2 h3)
theorem aw_tab (X : Cx U K y cc nL ret rm) {t : Nat} (ht : t < 4) {i : Int32} (hin : vp_in i (xsL t)) (hdg : decode cc pc = .ok (.iaload, 1)) (kk : AW U K nL cells slots Q μ (pc + 1) ls (.int (xsV t i.toNatClampNeg) :: st)) : AW U K nL cells slots Q μ pc ls (.int i :: .ref (uA U t) :: st) := by
  intro H locs la h1 h2 h3
  obtain ⟨cell, z1, z2, z3, z4, z5, z6, z7⟩ := (X.2.2.2.2.2.2.2.2.1.2.2.2.2.2.1 t ht).2
  have hlt := xin_lt hin
  exact W.iald (v := .int (xsV t i.toNatClampNeg)) X.1 X.2.1 (by rw [h2.2.1 _ (Array.getElem?_eq_some_iff.mp z1).1 z7]; exact z1) z2 z3 (fun h => h.elim (fun q => hin (Or.inl q)) (fun q => absurd (Nat.lt_of_lt_of_le hlt z4) (Nat.not_lt.mpr q))) (z6 _ hlt) rfl rfl hdg (kk H locs la h1 h2 h3)
/-- System.arraycopy of numbers -/
theorem aw_copy (X : Cx U K y cc nL ret rm) {index n0 n1 a0 : Nat} {f g : Nat → Int32} {sp dp n : Int32} (hl : Cond.methodLink y.cls index arraycopyName ∈ xgood) (hμ0 : μ a0 = some (.inl (uC U 0, n0, .inl f))) (hμ : μ a = some (.inl (uC U 0, n1, .inl g))) (g1 : ¬ sp < 0) (g2 : ¬ dp < 0) (g3 : ¬ n < 0) (g4 : sp.toNatClampNeg + n.toNatClampNeg ≤ n0) (g5 : dp.toNatClampNeg + n.toNatClampNeg ≤ n1) (hrm : 1 ≤ rm.frames ∧ (st.map fun v => v.category).sum + (nativeFrameWords "java/lang/System" "arraycopy" 5 + 11) ≤ rm.locals) (hdg : decode cc pc = .ok (.invokestatic index, 3)) (kk : AW U K nL cells slots Q (xup μ a (.inl (uC U 0, n1, .inl (va_cpy f g sp.toNatClampNeg dp.toNatClampNeg n.toNatClampNeg)))) (pc + 3) ls st) : AW U K nL cells slots Q μ pc ls (.int n :: .int dp :: .ref a :: .int sp :: .ref a0 :: st) := by
  have nn : ∀ z : Int32, ¬ z < 0 → z.toInt = (z.toNatClampNeg : Int) := by
    intro z hz
    have hz0 : (0 : Int) ≤ z.toInt := by
      have := Int32.not_lt.mp hz
      simpa using Int32.le_iff_toInt_le.mp this
    show z.toInt = ((z.toInt.toNat : Nat) : Int)
    omega
  intro H locs la h1 h2 h3 T hT XX
  have hts := X.2.2.2.2.1
  have hK := X.2.2.2.2.2.2.2.2.1.1
  have hR := X.2.2.2.2.2.2.2.1
  have hc0 : H[a0]? = some (vp_cell (uC U 0) (n0, .inl f)) := (h1 a0 _ hμ0).2
  have hc1 : H[a]? = some (vp_cell (uC U 0) (n1, .inl g)) := (h1 a _ hμ).2
  obtain ⟨-, k0, hk0, cm0, hkk0⟩ := (hK.2 0 _ rfl).1 n0 (fun j => .int (f j))
  obtain ⟨vm', X', step⟩ := XX.arraycopy X.1 X.2.2.2.1 (hts _ hl) (hts _ ay_n) (hts _ ay_s) (hts _ ay_i) (src := a0) (dst := a) (cs := vp_cell (uC U 0) (n0, .inl f)) (cd := vp_cell (uC U 0) (n1, .inl g)) (srcPos := sp) (destPos := dp) (n := n) (by rw [hT]; exact hc0) (by rw [hT]; exact hc1)
    (fun _ h => by cases h) (fun _ h => by cases h) (fun h => by cases h) (fun h => by cases h) hk0 hk0 hkk0 hkk0 (by rfl) g1 g2 g3
    (by rw [nn sp g1, nn n g3]; show ¬ _ > ((arrV _ n0 (fun j => .int (f j))).slots.size : Int); rw [arrV_size]; omega)
    (by rw [nn dp g2, nn n g3]; show ¬ _ > ((arrV _ n1 (fun j => .int (g j))).slots.size : Int); rw [arrV_size]; omega)
    (fun vm₁ _ i hi => by
      have e : (vp_cell (uC U 0) (n0, .inl f)).slots.getD (sp.toNatClampNeg + i) .null = .int (f (sp.toNatClampNeg + i)) := by
        show (arrV _ n0 (fun j => .int (f j))).slots.getD _ _ = _
        rw [Array.getD_eq_getD_getElem?, arrV_read _ _ (by omega)]
        rfl
      rw [e]
      exact ⟨rfl, trivial⟩)
    (g := F0 (km K) pc la (.int n :: .int dp :: .ref a :: .int sp :: .ref a0 :: st)) rfl (by rw [X.2.2.1]; exact h3.1) (rest := st) rfl (by rw [X.2.1]; exact hdg) (by rw [hR]; exact hrm.1) (by rw [hR]; show 2 * 0 + _ + _ ≤ _; omega)
  have e1 : copied (vp_cell (uC U 0) (n0, .inl f)) (vp_cell (uC U 0) (n1, .inl g)) sp dp n = vp_cell (uC U 0) (n1, .inl (va_cpy f g sp.toNatClampNeg dp.toNatClampNeg n.toNatClampNeg)) := va_copied (fun z => .int z) (uC U 0) (uC U 0) f g g4
  rw [e1] at X' step
  have hl : a < H.size := (Array.getElem?_eq_some_iff.mp hc1).1
  have hB := (h1 a _ hμ).1
  generalize hC : vp_cell (uC U 0) (n1, .inl (va_cpy f g sp.toNatClampNeg dp.toNatClampNeg n.toNatClampNeg)) = C1 at X' step
  have hheap : ((T.setVm vm').setCell a C1).heap = H.setIfInBounds a C1 := by rw [← hT]; rfl
  have oq : ∀ q : Nat, q ≠ a → (H.setIfInBounds a C1)[q]? = H[q]? := fun q hq => by simp [Array.getElem?_setIfInBounds, Ne.symm hq]
  obtain ⟨t, a1, b1⟩ := kk _ _ la (h1.put (H1 := H.setIfInBounds a C1) hμ (by show (H.setIfInBounds a C1)[a]? = some (vp_cell _ _); rw [hC]; simp [Array.getElem?_setIfInBounds, hl]) oq) ⟨by simp; exact h2.1, fun q z1 z2 => by
      rw [oq q (fun e => z2 (by rw [e]; exact hB))]
      exact h2.2.1 q z1 z2, fun q hq => by
      rcases List.mem_append.mp hq with h | h
      · exact h2.2.2 q h
      · obtain ⟨z, -, hz⟩ := List.mem_map.mp h
        rw [← hz]
        exact hB⟩ h3 _ hheap X'
  exact ⟨t, step t a1, b1⟩
/-- the clone of the first static table -/
theorem aw_clone (X : Cx U K y cc nL ret rm) {index : Nat} (hl : Cond.methodLink y.cls index ⟨"[I", "clone", "()Ljava/lang/Object;"⟩ ∈ xgood) (w1 : Cond.sameMethod "[I" "java/lang/Object" "clone" "()Ljava/lang/Object;" ∈ xgood) (w2 : Cond.native ⟨"java/lang/Object", "clone", "()Ljava/lang/Object;"⟩ ∈ xgood) (w3 : Cond.instanceMethod ⟨"java/lang/Object", "clone", "()Ljava/lang/Object;"⟩ ∈ xgood) (w4 : Cond.selects "[I" ⟨"[I", "clone", "()Ljava/lang/Object;"⟩ ⟨"java/lang/Object", "clone", "()Ljava/lang/Object;"⟩ ∈ xgood)
    (hrm : 1 ≤ rm.frames ∧ (st.map fun v => v.category).sum + 14 ≤ rm.locals) (hc : cells + 1 ≤ rm.cells ∧ slots + 6 ≤ rm.slots) (hdg : decode cc pc = .ok (.invokevirtual index, 3))
    (kk : ∀ q : Nat, μ q = none → AW U K nL (cells + 1) (slots + 6) Q (xup μ q (.inl (uC U 0, 6, .inl (xsV 0)))) (pc + 3) ls (.ref q :: st)) : AW U K nL cells slots Q μ pc ls (.ref (uA U 0) :: st) := by
  intro H locs la h1 h2 h3 T hT XX
  have hts := X.2.2.2.2.1
  have hk := X.2.2.2.2.2.2.2.2.1
  have hR := X.2.2.2.2.2.2.2.1
  obtain ⟨cell, e1, e2, e3, e4, e5, e6⟩ := hk.2.2.2.2.2.2
  have hK := hk.1
  have hnm : (ks K).vm.findClass "[I" = some (uC U 0) := va_nm_int (hK.2 0 _ rfl).2
  obtain ⟨c0, t0', f1, f2, f3⟩ := Cond.castable_spec (va_Nw.use (A := ka K) rfl hk.2.2.2.2.1.1)
  cases hnm.symm.trans f1
  have eH : H[uA U 0]? = some cell := by rw [h2.2.1 _ (Array.getElem?_eq_some_iff.mp e1).1 e6]; exact e1
  have hsz : cell.slots.size = 6 := by rw [e3]; exact arrV_size _ _ _
  have hcellE : ({ cls := cell.cls, slots := cell.slots } : Cell) = vp_cell (uC U 0) (6, .inl (xsV 0)) := by rw [e2, e3]; rfl
  obtain ⟨-, kA, hkA, comp, hkind⟩ := State.isArrayOf_alike XX.warmed.alike ((hK.2 0 _ rfl).1 0 (fun _ => .null))
  obtain ⟨-, kS, hkS, compS, hkindS⟩ := (hK.2 0 _ rfl).1 0 (fun _ => .null)
  obtain ⟨vm', X', st'⟩ := XX.cloneArray X.1 X.2.2.2.1 (hts _ hl) (hts _ w1) (hts _ w2) (hts _ w3) (hts _ w4) (a := uA U 0) (cell := cell) (by rw [hT]; exact eH) e4 e5 (by rw [e2]; exact hnm) f2 (by rw [e2]; exact f3)
    (fun i v hv => by
      rw [e2]
      have hk' : T.vm.classes[uC U 0]? = some kA := hkA
      have hfit : fits .int v = true := va_fit (cA := uC U 0) (n := 6) (F := fun j => .int (xsV 0 j)) (fun _ _ => rfl) i v (by rw [e3] at hv; exact hv)
      simpa [State.fitsSlot, State.slotType?, hk', hkind] using hfit)
    (g := F0 (km K) pc la (.ref (uA U 0) :: st)) rfl (by rw [X.2.2.1]; exact h3.1) rfl (by rw [X.2.1]; exact hdg) (by rw [hR]; exact hrm.1) (by rw [hR]; show 2 * 0 + _ + 14 ≤ _; omega) (by rw [hR]; exact hc.1) (by rw [hR, hsz]; exact hc.2) (hloader := by rw [e2]; exact Vm.clonesLoader_of_array hkS hkindS)
  rw [hcellE, hsz] at X'
  generalize hH1 : H.push (vp_cell (uC U 0) (6, .inl (xsV 0))) = H1
  have z1 : H1.size = H.size + 1 := by rw [← hH1, Array.size_push]
  have y1 : H1[H.size]? = some (vp_cell (uC U 0) (6, .inl (xsV 0))) := by rw [← hH1, Array.getElem?_push_size]
  have o1 : ∀ q : Nat, q < H.size → H1[q]? = H[q]? := fun q hq => by rw [← hH1, Array.getElem?_push, if_neg (Nat.ne_of_lt hq)]
  have hno : μ H.size = none := by
    cases hq : μ H.size with
    | none => rfl
    | some e => exact absurd (h1.lt hq) (Nat.lt_irrefl _)
  obtain ⟨t, b1, b2⟩ := kk H.size hno H1 locs la (h1.new rfl (Nat.le_trans X.2.2.2.2.2.2.2.2.2 h2.1) y1 o1) (h2.grown (by omega) o1) h3 ((T.setVm vm').pushCell (vp_cell (uC U 0) (6, .inl (xsV 0)))) (by rw [← hH1, ← hT]; rfl) X'
  refine ⟨t, st' t ?_, b2⟩
  rw [hcellE, hT]
  exact b1
theorem aw_castA (X : Cx U K y cc nL ret rm) {index : Nat} {x : vp_A} (hl : Cond.classLink y.cls index "[I" ∈ xgood) (hμ : μ a = some (.inl (uC U 0, x))) (hdg : decode cc pc = .ok (.checkcast index, 3)) (kk : AW U K nL cells slots Q μ (pc + 3) ls (.ref a :: st)) : AW U K nL cells slots Q μ pc ls (.ref a :: st) := fun H locs la h1 h2 h3 =>
  va_castA (D := U.1) X.1 X.2.1 X.2.2.2.1 (X.2.2.2.2.1 _ hl) (xP1 h1 hμ) 0 (ha := rfl) (va_nm_int (X.2.2.2.2.2.2.2.2.1.1.2 0 _ rfl).2) hdg (kk H locs la h1 h2 h3)
end XHEAP
