/-- behind the berth's turning: the tankers' names move up by one -/
def rsh (sh : Nat → Nat) : Nat → Nat := fun n => if 11 ≤ n ∧ n < 16 then sh (n + 1) else if n = 16 then sh 11 else if 17 ≤ n ∧ n < 22 then sh (n + 1) else if n = 22 then sh 17 else sh n
def rix (n : Nat) : Nat := if 11 ≤ n ∧ n < 16 then n + 1 else if n = 16 then 11 else if 17 ≤ n ∧ n < 22 then n + 1 else if n = 22 then 17 else n
theorem rsh_ix (sh : Nat → Nat) (n : Nat) : rsh sh n = sh (rix n) := by
  unfold rsh rix
  split
  · rfl
  split
  · rfl
  split
  · rfl
  split <;> rfl
theorem rix_lt {n : Nat} (h : n < 23) : rix n < 23 := by
  unfold rix
  repeat' split
  all_goals omega
theorem rix_inj {n m : Nat} (hn : n < 23) (hm : m < 23) (h : rix n = rix m) : n = m := by
  unfold rix at h
  repeat' split at h
  all_goals omega
theorem rix_on {n : Nat} (h : n < 23) : ∃ m, m < 23 ∧ rix m = n := by
  by_cases h1 : 12 ≤ n ∧ n < 17
  · exact ⟨n - 1, by omega, by unfold rix; rw [if_pos (by omega)]; omega⟩
  by_cases h2 : n = 11
  · exact ⟨16, by omega, by subst h2; rfl⟩
  by_cases h3 : 18 ≤ n ∧ n < 23
  · exact ⟨n - 1, by omega, by unfold rix; rw [if_neg (by omega), if_neg (by omega), if_pos (by omega)]; omega⟩
  by_cases h4 : n = 17
  · exact ⟨22, by omega, by subst h4; rfl⟩
  · exact ⟨n, h, by unfold rix; rw [if_neg (by omega), if_neg (by omega), if_neg (by omega), if_neg (by omega)]⟩
theorem gRot_o {z : xV} {k : Nat} (h : k < 50 ∨ 80 ≤ k) : gRot z k = z k := by
  unfold gRot
  rw [if_neg (by omega), if_neg (by omega)]
theorem gRot_lo {z : xV} {p f : Nat} (h : p < 5) (hf : f < 5) : gRot z (tz p f) = z (tz (p + 1) f) := by
  unfold gRot tz
  rw [if_pos (by omega)]
  exact congrArg z (by omega)
theorem gRot_hi {z : xV} {f : Nat} (hf : f < 5) : gRot z (tz 5 f) = z (tz 0 f) := by
  unfold gRot tz
  rw [if_neg (by omega), if_pos (by omega)]
  exact congrArg z (by omega)
abbrev TC (U : xU) (f : Nat → Option Nat) : va_E := .inl (uC U 4, 6, .inr (.inr (.inr (.inr f))))
theorem JR.rot {U : xU} {μ0 μ : xH} {sh : Nat → Nat} {z : xV} (h : JR U μ0 μ sh z) {f : Nat → Option Nat} (hf : ∀ p, p < 6 → f p = some (rsh sh (11 + p))) : JRep U (xup μ (sh 6) (TC U f)) (rsh sh) (gRot z) := by
  have hinj := h.1.1
  have hne : ∀ n, n < 23 → rix n ≠ 6 → xup μ (sh 6) (TC U f) (rsh sh n) = μ (sh (rix n)) := fun n hn h6 => by
    rw [rsh_ix, xup_n (fun q => h6 (hinj _ _ (rix_lt hn) (by decide) q))]
  refine ⟨fun i j hi hj e => ?_, ⟨?_, ?_, fun i hi => ⟨?_, ?_⟩⟩, fun n hn => ?_⟩
  · rw [rsh_ix, rsh_ix] at e
    exact rix_inj hi hj (hinj _ _ (rix_lt hi) (rix_lt hj) e)
  · rw [gRot_o (by decide)]; exact h.1.2.1.1
  · rw [gRot_o (by decide)]; exact h.1.2.1.2.1
  · rw [gRot_o (by simp only [hz]; omega)]; exact (h.1.2.1.2.2 i hi).1
  · rw [gRot_o (by omega)]; exact (h.1.2.1.2.2 i hi).2
  · by_cases h6 : n = 6
    · subst h6
      refine ⟨_, by rw [rsh_ix]; exact xup_s, ?_⟩
      rw [JC, if_neg (by decide), if_neg (by decide), if_neg (by decide), if_pos rfl]
      exact ⟨f, rfl, hf⟩
    have hr6 : rix n ≠ 6 := fun q => h6 (rix_inj hn (by decide) q)
    obtain ⟨e, g1, g2⟩ := h.1.2.2 (rix n) (rix_lt hn)
    refine ⟨e, by rw [hne n hn hr6]; exact g1, ?_⟩
    by_cases hlo : n < 11
    · have e0 : rix n = n := by unfold rix; rw [if_neg (by omega), if_neg (by omega), if_neg (by omega), if_neg (by omega)]
      rw [e0] at g2
      have g3 : JC U sh (gRot z) n e := g2.congr (fun k hk => gRot_o (by
        unfold jreg at hk
        by_cases a0 : n = 0
        · rw [if_pos a0] at hk; omega
        rw [if_neg a0] at hk
        by_cases a5 : n < 5
        · rw [if_pos a5] at hk
          simp only [jbase, jlen] at hk
          by_cases a1 : n - 1 = 0
          · rw [if_pos a1, if_pos a1] at hk; omega
          · rw [if_neg a1, if_neg a1] at hk; omega
        rw [if_neg a5] at hk
        by_cases a7 : n < 7
        · rw [if_pos a7] at hk; exact hk.elim
        rw [if_neg a7, if_pos hlo] at hk
        simp only [hz] at hk
        omega)) hn
      unfold JC at g3 ⊢
      have r : ∀ m, m < 11 → rsh sh m = sh m := fun m hm => by
        unfold rsh
        rw [if_neg (by omega), if_neg (by omega), if_neg (by omega), if_neg (by omega)]
      by_cases a0 : n = 0
      · rw [if_pos a0] at g3 ⊢
        rw [g3]
        simp only [jfs, r 1 (by decide), r 2 (by decide), r 3 (by decide), r 4 (by decide), r 5 (by decide), r 6 (by decide)]
      rw [if_neg a0] at g3 ⊢
      by_cases a5 : n < 5
      · rw [if_pos a5] at g3 ⊢; exact g3
      rw [if_neg a5] at g3 ⊢
      by_cases b5 : n = 5
      · rw [if_pos b5] at g3 ⊢
        obtain ⟨f5, q1, q2⟩ := g3
        exact ⟨f5, q1, fun i hi => by rw [r (7 + i) (by omega)]; exact q2 i hi⟩
      rw [if_neg b5, if_neg h6, if_pos hlo] at g3 ⊢
      exact g3
    by_cases hmid : n < 17
    · obtain ⟨p, hp, rfl⟩ : ∃ p, p < 6 ∧ n = 11 + p := ⟨n - 11, by omega, by omega⟩
      rw [JC, if_neg (by omega), if_neg (by omega), if_neg (by omega), if_neg (by omega), if_neg (by omega), if_pos (by omega), Nat.add_sub_cancel_left]
      by_cases hp5 : p < 5
      · have e1 : rix (11 + p) = 11 + (p + 1) := by unfold rix; rw [if_pos (by omega)]; omega
        rw [e1, JC, if_neg (by omega), if_neg (by omega), if_neg (by omega), if_neg (by omega), if_neg (by omega), if_pos (by omega), Nat.add_sub_cancel_left] at g2
        rw [g2, gRot_lo hp5 (by decide), rsh, if_neg (by omega), if_neg (by omega), if_pos (by omega)]
        rfl
      · obtain rfl : p = 5 := by omega
        rw [show rix (11 + 5) = 11 + 0 from rfl, JC, if_neg (by omega), if_neg (by omega), if_neg (by omega), if_neg (by omega), if_neg (by omega), if_pos (by omega), Nat.add_sub_cancel_left] at g2
        rw [g2, gRot_hi (by decide)]
        rfl
    · obtain ⟨p, hp, rfl⟩ : ∃ p, p < 6 ∧ n = 17 + p := ⟨n - 17, by omega, by omega⟩
      rw [JC, if_neg (by omega), if_neg (by omega), if_neg (by omega), if_neg (by omega), if_neg (by omega), if_neg (by omega), Nat.add_sub_cancel_left]
      by_cases hp5 : p < 5
      · have e1 : rix (17 + p) = 17 + (p + 1) := by unfold rix; rw [if_neg (by omega), if_neg (by omega), if_pos (by omega)]; omega
        rw [e1, JC, if_neg (by omega), if_neg (by omega), if_neg (by omega), if_neg (by omega), if_neg (by omega), if_neg (by omega), Nat.add_sub_cancel_left] at g2
        obtain ⟨f7, q1, q2⟩ := g2
        exact ⟨f7, q1, fun k hk => by rw [gRot_lo hp5 (by omega)]; exact q2 k hk⟩
      · obtain rfl : p = 5 := by omega
        rw [show rix (17 + 5) = 17 + 0 from rfl, JC, if_neg (by omega), if_neg (by omega), if_neg (by omega), if_neg (by omega), if_neg (by omega), if_neg (by omega), Nat.add_sub_cancel_left] at g2
        obtain ⟨f7, q1, q2⟩ := g2
        exact ⟨f7, q1, fun k hk => by rw [gRot_hi (by omega)]; exact q2 k hk⟩
section XBERTH
variable {U : xU} {K : xK} {y : MethodName} {cc : ByteArray} {nL cells slots : Nat} {ret : Option FieldType} {rm : Room} {Q : State → Prop} {μ0 μ : xH} {sh : Nat → Nat} {z : xV} {pc index : Nat} {ls : List (Option Value)} {st : List Value} {f : Nat → Option Nat}
theorem aw_bget (X : Cx U K y cc nL ret rm) (hJ : JR U μ0 μ sh z) (hf : XF y.cls index 1 5 RX1 TX1 14) (hdg : decode cc pc = .ok (.getfield index, 3)) (kk : AW U K nL cells slots Q (xup μ (sh 6) (TC U f)) (pc + 3) ls (.ref (sh 6) :: st)) : AW U K nL cells slots Q (xup μ (sh 6) (TC U f)) pc ls (.ref (sh 0) :: st) :=
  aw_get X hf (by rw [xup_n (fun q => absurd (hJ.1.1 0 6 (by decide) (by decide) q) (by decide))]; exact hJ.g0) rfl hdg kk
theorem aw_blen (X : Cx U K y cc nL ret rm) (hdg : decode cc pc = .ok (.arraylength, 1)) (kk : AW U K nL cells slots Q (xup μ (sh 6) (TC U f)) (pc + 1) ls (.int 6 :: st)) : AW U K nL cells slots Q (xup μ (sh 6) (TC U f)) pc ls (.ref (sh 6) :: st) := aw_alen X (t0 := 4) rfl xup_s rfl hdg kk
theorem aw_bald (X : Cx U K y cc nL ret rm) {i : Int32} (j v : Nat) (hj : i.toNatClampNeg = j) (hin : vp_in i 6) (hv : f j = some v) (hdg : decode cc pc = .ok (.aaload, 1)) (kk : AW U K nL cells slots Q (xup μ (sh 6) (TC U f)) (pc + 1) ls (.ref v :: st)) : AW U K nL cells slots Q (xup μ (sh 6) (TC U f)) pc ls (.int i :: .ref (sh 6) :: st) := aw_aald X (t0 := 4) rfl xup_s hin (by rw [hj]; exact hv) hdg kk
theorem xup_xup {μ : xH} {a : Nat} {e e' : va_E} : xup (xup μ a e) a e' = xup μ a e' := by
  funext q
  by_cases h : q = a
  · subst h; rw [xup_s, xup_s]
  · rw [xup_n h, xup_n h, xup_n h]
theorem xup_id {μ : xH} {a : Nat} {e : va_E} (h : μ a = some e) : μ = xup μ a e := by
  funext q
  by_cases hq : q = a
  · subst hq; rw [xup_s, h]
  · rw [xup_n hq]
theorem aw_bast (X : Cx U K y cc nL ret rm) (hJ : JR U μ0 μ sh z) {i : Int32} (j q : Nat) (hq : q < 6) (hj : i.toNatClampNeg = j) (hin : vp_in i 6) (hdg : decode cc pc = .ok (.aastore, 1)) (kk : AW U K nL cells slots Q (xup μ (sh 6) (TC U (va_up f j (some (sh (11 + q)))))) (pc + 1) ls st) : AW U K nL cells slots Q (xup μ (sh 6) (TC U f)) pc ls (.ref (sh (11 + q)) :: .int i :: .ref (sh 6) :: st) := by
  refine aw_aast X (t0 := 4) (ci := 3) (r := (RX3, TX3, 2)) rfl xup_s (by rw [xup_n (fun w => absurd (hJ.1.1 (11 + q) 6 (by omega) (by decide) w) (by omega))]; exact hJ.gT q hq) rfl hin hdg ?_
  rw [xup_xup, hj]
  exact kk
end XBERTH
/-- what a jetty's change that may turn the tankers leaves -/
def JS (U : xU) (μ μ' : xH) (sh : Nat → Nat) (z : xV) : Prop := ∃ sh' : Nat → Nat, sh' 0 = sh 0 ∧ (∀ q, (∀ n, n < 23 → q ≠ sh' n) ↔ (∀ n, n < 23 → q ≠ sh n)) ∧ JRep U μ' sh' z ∧ JFr sh μ μ'
theorem JR.js {U : xU} {μ0 μ : xH} {sh : Nat → Nat} {z : xV} (h : JR U μ0 μ sh z) : JS U μ0 μ sh z := ⟨sh, rfl, fun _ => Iff.rfl, h.1, h.2⟩
theorem rsh_set {sh : Nat → Nat} {q : Nat} : (∀ n, n < 23 → q ≠ rsh sh n) ↔ (∀ n, n < 23 → q ≠ sh n) := by
  constructor
  · intro h n hn
    obtain ⟨m, hm, e⟩ := rix_on hn
    have := h m hm
    rw [rsh_ix, e] at this
    exact this
  · intro h n hn
    rw [rsh_ix]
    exact h _ (rix_lt hn)
theorem JR.rjs {U : xU} {μ0 μ1 μ : xH} {sh : Nat → Nat} {z : xV} (h : JR U μ1 μ (rsh sh) z) (hf : JFr sh μ0 μ1) : JS U μ0 μ sh z := ⟨rsh sh, rfl, fun _ => rsh_set, h.1, fun q hq => (h.2 q (rsh_set.mpr hq)).trans (hf q hq)⟩
set_option maxHeartbeats 4000000 in
set_option maxRecDepth 100000 in
theorem c_X1_letBerth (l : Launch) (U : xU) (μ0 : xH) (sh : Nat → Nat) (z : xV) (hJ0 : JRep U μ0 sh z) : Ct l U yX1_letBerth cX1_letBerth 3 (some .int) ({ frames := 3, cells := 0, slots := 0, locals := 65 } : Room) [.ref (sh 0)] μ0 (fun v μ' => v = some (.int (gBerth z).1) ∧ JS U μ0 μ' sh (gBerth z).2) := by
  refine Ct.of [some (.ref (sh 0)), none, none] (by decide +kernel) rfl (Nat.le_of_ble_eq_true rfl) (fun K Q X hnm hQ => ?_)
  have hJ := JR.rf hJ0
  refine aw_aload_n X dX1_letBerth_0 rfl ?_
  refine aw_jget X hJ f_X1_48 rfl dX1_letBerth_1 ?_
  refine aw_if_eq (tgt := 34) X dX1_letBerth_4 (by decide) (fun c4_1 => ?_) (fun c4_1 => ?_)
  · skip
    refine aw_ldc X dX1_letBerth_34 a_X1_124 ?_
    exact aw_iret X hQ dX1_letBerth_36 ⟨congrArg (fun q => some (Value.int q)) (by simp [gBerth, c4_1]), (hJ.to (by simp [gBerth, c4_1])).js⟩
  · skip
    refine aw_aload_n X dX1_letBerth_7 rfl ?_
    refine aw_jget X hJ f_X1_44 rfl dX1_letBerth_8 ?_
    refine aw_if_ne (tgt := 34) X dX1_letBerth_11 (by decide) (fun c11_2 => ?_) (fun c11_2 => ?_)
    · skip
      refine aw_ldc X dX1_letBerth_34 a_X1_124 ?_
      exact aw_iret X hQ dX1_letBerth_36 ⟨congrArg (fun q => some (Value.int q)) (by simp [gBerth, c4_1, c11_2]), (hJ.to (by simp [gBerth, c4_1, c11_2])).js⟩
    · skip
      refine aw_aload_n X dX1_letBerth_14 rfl ?_
      refine aw_aload_n X dX1_letBerth_15 rfl ?_
      refine aw_jget X hJ f_X1_40 rfl dX1_letBerth_16 ?_
      refine aw_iconst X (1) dX1_letBerth_19 rfl ?_
      refine aw_tankAt X hJ (1) (by decide) (by decide) dX1_letBerth_20 ?_
      refine aw_cVF (As := []) X (c_X3_draught (kl K) U _ sh _ hJ.1 (1) (by decide)) s_X1_116 k_X3_draught (by decide) ⟨rfl, rfl⟩ ⟨Nat.zero_le _, Nat.zero_le _⟩ rfl (by exact Nat.le_of_ble_eq_true rfl) (hJ.gT _ (by decide)) rfl dX1_letBerth_21 ?_
      refine aw_aload_n X dX1_letBerth_24 rfl ?_
      refine aw_jget X hJ f_X1_52 rfl dX1_letBerth_25 ?_
      refine aw_cVF (As := [.int _, .int _]) X (c_X1_floatsAt (kl K) U _ sh _ hJ.1 _ _) s_X1_120 k_X1_floatsAt (by decide) ⟨rfl, rfl⟩ ⟨Nat.zero_le _, Nat.zero_le _⟩ rfl (by exact Nat.le_of_ble_eq_true rfl) hJ.g0 rfl dX1_letBerth_28 ?_
      refine aw_b_ne (tgt := 37) X dX1_letBerth_31 (by decide) (fun c31_3 => ?_) (fun c31_3 => ?_)
      · skip
        refine aw_aload_n X dX1_letBerth_37 rfl ?_
        refine aw_jget X hJ f_X1_40 rfl dX1_letBerth_38 ?_
        refine aw_iconst X (0) dX1_letBerth_41 rfl ?_
        refine aw_tankAt X hJ (0) (by decide) (by decide) dX1_letBerth_42 ?_
        refine aw_astore_n X dX1_letBerth_43 rfl (by decide) ?_
        refine aw_iconst X (1) dX1_letBerth_44 rfl ?_
        refine aw_istore_n X dX1_letBerth_45 rfl (by decide) ?_
        obtain ⟨f0, hf0, hf⟩ := hJ.g6
        refine aw_mu (xup_id hf0) ?_
        refine aw_iload_n X dX1_letBerth_46 rfl ?_
        refine aw_aload_n X dX1_letBerth_47 rfl ?_
        refine aw_bget X hJ f_X1_40 dX1_letBerth_48 ?_
        refine aw_blen X dX1_letBerth_51 ?_
        refine aw_icmp_ge_f (tgt := 75) X dX1_letBerth_52 (by decide) (by decide) ?_
        refine aw_aload_n X dX1_letBerth_55 rfl ?_
        refine aw_bget X hJ f_X1_40 dX1_letBerth_56 ?_
        refine aw_iload_n X dX1_letBerth_59 rfl ?_
        refine aw_iconst X (1) dX1_letBerth_60 rfl ?_
        refine aw_isub X dX1_letBerth_61 ?_
        refine aw_aload_n X dX1_letBerth_62 rfl ?_
        refine aw_bget X hJ f_X1_40 dX1_letBerth_63 ?_
        refine aw_iload_n X dX1_letBerth_66 rfl ?_
        refine aw_bald X 1 (sh (11 + 1)) (by decide) (xin_d rfl) (by simp [va_up, hf]) dX1_letBerth_67 ?_
        refine aw_bast X hJ 0 1 (by decide) (by decide) (xin_d rfl) dX1_letBerth_68 ?_
        refine aw_iinc X (1) dX1_letBerth_69 rfl rfl rfl (by decide) ?_
        refine aw_goto (tgt := 46) X dX1_letBerth_72 (by decide) ?_
        refine aw_iload_n X dX1_letBerth_46 rfl ?_
        refine aw_aload_n X dX1_letBerth_47 rfl ?_
        refine aw_bget X hJ f_X1_40 dX1_letBerth_48 ?_
        refine aw_blen X dX1_letBerth_51 ?_
        refine aw_icmp_ge_f (tgt := 75) X dX1_letBerth_52 (by decide) (by decide) ?_
        refine aw_aload_n X dX1_letBerth_55 rfl ?_
        refine aw_bget X hJ f_X1_40 dX1_letBerth_56 ?_
        refine aw_iload_n X dX1_letBerth_59 rfl ?_
        refine aw_iconst X (1) dX1_letBerth_60 rfl ?_
        refine aw_isub X dX1_letBerth_61 ?_
        refine aw_aload_n X dX1_letBerth_62 rfl ?_
        refine aw_bget X hJ f_X1_40 dX1_letBerth_63 ?_
        refine aw_iload_n X dX1_letBerth_66 rfl ?_
        refine aw_bald X 2 (sh (11 + 2)) (by decide) (xin_d rfl) (by simp [va_up, hf]) dX1_letBerth_67 ?_
        refine aw_bast X hJ 1 2 (by decide) (by decide) (xin_d rfl) dX1_letBerth_68 ?_
        refine aw_iinc X (1) dX1_letBerth_69 rfl rfl rfl (by decide) ?_
        refine aw_goto (tgt := 46) X dX1_letBerth_72 (by decide) ?_
        refine aw_iload_n X dX1_letBerth_46 rfl ?_
        refine aw_aload_n X dX1_letBerth_47 rfl ?_
        refine aw_bget X hJ f_X1_40 dX1_letBerth_48 ?_
        refine aw_blen X dX1_letBerth_51 ?_
        refine aw_icmp_ge_f (tgt := 75) X dX1_letBerth_52 (by decide) (by decide) ?_
        refine aw_aload_n X dX1_letBerth_55 rfl ?_
        refine aw_bget X hJ f_X1_40 dX1_letBerth_56 ?_
        refine aw_iload_n X dX1_letBerth_59 rfl ?_
        refine aw_iconst X (1) dX1_letBerth_60 rfl ?_
        refine aw_isub X dX1_letBerth_61 ?_
        refine aw_aload_n X dX1_letBerth_62 rfl ?_
        refine aw_bget X hJ f_X1_40 dX1_letBerth_63 ?_
        refine aw_iload_n X dX1_letBerth_66 rfl ?_
        refine aw_bald X 3 (sh (11 + 3)) (by decide) (xin_d rfl) (by simp [va_up, hf]) dX1_letBerth_67 ?_
        refine aw_bast X hJ 2 3 (by decide) (by decide) (xin_d rfl) dX1_letBerth_68 ?_
        refine aw_iinc X (1) dX1_letBerth_69 rfl rfl rfl (by decide) ?_
        refine aw_goto (tgt := 46) X dX1_letBerth_72 (by decide) ?_
        refine aw_iload_n X dX1_letBerth_46 rfl ?_
        refine aw_aload_n X dX1_letBerth_47 rfl ?_
        refine aw_bget X hJ f_X1_40 dX1_letBerth_48 ?_
        refine aw_blen X dX1_letBerth_51 ?_
        refine aw_icmp_ge_f (tgt := 75) X dX1_letBerth_52 (by decide) (by decide) ?_
        refine aw_aload_n X dX1_letBerth_55 rfl ?_
        refine aw_bget X hJ f_X1_40 dX1_letBerth_56 ?_
        refine aw_iload_n X dX1_letBerth_59 rfl ?_
        refine aw_iconst X (1) dX1_letBerth_60 rfl ?_
        refine aw_isub X dX1_letBerth_61 ?_
        refine aw_aload_n X dX1_letBerth_62 rfl ?_
        refine aw_bget X hJ f_X1_40 dX1_letBerth_63 ?_
        refine aw_iload_n X dX1_letBerth_66 rfl ?_
        refine aw_bald X 4 (sh (11 + 4)) (by decide) (xin_d rfl) (by simp [va_up, hf]) dX1_letBerth_67 ?_
        refine aw_bast X hJ 3 4 (by decide) (by decide) (xin_d rfl) dX1_letBerth_68 ?_
        refine aw_iinc X (1) dX1_letBerth_69 rfl rfl rfl (by decide) ?_
        refine aw_goto (tgt := 46) X dX1_letBerth_72 (by decide) ?_
        refine aw_iload_n X dX1_letBerth_46 rfl ?_
        refine aw_aload_n X dX1_letBerth_47 rfl ?_
        refine aw_bget X hJ f_X1_40 dX1_letBerth_48 ?_
        refine aw_blen X dX1_letBerth_51 ?_
        refine aw_icmp_ge_f (tgt := 75) X dX1_letBerth_52 (by decide) (by decide) ?_
        refine aw_aload_n X dX1_letBerth_55 rfl ?_
        refine aw_bget X hJ f_X1_40 dX1_letBerth_56 ?_
        refine aw_iload_n X dX1_letBerth_59 rfl ?_
        refine aw_iconst X (1) dX1_letBerth_60 rfl ?_
        refine aw_isub X dX1_letBerth_61 ?_
        refine aw_aload_n X dX1_letBerth_62 rfl ?_
        refine aw_bget X hJ f_X1_40 dX1_letBerth_63 ?_
        refine aw_iload_n X dX1_letBerth_66 rfl ?_
        refine aw_bald X 5 (sh (11 + 5)) (by decide) (xin_d rfl) (by simp [va_up, hf]) dX1_letBerth_67 ?_
        refine aw_bast X hJ 4 5 (by decide) (by decide) (xin_d rfl) dX1_letBerth_68 ?_
        refine aw_iinc X (1) dX1_letBerth_69 rfl rfl rfl (by decide) ?_
        refine aw_goto (tgt := 46) X dX1_letBerth_72 (by decide) ?_
        refine aw_iload_n X dX1_letBerth_46 rfl ?_
        refine aw_aload_n X dX1_letBerth_47 rfl ?_
        refine aw_bget X hJ f_X1_40 dX1_letBerth_48 ?_
        refine aw_blen X dX1_letBerth_51 ?_
        refine aw_icmp_ge_t (tgt := 75) X dX1_letBerth_52 (by decide) (by decide) ?_
        refine aw_aload_n X dX1_letBerth_75 rfl ?_
        refine aw_bget X hJ f_X1_40 dX1_letBerth_76 ?_
        refine aw_aload_n X dX1_letBerth_79 rfl ?_
        refine aw_bget X hJ f_X1_40 dX1_letBerth_80 ?_
        refine aw_blen X dX1_letBerth_83 ?_
        refine aw_iconst X (1) dX1_letBerth_84 rfl ?_
        refine aw_isub X dX1_letBerth_85 ?_
        refine aw_aload_n X dX1_letBerth_86 rfl ?_
        refine aw_bast X hJ 5 0 (by decide) (by decide) (xin_d rfl) dX1_letBerth_87 ?_
        have hB := hJ.rot (f := (va_up (va_up (va_up (va_up (va_up (va_up f0 0 (some (sh (11 + 1)))) 1 (some (sh (11 + 2)))) 2 (some (sh (11 + 3)))) 3 (some (sh (11 + 4)))) 4 (some (sh (11 + 5)))) 5 (some (sh (11 + 0))))) (fun p hp => by
          rcases (show p = 0 ∨ p = 1 ∨ p = 2 ∨ p = 3 ∨ p = 4 ∨ p = 5 by omega) with rfl | rfl | rfl | rfl | rfl | rfl <;> simp [va_up, rsh])
        have hFr : JFr sh μ0 (xup μ0 (sh 6) (TC U (va_up (va_up (va_up (va_up (va_up (va_up f0 0 (some (sh (11 + 1)))) 1 (some (sh (11 + 2)))) 2 (some (sh (11 + 3)))) 3 (some (sh (11 + 4)))) 4 (some (sh (11 + 5)))) 5 (some (sh (11 + 0)))))) := hJ.2.up (by decide)
        generalize xup μ0 (sh 6) (TC U (va_up (va_up (va_up (va_up (va_up (va_up f0 0 (some (sh (11 + 1)))) 1 (some (sh (11 + 2)))) 2 (some (sh (11 + 3)))) 3 (some (sh (11 + 4)))) 4 (some (sh (11 + 5)))) 5 (some (sh (11 + 0))))) = μ1 at hB hFr ⊢
        have hJ := JR.rf hB
        refine aw_sub [some (.ref (rsh sh 0)), none, none] ⟨rfl, trivial⟩ ?_
        refine aw_aload_n X dX1_letBerth_88 rfl ?_
        refine aw_dup X dX1_letBerth_89 rfl ?_
        refine aw_jget X hJ f_X1_48 rfl dX1_letBerth_90 ?_
        refine aw_iconst X (1) dX1_letBerth_93 rfl ?_
        refine aw_isub X dX1_letBerth_94 ?_
        refine aw_jput X hJ 7 (by decide) (by decide) 12 rfl f_X1_48 (fun h => absurd h (by decide)) dX1_letBerth_95 (fun μ z_4 ez_4 hJ => ?_)
        refine aw_aload_n X dX1_letBerth_98 rfl ?_
        refine aw_iconst X (1) dX1_letBerth_99 rfl ?_
        refine aw_jput X hJ 6 (by decide) (by decide) 13 rfl f_X1_44 (fun _ => by decide) dX1_letBerth_100 (fun μ z_5 ez_5 hJ => ?_)
        refine aw_aload_n X dX1_letBerth_103 rfl ?_
        refine aw_jget X hJ f_X1_40 rfl dX1_letBerth_104 ?_
        refine aw_iconst X (0) dX1_letBerth_107 rfl ?_
        refine aw_tankAt X hJ (0) (by decide) (by decide) dX1_letBerth_108 ?_
        refine aw_cVF (As := []) X (c_X3_allUnits (kl K) U _ (rsh sh) _ hJ.1 (0) (by decide)) s_X1_125 k_X3_allUnits (by decide) ⟨rfl, rfl⟩ ⟨Nat.zero_le _, Nat.zero_le _⟩ rfl (by exact Nat.le_of_ble_eq_true rfl) (hJ.gT _ (by decide)) rfl dX1_letBerth_109 ?_
        exact aw_iret X hQ dX1_letBerth_112 ⟨congrArg (fun q => some (Value.int q)) (by subst ez_4 ez_5; simp [gBerth, c4_1, c11_2, c31_3]), (hJ.to (by subst ez_4 ez_5; simp [gBerth, c4_1, c11_2, c31_3])).rjs hFr⟩
      · skip
        refine aw_ldc X dX1_letBerth_34 a_X1_124 ?_
        exact aw_iret X hQ dX1_letBerth_36 ⟨congrArg (fun q => some (Value.int q)) (by simp [gBerth, c4_1, c11_2, c31_3]), (hJ.to (by simp [gBerth, c4_1, c11_2, c31_3])).js⟩
