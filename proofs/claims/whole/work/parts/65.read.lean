/-! both readings of the same text -/
theorem sub_add_n {c : Int32} {b j : Nat} (h : c - nI b = nI j) : c = nI (b + j) := by
  have e : c - nI b + nI b = c := Int32.sub_add_cancel c (nI b)
  rw [← e, h, nI_add, Nat.add_comm]
theorem dig_n {c : Int32} (h : ¬ (c - 48 < 0 ∨ 9 < c - 48)) : ∃ j, j ≤ 9 ∧ c = nI (48 + j) ∧ c - 48 = nI j := by
  obtain ⟨j, hj, e⟩ := nI_of (x := c - 48) (fun q => h (Or.inl q))
  have h9 : ¬ (9 : Int32) < nI j := fun q => h (Or.inr (by rw [e]; exact q))
  have hj9 : j ≤ 9 := by
    rcases Nat.lt_or_ge 9 j with q | q
    · exact absurd (nI_lt (a := 9) q hj) h9
    · exact q
  exact ⟨j, hj9, sub_add_n (b := 48) e, e⟩
theorem inB_d {j lo : Nat} (hj : j ≤ 9) (hlo : lo = 48 ∨ lo = 49) : inB (nI (48 + j)) (nI lo) 57 = true ↔ lo ≤ 48 + j := by
  unfold inB
  rw [Bool.and_eq_true, decide_eq_true_eq, decide_eq_true_eq, show (57 : Int32) = nI 57 from rfl, nI_leI (by omega) (by omega), nI_leI (by omega) (by decide)]
  omega
theorem inB_nd {c : Int32} {lo : Nat} (hlo : lo = 48 ∨ lo = 49) (h : c - 48 < 0 ∨ 9 < c - 48) : inB c (nI lo) 57 = false := by
  cases q : inB c (nI lo) 57
  · rfl
  · exfalso
    unfold inB at q
    rw [Bool.and_eq_true, decide_eq_true_eq, decide_eq_true_eq] at q
    obtain ⟨k, k1, k2, e⟩ := rgN (x := c) (lo := lo) (hi := 57) (by decide) (by omega) q
    rw [e, show (48 : Int32) = nI 48 from rfl, pk_sub (by omega)] at h
    rcases h with h | h
    · exact absurd h (nI_pos (by omega))
    · exact absurd h (Int32.not_lt.mpr (nI_le (b := 9) (by omega) (by decide)))
theorem isG_48 (c : Int32) : isG (c - 48) = inB c 48 51 := by
  cases q : isG (c - 48)
  · cases q2 : inB c 48 51
    · rfl
    · exfalso
      unfold inB at q2
      rw [Bool.and_eq_true, decide_eq_true_eq, decide_eq_true_eq] at q2
      obtain ⟨k, k1, k2, e⟩ := rgN (x := c) (lo := 48) (hi := 51) (by decide) (by decide) q2
      rw [e, show (48 : Int32) = nI 48 from rfl, pk_sub k1, isG_of (by omega)] at q
      cases q
  · obtain ⟨k, hk, e⟩ := isG_nI q
    rw [sub_add_n (b := 48) e]
    unfold inB
    rw [decide_eq_true (show (48 : Int32) ≤ nI (48 + k) from nI_le (a := 48) (by omega) (by omega)), decide_eq_true (show nI (48 + k) ≤ (51 : Int32) from nI_le (b := 51) (by omega) (by decide))]
    rfl
theorem ten (k j : Nat) : (10 : Int32) * nI k + nI j = nI (10 * k + j) := by rw [ixm k (show (10 : Int32) = nI 10 from rfl), nI_add]
theorem ten2 {c : Int32} {k j : Nat} (h : c - 48 = nI j) : (10 : Int32) * nI k + c - 48 = nI (10 * k + j) := by
  rw [← ten, ← h, Int32.sub_eq_add_neg, Int32.sub_eq_add_neg, Int32.add_assoc]
theorem num_rel {p : xV} {n : Nat} {t : Nat → Int32} (hT : ∀ i, ch p n i = t i) {M : Nat} (hM : M ≤ 400) : ∀ (d a k : Nat), a + d = n → k ≤ M →
    (mN t 0 (nI M) d a (nI k)).2 = (rNum p n (nI M) d a (nI k)).2 ∧ ∃ r s, r ≤ M ∧ s ≤ M ∧ (rNum p n (nI M) d a (nI k)).1 = nI r ∧ (mN t 0 (nI M) d a (nI k)).1 = nI s ∧ (r = s ∨ (r = 0 ∧ (rNum p n (nI M) d a (nI k)).2 < n ∧ inB (t (rNum p n (nI M) d a (nI k)).2) 48 57 = true)) := by
  intro d
  induction d with
  | zero =>
    intro a k ha hk
    exact ⟨rfl, k, k, hk, hk, rfl, rfl, Or.inl rfl⟩
  | succ d ih =>
    intro a k ha hk
    rw [rNum, mN, hT a]
    have elo : (if nI k = 0 then (49 : Int32) else 48) = nI (if k = 0 then 49 else 48) := by
      by_cases q : k = 0
      · rw [if_pos q, if_pos (by rw [q]; rfl)]; rfl
      · rw [if_neg q, if_neg (nI_ne0 (by omega) (by omega))]; rfl
    have hlo : (if k = 0 then 49 else 48) = 48 ∨ (if k = 0 then 49 else 48) = 49 := by
      by_cases q : k = 0
      · rw [if_pos q]; exact Or.inr rfl
      · rw [if_neg q]; exact Or.inl rfl
    rw [elo]
    by_cases c1 : t a - 48 < 0 ∨ 9 < t a - 48
    · rw [if_pos c1, if_neg (by rw [inB_nd hlo c1]; simp)]
      exact ⟨rfl, k, k, hk, hk, rfl, rfl, Or.inl rfl⟩
    rw [if_neg c1]
    obtain ⟨j, hj, e1, e2⟩ := dig_n c1
    rw [e2, ten, ten2 e2]
    have hin : inB (t a) (nI (if k = 0 then 49 else 48)) 57 = true ↔ ¬ (k = 0 ∧ j = 0) := by
      rw [e1, inB_d hj hlo]
      by_cases q : k = 0
      · rw [if_pos q]; omega
      · rw [if_neg q]; omega
    have hd : inB (t a) 48 57 = true := by rw [e1]; exact (inB_d (lo := 48) hj (Or.inl rfl)).mpr (by omega)
    have hz : nI (10 * k + j) = 0 ↔ 10 * k + j = 0 := nI_eq (b := 0) (by omega) (by decide)
    have hlt : nI M < nI (10 * k + j) ↔ M < 10 * k + j := nI_ltI (by omega) (by omega)
    have hle : nI (10 * k + j) ≤ nI M ↔ 10 * k + j ≤ M := nI_leI (by omega) (by omega)
    by_cases c2 : 10 * k + j = 0
    · rw [if_pos (Or.inl (hz.mpr c2)), if_neg (fun q => by have := q.1; simp only [decide_true, Bool.true_and] at this; exact (hin.mp this) ⟨by omega, by omega⟩)]
      exact ⟨rfl, 0, k, by omega, hk, rfl, rfl, Or.inl (by omega)⟩
    by_cases c3 : M < 10 * k + j
    · rw [if_pos (Or.inr (hlt.mpr c3)), if_neg (fun q => by have := hle.mp q.2; omega)]
      exact ⟨rfl, 0, k, by omega, hk, rfl, rfl, Or.inr ⟨rfl, by show a < n; omega, hd⟩⟩
    rw [if_neg (show ¬ (nI (10 * k + j) = 0 ∨ nI M < nI (10 * k + j)) from fun q => q.elim (fun q => c2 (hz.mp q)) (fun q => c3 (hlt.mp q))), if_pos ⟨by rw [hin.mpr (by omega)]; rfl, hle.mpr (by omega)⟩]
    exact ih (a + 1) (10 * k + j) (by omega) (by omega)
theorem mUn_f {n : Nat} {f f' : Int32} : ∀ (d a : Nat) (z : xV), inB (tM z n a) f 100 = inB (tM z n a) f' 100 → mUn n d f a z = mUn n d f' a z := by
  intro d a z h
  cases d with
  | zero => rfl
  | succ d => rw [mUn, mUn, h]
theorem mUn_w {n : Nat} {f : Int32} {d a : Nat} {z : xV} (h : (decide (z 943 = 0) && inB (tM z n a) f 100) = false) : mUn n d f a z = (a, z) := by
  cases d with
  | zero => rfl
  | succ d => rw [mUn, if_neg (by rw [h]; decide)]
theorem inB_97 {c : Int32} {i : Nat} (hi : i < 4) (h : ¬ c - 97 = nI i) : inB c (nI (97 + i)) 100 = inB c (nI (97 + (i + 1))) 100 := by
  unfold inB
  have : (nI (97 + i) ≤ c ∧ c ≤ 100) ↔ (nI (97 + (i + 1)) ≤ c ∧ c ≤ 100) := by
    constructor
    · intro q
      obtain ⟨k, k1, k2, e⟩ := rgN (x := c) (lo := 97 + i) (hi := 100) (by decide) (by omega) q
      subst e
      have : k ≠ 97 + i := fun e => h (by rw [e, show (97 : Int32) = nI 97 from rfl, pk_sub (by omega), Nat.add_sub_cancel_left])
      exact ⟨nI_le (by omega) (by omega), q.2⟩
    · exact fun q => ⟨Int32.le_trans (nI_le (by omega) (by omega)) q.1, q.2⟩
  rw [← Bool.decide_and, ← Bool.decide_and]
  exact decide_eq_decide.mpr this
theorem inB_dig {c f : Int32} (hf : (97 : Int32) ≤ f) (h : inB c 48 57 = true) : inB c f 100 = false := by
  unfold inB at h ⊢
  rw [Bool.and_eq_true, decide_eq_true_eq, decide_eq_true_eq] at h
  rw [decide_eq_false (fun q => absurd (Int32.le_trans hf (Int32.le_trans q h.2)) (by decide))]
  rfl
theorem pUn_o {n j : Nat} (hj : j < 61 ∨ (62 ≤ j ∧ j < 66)) : ∀ (d i a : Nat) (p : xV) (any : Bool), (pUn n d i a p any).2.2 j = p j := by
  intro d
  induction d with
  | zero => intro i a p any; rfl
  | succ d ih =>
    intro i a p any
    rw [pUn]
    split
    · dsimp only
      split
      · show upd (upd (upd (upd p _ _) _ _) _ _) _ _ j = p j
        rw [upd_n (by omega), upd_n (by omega), upd_n (by omega), upd_n (by omega)]
      · rw [ih, upd_n (by omega), upd_n (by omega), upd_n (by omega), upd_n (by omega)]
    · rw [ih, upd_n (by omega)]
/-- what is known of the units read so far -/
def uEq (i : Nat) (p m : xV) : Prop := ∀ g, g < i → p (66 + g) = m (930 + g) ∧ ∃ k, k ≤ 400 ∧ p (66 + g) = nI k
def rdR (n : Nat) (t : Nat → Int32) (b : Nat) (w : Int32) : Prop := ¬ w = 0 ∨ (b < n ∧ inB (t b) 48 57 = true)
theorem uni_rel {n : Nat} {t : Nat → Int32} : ∀ (d i a e : Nat) (p m : xV) (any : Bool), i + d = 4 → d ≤ e → pat p n a → patM m n a → (∀ j, ch p n j = t j) → (∀ j, tM m n j = t j) → m 943 = 0 → (any = true ∨ inB (t a) (nI (97 + i)) 100 = true) → uEq i p m → (∀ g, i ≤ g → g < 4 → m (930 + g) = 0) → (any = true → ∃ g, g < i ∧ ¬ p (66 + g) = 0) →
    (mUn n e (nI (97 + i)) a m).1 = (pUn n d i a p any).2.1 ∧ (((pUn n d i a p any).1 = true ∧ (mUn n e (nI (97 + i)) a m).2 943 = 0 ∧ uEq 4 (pUn n d i a p any).2.2 (mUn n e (nI (97 + i)) a m).2 ∧ ∃ g, g < 4 ∧ ¬ (pUn n d i a p any).2.2 (66 + g) = 0) ∨ ((pUn n d i a p any).1 = false ∧ rdR n t (pUn n d i a p any).2.1 ((mUn n e (nI (97 + i)) a m).2 943))) := by
  intro d
  induction d with
  | zero =>
    intro i a e p m any hi he hp hm hT hT2 h943 hany hu hz hne
    obtain rfl : i = 4 := by omega
    have hc : inB (t a) (nI (97 + 4)) 100 = false := by
      cases q : inB (t a) (nI (97 + 4)) 100
      · rfl
      · exfalso
        unfold inB at q
        rw [Bool.and_eq_true, decide_eq_true_eq, decide_eq_true_eq] at q
        exact absurd (Int32.le_trans q.1 q.2) (by decide)
    have ha : any = true := hany.resolve_right (by rw [hc]; decide)
    rw [mUn_w (by rw [hT2, hc, Bool.and_false])]
    exact ⟨rfl, Or.inl ⟨ha, h943, hu, hne ha⟩⟩
  | succ d ih =>
    intro i a e p m any hi he hp hm hT hT2 h943 hany hu hz hne
    have hn := hp.2.2.1
    rw [pUn, hT a]
    by_cases c : t a - 97 = nI i
    · rw [if_pos c]
      have hlt : a < n := ch97 (p := p) (i := i) (by omega) (by rw [hT a]; exact c)
      have hin : inB (t a) (nI (97 + i)) 100 = true := by
        rw [sub_add_n (b := 97) c]
        unfold inB
        rw [decide_eq_true (Int32.le_refl _), decide_eq_true (show nI (97 + i) ≤ (100 : Int32) from nI_le (b := 100) (by omega) (by decide))]
        rfl
      obtain ⟨e', rfl⟩ : ∃ e', e = e' + 1 := ⟨e - 1, by omega⟩
      rw [mUn, if_pos (by rw [hT2, hin, h943]; rfl)]
      dsimp only
      rw [hT2, c, e97, show tn (nI i) = i from nI_clamp (by omega)]
      obtain ⟨p1, hp1⟩ : ∃ q, q = upd (upd p (66 + i) 0) 61 (nI (a + 1)) := ⟨_, rfl⟩
      obtain ⟨z1, hz1⟩ : ∃ q, q = upd m 942 (nI (a + 1)) := ⟨_, rfl⟩
      rw [← hp1, ← hz1]
      have hpat1 : pat p1 n (a + 1) := by rw [hp1]; exact pat_at (pat_up hp (by omega) (by omega)) (by omega)
      have hpm1 : patM z1 n (a + 1) := by rw [hz1]; exact patM_at hm (by omega)
      have hT1 : ∀ j, ch p1 n j = t j := fun j => by rw [hp1, ch_up hn (by omega), ch_up hn (by omega)]; exact hT j
      have hT12 : ∀ j, tM z1 n j = t j := fun j => by rw [hz1, tM_up hn (by omega)]; exact hT2 j
      have hw1 : z1 943 = 0 := by rw [hz1, upd_n (by decide)]; exact h943
      have hNq : mNq z1 n (a + 1) 400 = mN t 0 (nI 400) (n - (a + 1)) (a + 1) (nI 0) := by
        unfold mNq
        rw [hw1, show tM z1 n = t from funext hT12]
        rfl
      obtain ⟨n1, r, s, hr, hs, n2, n3, n4⟩ := num_rel hT1 (M := 400) (by decide) (n - (a + 1)) (a + 1) 0 (by omega) (by decide)
      have hle := rNum_le (p := p1) (n := n) (most := 400) (n - (a + 1)) (a + 1) 0 (by omega)
      rw [hNq]
      have e400 : rNum p1 n 400 (n - (a + 1)) (a + 1) 0 = rNum p1 n (nI 400) (n - (a + 1)) (a + 1) (nI 0) := rfl
      rw [e400] at hle ⊢
      generalize hR : rNum p1 n (nI 400) (n - (a + 1)) (a + 1) (nI 0) = R at n1 n2 n4 hle ⊢
      generalize hS : mN t 0 (nI 400) (n - (a + 1)) (a + 1) (nI 0) = S at n1 n3
      obtain ⟨R1, b⟩ := R
      obtain ⟨S1, b'⟩ := S
      dsimp only at n1 n2 n3 n4 hle ⊢
      subst n1 n2 n3
      obtain ⟨p3, hp3⟩ : ∃ q, q = upd (upd p1 61 (nI b')) (66 + i) (nI r) := ⟨_, rfl⟩
      rw [← hp3]
      obtain ⟨z2, hz2⟩ : ∃ q, q = mNr z1 n (a + 1) 400 := ⟨_, rfl⟩
      rw [← hz2]
      have hz2w : z2 = upd (upd (upd z1 945 (nI s)) 942 (nI b')) 943 (if nI s = 0 then 1 else 0) := by
        rw [hz2, mNr, hNq, hS, hw1]
        simp
      have h945 : z2 945 = nI s := by rw [hz2w, upd_n (by decide), upd_n (by decide), upd_s]
      rw [h945]
      have hpat3 : pat p3 n b' := by rw [hp3]; exact pat_up (pat_at hpat1 hle.2) (by omega) (by omega)
      have hpm2 : patM z2 n b' := by
        rw [hz2w]
        exact patM_up (patM_at (patM_up hpm1 (by decide) (by decide)) hle.2) (by decide) (by decide)
      have hpm3 : patM (upd z2 (930 + i) (nI s)) n b' := patM_up hpm2 (by omega) (by omega)
      have hT3 : ∀ j, ch p3 n j = t j := fun j => by rw [hp3, ch_up hn (by omega), ch_up hn (by omega)]; exact hT1 j
      have hT32 : ∀ j, tM (upd z2 (930 + i) (nI s)) n j = t j := fun j => by
        rw [tM_up hn (by omega), hz2w, tM_up hn (by omega), tM_up hn (by omega), tM_up hn (by omega)]; exact hT12 j
      have h943s : upd z2 (930 + i) (nI s) 943 = if nI s = 0 then 1 else 0 := by rw [upd_n (by omega), hz2w, upd_s]
      by_cases cr : nI r = 0
      · have hr0 : r = 0 := (nI_eq (b := 0) (by omega) (by decide)).mp cr
        rw [if_pos cr]
        by_cases cs : nI s = 0
        · rw [mUn_w (by rw [h943s, if_pos cs]; rfl)]
          exact ⟨rfl, Or.inr ⟨rfl, Or.inl (by show ¬ upd z2 (930 + i) (nI s) 943 = 0; rw [h943s, if_pos cs]; decide)⟩⟩
        · have hdg := n4.resolve_left (fun q => cs (by rw [← q]; exact cr))
          rw [mUn_w (by rw [hT32, inB_dig (nI_le (a := 97) (by omega) (by omega)) hdg.2.2, Bool.and_false])]
          exact ⟨rfl, Or.inr ⟨rfl, Or.inr ⟨hdg.2.1, hdg.2.2⟩⟩⟩
      · have hrs : r = s := n4.resolve_right (fun q => cr (by rw [q.1]; rfl))
        subst hrs
        rw [if_neg cr]
        refine ih (i + 1) b' e' p3 (upd z2 (930 + i) (nI r)) true (by omega) (by omega) hpat3 hpm3 hT3 hT32 (by rw [h943s, if_neg cr]) (Or.inl rfl) (fun g hg => ?_) (fun g h1 h2 => ?_) (fun _ => ⟨i, by omega, by rw [hp3, upd_s]; exact cr⟩)
        · by_cases eg : g = i
          · subst eg
            rw [hp3, upd_s, upd_s]
            exact ⟨rfl, r, hr, rfl⟩
          · obtain ⟨u1, u2⟩ := hu g (by omega)
            have e1 : p3 (66 + g) = p (66 + g) := by rw [hp3, upd_n (by omega), upd_n (by omega), hp1, upd_n (by omega), upd_n (by omega)]
            have e2 : upd z2 (930 + i) (nI r) (930 + g) = m (930 + g) := by rw [upd_n (by omega), hz2w, upd_n (by omega), upd_n (by omega), upd_n (by omega), hz1, upd_n (by omega)]
            rw [e1, e2]
            exact ⟨u1, u2⟩
        · rw [upd_n (by omega), hz2w, upd_n (by omega), upd_n (by omega), upd_n (by omega), hz1, upd_n (by omega)]
          exact hz g (by omega) h2
    · rw [if_neg c, mUn_f (f := nI (97 + i)) (f' := nI (97 + (i + 1))) e a m (by rw [hT2]; exact inB_97 (by omega) c)]
      refine ih (i + 1) a e (upd p (66 + i) 0) m any (by omega) (by omega) (pat_up hp (by omega) (by omega)) hm (fun j => by rw [ch_up hn (by omega)]; exact hT j) hT2 h943 (hany.imp id (fun q => by rw [← inB_97 (by omega) c]; exact q)) (fun g hg => ?_) (fun g h1 h2 => hz g (by omega) h2) (fun q => ?_)
      · by_cases eg : g = i
        · subst eg
          rw [upd_s, hz g (Nat.le_refl _) (by omega)]
          exact ⟨rfl, 0, by decide, rfl⟩
        · rw [upd_n (by omega)]
          exact hu g (by omega)
      · obtain ⟨g, h1, h2⟩ := hne q
        exact ⟨g, by omega, by rw [upd_n (by omega)]; exact h2⟩
