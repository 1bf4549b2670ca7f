/-! orders and faults, in both readings -/
def fEq (p m : xV) : Prop :=
  (p 62 = 43 ∧ m 944 = 43 ∧ uEq 4 p m ∧ ∃ g, g < 4 ∧ ¬ p (66 + g) = 0) ∨ (p 62 = 46 ∧ m 944 = 46 ∧ p 65 = m 945 ∧ ∃ k, 1 ≤ k ∧ k ≤ 48 ∧ p 65 = nI k) ∨
  ((p 62 = 61 ∨ p 62 = 45 ∨ p 62 = 126) ∧ m 944 = p 62 ∧ p 63 = m 946 ∧ isG (p 63) = true ∧ (p 62 = 61 → p 64 = m 947 ∧ isG (p 64) = true))
theorem pUn_skip {n : Nat} {t : Nat → Int32} : ∀ (d i a : Nat) (p : xV) (any : Bool), n ≤ 60 → (∀ j, ch p n j = t j) → (∀ g, i ≤ g → g < i + d → ¬ t a - 97 = nI g) → (pUn n d i a p any).1 = any ∧ (pUn n d i a p any).2.1 = a := by
  intro d
  induction d with
  | zero => intro i a p any _ _ _; exact ⟨rfl, rfl⟩
  | succ d ih =>
    intro i a p any hn hT h
    rw [pUn, hT a, if_neg (h i (Nat.le_refl _) (by omega))]
    exact ih (i + 1) a _ any hn (fun j => by rw [ch_up hn (by omega)]; exact hT j) (fun g h1 h2 => h g (by omega) (by omega))
theorem ho_rel {n a : Nat} {t : Nat → Int32} {p m : xV} (hn : n ≤ 60) (hT : ∀ j, ch p n j = t j) (hT2 : ∀ j, tM m n j = t j) (h63 : p 63 = t a - 48) (hG : isG (t a - 48) = true) :
    mHo m n a 942 = nI (pHo p n (a + 1)).2.1 ∧ (((pHo p n (a + 1)).1 = true ∧ mHo m n a 943 = 0 ∧ fEq (pHo p n (a + 1)).2.2 (mHo m n a)) ∨ ((pHo p n (a + 1)).1 = false ∧ ¬ mHo m n a 943 = 0)) := by
  unfold pHo mHo
  dsimp only
  have hT3 : ∀ j, ch (upd (upd p 62 (t (a + 1))) 61 (nI (a + 1 + 1))) n j = t j := fun j => by rw [ch_up hn (by decide), ch_up hn (by decide)]; exact hT j
  rw [hT, hT2, hT2, hT2, hT3]
  by_cases c1 : ¬ t (a + 1) = 61 ∧ ¬ t (a + 1) = 45 ∧ ¬ t (a + 1) = 126
  · rw [if_pos c1, if_pos c1]
    exact ⟨upd_s, Or.inr ⟨rfl, by rw [upd_n (by decide), upd_s]; decide⟩⟩
  rw [if_neg c1, if_neg c1]
  by_cases c2 : ¬ t (a + 1) = 61
  · rw [if_pos c2, if_pos c2]
    refine ⟨upd_s, Or.inl ⟨rfl, by rw [upd_n (by decide), upd_s], Or.inr (Or.inr ?_)⟩⟩
    have c5 : t (a + 1) = 45 ∨ t (a + 1) = 126 := by
      by_cases q1 : t (a + 1) = 45
      · exact Or.inl q1
      · exact Or.inr (Decidable.byContradiction (fun q2 => c1 ⟨c2, q1, q2⟩))
    simp [upd, h63, hG, c2, c5]
  rw [if_neg c2, if_neg c2]
  have c3 : t (a + 1) = 61 := Decidable.not_not.mp c2
  by_cases c4 : isG (t (a + 1 + 1) - 97) = true
  · rw [if_pos c4, if_pos c4]
    refine ⟨upd_s, Or.inl ⟨rfl, by rw [upd_n (by decide), upd_s], Or.inr (Or.inr ?_)⟩⟩
    simp [upd, h63, hG, c3, c4]
  · rw [if_neg c4, if_neg c4]
    exact ⟨upd_s, Or.inr ⟨rfl, by rw [upd_n (by decide), upd_s]; decide⟩⟩
theorem ord_rel {n a : Nat} {t : Nat → Int32} {p m : xV} (hp : pat p n a) (hm : patM m n a) (hT : ∀ j, ch p n j = t j) (hT2 : ∀ j, tM m n j = t j) (h943 : m 943 = 0) :
    mOrd m n a 942 = nI (pOrd p n a).2.1 ∧ (((pOrd p n a).1 = true ∧ mOrd m n a 943 = 0 ∧ fEq (pOrd p n a).2.2 (mOrd m n a)) ∨ ((pOrd p n a).1 = false ∧ rdR n t (pOrd p n a).2.1 (mOrd m n a 943))) := by
  have hn := hp.2.2.1
  unfold pOrd mOrd
  dsimp only
  rw [hT, hT2, h943, decide_eq_true (rfl : (0 : Int32) = 0), Bool.true_and, ← isG_48]
  by_cases c1 : t a = 43
  · have hlt : a < n := ch_c (p := p) (v := 43) ((hT a).trans c1) (by decide)
    have ng : ¬ isG (t a - 48) = true := by rw [c1]; decide
    rw [if_pos c1, if_neg ng, if_pos c1]
    obtain ⟨P, hP⟩ : ∃ P, P = upd (upd p 62 (t a)) 61 (nI (a + 1)) := ⟨_, rfl⟩
    obtain ⟨X, hX⟩ : ∃ X, X = upd (upd m 944 (t a)) 942 (nI (a + 1)) := ⟨_, rfl⟩
    rw [← hP, ← hX]
    have hpP : pat P n (a + 1) := by rw [hP]; exact pat_at (pat_up hp (by decide) (by decide)) (by omega)
    have hpX : patM X n (a + 1) := by rw [hX]; exact patM_at (patM_up hm (by decide) (by decide)) (by omega)
    have hTP : ∀ j, ch P n j = t j := fun j => by rw [hP, ch_up hn (by decide), ch_up hn (by decide)]; exact hT j
    have hTX : ∀ j, tM X n j = t j := fun j => by rw [hX, tM_up hn (by decide), tM_up hn (by decide)]; exact hT2 j
    have hX943 : X 943 = 0 := by rw [hX, upd_n (by decide), upd_n (by decide)]; exact h943
    unfold mUni
    dsimp only
    obtain ⟨Z, hZ⟩ : ∃ Z, Z = upd (upd (upd (upd X 930 0) 931 0) 932 0) 933 0 := ⟨_, rfl⟩
    rw [← hZ]
    have hZ943 : Z 943 = 0 := by rw [hZ, upd_n (by decide), upd_n (by decide), upd_n (by decide), upd_n (by decide)]; exact hX943
    have hTZ : ∀ (v : Int32) (j : Nat), tM (upd Z 943 v) n j = t j := fun v j => by rw [tM_up hn (by decide), hZ, tM_up hn (by decide), tM_up hn (by decide), tM_up hn (by decide), tM_up hn (by decide)]; exact hTX j
    have hpZ : ∀ v, patM (upd Z 943 v) n (a + 1) := fun v => by rw [hZ]; exact patM_up (patM_up (patM_up (patM_up (patM_up hpX (by decide) (by decide)) (by decide) (by decide)) (by decide) (by decide)) (by decide) (by decide)) (by decide) (by decide)
    rw [hZ943, hTX, decide_eq_true (rfl : (0 : Int32) = 0), Bool.true_and]
    have e97' : (97 : Int32) = nI (97 + 0) := rfl
    by_cases c2 : inB (t (a + 1)) 97 100 = true
    · rw [if_pos c2]
      have hu := uni_rel 4 0 (a + 1) 4 P (upd Z 943 0) false rfl (Nat.le_refl _) hpP (hpZ 0) hTP (hTZ 0) upd_s (Or.inr c2) (fun g hg => absurd hg (by omega)) (fun g _ hg => by
        rw [upd_n (by omega), hZ]
        rcases (show g = 0 ∨ g = 1 ∨ g = 2 ∨ g = 3 by omega) with rfl | rfl | rfl | rfl <;> simp [upd]) (fun q => by cases q)
      obtain ⟨-, -, g3, -⟩ := mUn_pat (n := n) 4 0 (a + 1) (upd Z 943 0) (by decide) (hpZ 0)
      obtain ⟨u1, u2⟩ := hu
      rw [← e97'] at u1 u2 g3
      refine ⟨by rw [g3.2.1, u1], u2.imp (fun q => ⟨q.1, q.2.1, Or.inl ⟨?_, ?_, q.2.2.1, q.2.2.2⟩⟩) id⟩
      · rw [pUn_o (by decide), hP, upd_n (by decide), upd_s]; exact c1
      · have e4 := mUn_o (n := n) 4 0 (a + 1) (upd Z 943 0) 944 (by decide) (by decide)
        rw [← e97'] at e4
        rw [e4, upd_n (by decide), hZ, upd_n (by decide), upd_n (by decide), upd_n (by decide), upd_n (by decide), hX, upd_n (by decide), upd_s]
        exact c1
    · rw [if_neg c2, mUn_w (by rw [upd_s]; rfl)]
      have c2' : inB (t (a + 1)) 97 100 = false := by simpa using c2
      obtain ⟨s1, s2⟩ := pUn_skip (n := n) (t := t) 4 0 (a + 1) P false hn hTP (fun g _ hg e => by
        rw [sub_add_n (b := 97) e] at c2
        refine c2 ?_
        unfold inB
        rw [decide_eq_true (show (97 : Int32) ≤ nI (97 + g) from nI_le (a := 97) (by omega) (by omega)), decide_eq_true (show nI (97 + g) ≤ (100 : Int32) from nI_le (b := 100) (by omega) (by decide))]
        rfl)
      rw [s1, s2]
      exact ⟨(hpZ 1).2.1, Or.inr ⟨rfl, Or.inl (by show ¬ upd Z 943 1 943 = 0; rw [upd_s]; decide)⟩⟩
  rw [if_neg c1, if_neg c1]
  by_cases c2 : t a = 46
  · have hlt : a < n := ch_c (p := p) (v := 46) ((hT a).trans c2) (by decide)
    have ng : ¬ isG (t a - 48) = true := by rw [c2]; decide
    rw [if_pos c2, if_neg ng, if_pos c2]
    obtain ⟨P, hP⟩ : ∃ P, P = upd (upd p 62 (t a)) 61 (nI (a + 1)) := ⟨_, rfl⟩
    obtain ⟨X, hX⟩ : ∃ X, X = upd (upd m 944 (t a)) 942 (nI (a + 1)) := ⟨_, rfl⟩
    rw [← hP, ← hX]
    have hTP : ∀ j, ch P n j = t j := fun j => by rw [hP, ch_up hn (by decide), ch_up hn (by decide)]; exact hT j
    have hTX : ∀ j, tM X n j = t j := fun j => by rw [hX, tM_up hn (by decide), tM_up hn (by decide)]; exact hT2 j
    have hX943 : X 943 = 0 := by rw [hX, upd_n (by decide), upd_n (by decide)]; exact h943
    have hNq : mNq X n (a + 1) 48 = mN t 0 (nI 48) (n - (a + 1)) (a + 1) (nI 0) := by
      unfold mNq
      rw [hX943, show tM X n = t from funext hTX]
      rfl
    obtain ⟨n1, r, s, hr, hs, n2, n3, n4⟩ := num_rel hTP (M := 48) (by decide) (n - (a + 1)) (a + 1) 0 (by omega) (by decide)
    have e48 : rNum P n 48 (n - (a + 1)) (a + 1) 0 = rNum P n (nI 48) (n - (a + 1)) (a + 1) (nI 0) := rfl
    unfold mNr
    rw [hNq, e48, hX943]
    generalize hR : rNum P n (nI 48) (n - (a + 1)) (a + 1) (nI 0) = R at n1 n2 n4 ⊢
    generalize hS : mN t 0 (nI 48) (n - (a + 1)) (a + 1) (nI 0) = S at n1 n3 ⊢
    obtain ⟨R1, b⟩ := R
    obtain ⟨S1, b'⟩ := S
    dsimp only at n1 n2 n3 n4 ⊢
    subst n1 n2 n3
    refine ⟨by rw [upd_n (by decide), upd_s], ?_⟩
    rw [upd_s]
    by_cases cr : r = 0
    · right
      refine ⟨decide_eq_false (show ¬ (0 : Int32) < nI r by rw [cr]; decide), ?_⟩
      rcases n4 with q | q
      · left
        rw [if_pos (Or.inr (show nI s = 0 by rw [← q, cr]; rfl))]; decide
      · exact Or.inr ⟨q.2.1, q.2.2⟩
    · left
      have hrs : r = s := n4.resolve_right (fun q => cr q.1)
      subst hrs
      have hne : ¬ nI r = 0 := nI_ne0 (by omega) (by omega)
      have hpos : (0 : Int32) < nI r := nI_lt (a := 0) (by omega) (by omega)
      refine ⟨decide_eq_true hpos, by simp [hne], Or.inr (Or.inl ⟨?_, ?_, ?_, r, by omega, by omega, upd_s⟩)⟩
      · rw [upd_n (by decide), upd_n (by decide), hP, upd_n (by decide), upd_s]; exact c2
      · rw [upd_n (by decide), upd_n (by decide), upd_n (by decide), hX, upd_n (by decide), upd_s]; exact c2
      · rw [upd_s, upd_n (by decide), upd_n (by decide), upd_s]
  rw [if_neg c2, if_neg c2]
  by_cases c3 : isG (t a - 48) = true
  · rw [if_pos c3, if_pos c3]
    have := ho_rel (n := n) (a := a) (t := t) (p := upd (upd (upd p 62 (t a)) 63 (t a - 48)) 61 (nI (a + 1))) (m := upd m 944 (t a)) hn (fun j => by rw [ch_up hn (by decide), ch_up hn (by decide), ch_up hn (by decide)]; exact hT j) (fun j => by rw [tM_up hn (by decide)]; exact hT2 j) (by rw [upd_n (by decide), upd_s]) c3
    exact ⟨this.1, this.2.imp id (fun q => ⟨q.1, Or.inl q.2⟩)⟩
  · rw [if_neg c3, if_neg c3]
    exact ⟨by rw [upd_n (by decide), upd_n (by decide)]; exact hm.2.1, Or.inr ⟨rfl, Or.inl (by rw [upd_s]; decide)⟩⟩
/-! what an order is, is in the text -/
theorem rNum_cg {p q : xV} {n : Nat} {most : Int32} (h : ∀ j, ch p n j = ch q n j) : ∀ (d a : Nat) (k : Int32), rNum p n most d a k = rNum q n most d a k := by
  intro d
  induction d with
  | zero => intro a k; rfl
  | succ d ih => intro a k; rw [rNum, rNum, h a, ih]
theorem pUn_cg {n : Nat} (hn : n ≤ 60) : ∀ (d i a : Nat) (p q : xV) (any : Bool), (∀ j, ch p n j = ch q n j) → (pUn n d i a p any).1 = (pUn n d i a q any).1 ∧ (pUn n d i a p any).2.1 = (pUn n d i a q any).2.1 := by
  intro d
  induction d with
  | zero => intro i a p q any _; exact ⟨rfl, rfl⟩
  | succ d ih =>
    intro i a p q any h
    rw [pUn, pUn, h a]
    have h1 : ∀ j, ch (upd (upd p (66 + i) 0) 61 (nI (a + 1))) n j = ch (upd (upd q (66 + i) 0) 61 (nI (a + 1))) n j := fun j => by rw [ch_up hn (by omega), ch_up hn (by omega), ch_up hn (by omega), ch_up hn (by omega)]; exact h j
    by_cases c : ch q n a - 97 = nI i
    · rw [if_pos c, if_pos c]
      dsimp only
      rw [rNum_cg h1]
      by_cases c2 : (rNum (upd (upd q (66 + i) 0) 61 (nI (a + 1))) n 400 (n - (a + 1)) (a + 1) 0).1 = 0
      · rw [if_pos c2, if_pos c2]; exact ⟨rfl, rfl⟩
      · rw [if_neg c2, if_neg c2]
        refine ih (i + 1) _ _ _ true (fun j => ?_)
        have h3 : ∀ (r : xV) (v w : Int32), ch (upd (upd r 61 v) (66 + i) w) n j = ch r n j := fun r v w => by rw [ch_up hn (by omega), ch_up hn (by decide)]
        rw [h3, h3]
        exact h1 j
    · rw [if_neg c, if_neg c]
      refine ih (i + 1) _ _ _ any (fun j => ?_)
      rw [ch_up hn (by omega), ch_up hn (by omega)]; exact h j
theorem pHo_cg {n a : Nat} (hn : n ≤ 60) {p q : xV} (h : ∀ j, ch p n j = ch q n j) : (pHo p n a).1 = (pHo q n a).1 ∧ (pHo p n a).2.1 = (pHo q n a).2.1 := by
  unfold pHo
  dsimp only
  have h2 : ∀ (r : xV) (v w : Int32) (j : Nat), ch (upd (upd r 62 v) 61 w) n j = ch r n j := fun r v w j => by rw [ch_up hn (by decide), ch_up hn (by decide)]
  rw [h2, h2, h a, h (a + 1)]
  repeat' split
  all_goals exact ⟨rfl, rfl⟩
theorem pOrd_cg {n a : Nat} (hn : n ≤ 60) {p q : xV} (h : ∀ j, ch p n j = ch q n j) : (pOrd p n a).1 = (pOrd q n a).1 ∧ (pOrd p n a).2.1 = (pOrd q n a).2.1 := by
  unfold pOrd
  dsimp only
  have h2 : ∀ j, ch (upd (upd p 62 (ch q n a)) 61 (nI (a + 1))) n j = ch (upd (upd q 62 (ch q n a)) 61 (nI (a + 1))) n j := fun j => by rw [ch_up hn (by decide), ch_up hn (by decide), ch_up hn (by decide), ch_up hn (by decide)]; exact h j
  rw [h a]
  by_cases c1 : ch q n a = 43
  · rw [if_pos c1, if_pos c1]
    exact pUn_cg hn 4 0 (a + 1) _ _ false h2
  rw [if_neg c1, if_neg c1]
  by_cases c2 : ch q n a = 46
  · rw [if_pos c2, if_pos c2, rNum_cg h2]
    exact ⟨rfl, rfl⟩
  rw [if_neg c2, if_neg c2]
  by_cases c3 : isG (ch q n a - 48) = true
  · rw [if_pos c3, if_pos c3]
    exact pHo_cg hn (fun j => by rw [ch_up hn (by decide), ch_up hn (by decide), ch_up hn (by decide), ch_up hn (by decide), ch_up hn (by decide), ch_up hn (by decide)]; exact h j)
  · rw [if_neg c3, if_neg c3]
    exact ⟨rfl, rfl⟩
theorem pHo_o {n a : Nat} {p : xV} {j : Nat} (hj : j < 61) : (pHo p n a).2.2 j = p j := by
  unfold pHo
  dsimp only
  repeat' split
  all_goals (dsimp only; repeat rw [upd_n (by omega)])
theorem pOrd_o {n a : Nat} {p : xV} {j : Nat} (hj : j < 61) : (pOrd p n a).2.2 j = p j := by
  unfold pOrd
  dsimp only
  split
  · rw [pUn_o (Or.inl hj), upd_n (by omega), upd_n (by omega)]
  split
  · dsimp only
    rw [upd_n (by omega), upd_n (by omega), upd_n (by omega), upd_n (by omega)]
  split
  · rw [pHo_o hj, upd_n (by omega), upd_n (by omega), upd_n (by omega)]
  · dsimp only
    rw [upd_n (by omega), upd_n (by omega)]
theorem ch_of {p q : xV} {n : Nat} (hn : n ≤ 60) (h : ∀ j, j < 60 → p j = q j) (j : Nat) : ch p n j = ch q n j := by
  unfold ch
  by_cases c : j < n
  · rw [if_pos c, if_pos c, h j (by omega)]
  · rw [if_neg c, if_neg c]
/-- the orders from a on have no fault -/
def OkC (n : Nat) (q : xV) : Nat → Nat → Prop
  | 0, _ => True
  | d + 1, a => (pOrd q n a).1 = true ∧ (n ≤ (pOrd q n a).2.1 ∨ OkC n q d ((pOrd q n a).2.1 + 1))
theorem fault_rel {n : Nat} {q : xV} (hn : n ≤ 60) : ∀ (d a : Nat) (p m : xV), pat p n a → patM m n a → (∀ j, ch p n j = ch q n j) → (∀ j, tM m n j = ch q n j) → m 943 = 0 → n < a + d →
    (pFault n d a p).1 = (mFa n d a m).1 ∧ ((mFa n d a m).1 = -100006 → (mFa n d a m).2 943 = 0 ∧ OkC n q d a) := by
  intro d
  induction d with
  | zero => intro a p m hp _ _ _ _ h; exact absurd hp.2.2.2 (by omega)
  | succ d ih =>
    intro a p m hp hm hT hT2 h943 had
    obtain ⟨r1, r2⟩ := ord_rel hp hm hT hT2 h943
    obtain ⟨g1, g2⟩ := pOrd_pat hp
    obtain ⟨b, hb1, hb2, hb3, hb4⟩ := mOrd_pat hm
    obtain ⟨k1, k2⟩ := pOrd_cg (a := a) hn hT
    have hbn : (pOrd p n a).2.1 ≤ n := g1.2.2.2
    have eb : b = (pOrd p n a).2.1 := (nI_eq (by omega) (by omega)).mp (hb3.2.1.symm.trans r1)
    subst eb
    have hchp : ∀ j, ch (pOrd p n a).2.2 n j = ch q n j := fun j => (ch_of hn (fun i hi => pOrd_o (by omega)) j).trans (hT j)
    have htn : tn (mOrd m n a 942) = (pOrd p n a).2.1 := by rw [r1, tn, nI_clamp (by omega)]
    rw [pFault, mFa, htn]
    have hnn : ∀ x, x ≤ 60 → ¬ nI x = -100006 := by decide +kernel
    rcases r2 with ⟨o1, o2, o3⟩ | ⟨o1, o2⟩
    · rw [if_neg (show ¬ (pOrd p n a).1 = false by rw [o1]; decide), if_neg (show ¬ ¬ mOrd m n a 943 = 0 from fun w => w o2)]
      by_cases c1 : n ≤ (pOrd p n a).2.1
      · rw [if_pos c1, if_pos (show mOrd m n a 942 = mOrd m n a 941 by rw [r1, hb3.1]; congr 1; omega)]
        exact ⟨rfl, fun _ => ⟨o2, by rw [OkC, ← k1, ← k2]; exact ⟨o1, Or.inl c1⟩⟩⟩
      · rw [if_neg c1, if_neg (show ¬ mOrd m n a 942 = mOrd m n a 941 by rw [r1, hb3.1]; exact fun w => c1 (by have := (nI_eq (by omega) (by omega)).mp w; omega))]
        rw [hchp, hT2]
        by_cases c2 : ch q n (pOrd p n a).2.1 = 59
        · rw [if_pos c2, if_neg (show ¬ ¬ ch q n (pOrd p n a).2.1 = 59 from fun w => w c2)]
          obtain ⟨i1, i2⟩ := ih ((pOrd p n a).2.1 + 1) (upd (pOrd p n a).2.2 61 (nI ((pOrd p n a).2.1 + 1))) (upd (mOrd m n a) 942 (nI ((pOrd p n a).2.1 + 1))) (pat_at g1 (by omega)) (patM_at hb3 (by omega)) (fun j => by rw [ch_up hn (by decide)]; exact hchp j) (fun j => by rw [tM_up hn (by decide), hb4]; exact hT2 j) (by rw [upd_n (by decide)]; exact o2) (by omega)
          exact ⟨i1, fun w => ⟨(i2 w).1, by rw [OkC, ← k1, ← k2]; exact ⟨o1, Or.inr (i2 w).2⟩⟩⟩
        · rw [if_neg c2, if_pos c2]
          exact ⟨r1.symm, fun w => absurd (r1.symm.trans w) (hnn _ (by omega))⟩
    · rw [if_pos o1]
      rcases o2 with o2 | ⟨o2, o3⟩
      · rw [if_pos o2]
        exact ⟨r1.symm, fun w => absurd (r1.symm.trans w) (hnn _ (by omega))⟩
      · by_cases c0 : mOrd m n a 943 = 0
        · rw [if_neg (show ¬ ¬ mOrd m n a 943 = 0 from fun w => w c0), if_neg (show ¬ mOrd m n a 942 = mOrd m n a 941 by rw [r1, hb3.1]; exact fun w => by have := (nI_eq (by omega) (by omega)).mp w; omega), if_pos (show ¬ tM m n (pOrd p n a).2.1 = 59 by
            rw [hT2]
            intro w
            rw [w] at o3
            exact absurd o3 (by decide))]
          exact ⟨r1.symm, fun w => absurd (r1.symm.trans w) (hnn _ (by omega))⟩
        · rw [if_pos c0]
          exact ⟨r1.symm, fun w => absurd (r1.symm.trans w) (hnn _ (by omega))⟩
