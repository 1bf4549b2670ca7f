/-! the two systems tell the same: the present, the history, the slots, the pad -/
def SimA (rs : xR) (p : xV) (un : Nat) (sv : Nat → Int32) (m : xV) : Prop :=
  (Sim (rs 0) m ∧ mJ m) ∧ (un ≤ 6 ∧ m 940 = nI un) ∧ (∀ k, k < un → Sim (rs (3 + k)) (hrow m (200 + 80 * k)) ∧ mJ (hrow m (200 + 80 * k))) ∧
  (∀ s, s < 2 → sv s = m (860 + s) ∧ (¬ sv s = 0 → Sim (rs (9 + s)) (hrow m (700 + 80 * s)) ∧ mJ (hrow m (700 + 80 * s)))) ∧ ∃ n, n ≤ 60 ∧ p 60 = nI n ∧ m 941 = nI n ∧ ∀ i, i < n → p i = m (870 + i)
theorem SimA.cg {rs rs' : xR} {p : xV} {un : Nat} {sv : Nat → Int32} {m : xV} (h : SimA rs p un sv m) (e : ∀ r, r ≠ 1 → r ≠ 2 → rs' r = rs r) : SimA rs' p un sv m := by
  obtain ⟨⟨a1, a2⟩, b, c, d, f⟩ := h
  refine ⟨⟨by rw [e 0 (by decide) (by decide)]; exact a1, a2⟩, b, fun k hk => ?_, fun s hs => ?_, f⟩
  · rw [e _ (by omega) (by omega)]; exact c k hk
  · rw [e _ (by omega) (by omega)]; exact d s hs
/-- what the model keeps elsewhere may change -/
theorem SimA.mcg {rs : xR} {p : xV} {un : Nat} {sv : Nat → Int32} {m m' : xV} (h : SimA rs p un sv m) (e : ∀ k, k < 84 ∨ (200 ≤ k ∧ k < 930) ∨ k = 940 ∨ k = 941 → m' k = m k) : SimA rs p un sv m' := by
  obtain ⟨⟨a1, a2⟩, ⟨b1, b2⟩, c, d, n, f1, f2, f3, f4⟩ := h
  refine ⟨⟨a1.cg (fun k hk => e k (Or.inl hk)), a2.cg (fun k hk => e k (Or.inl hk))⟩, ⟨b1, by rw [e 940 (by omega)]; exact b2⟩, fun k hk => ?_, fun s hs => ?_, n, f1, f2, by rw [e 941 (by omega)]; exact f3, fun i hi => by rw [e _ (by omega)]; exact f4 i hi⟩
  · rw [show hrow m' (200 + 80 * k) = hrow m (200 + 80 * k) from hrow_cg (fun j hj => e _ (by omega))]
    exact c k hk
  · rw [e _ (by omega), show hrow m' (700 + 80 * s) = hrow m (700 + 80 * s) from hrow_cg (fun j hj => e _ (by omega))]
    exact d s hs
theorem SimA.pcg {rs : xR} {p p' : xV} {un : Nat} {sv : Nat → Int32} {m : xV} (h : SimA rs p un sv m) (e : ∀ k, k < 61 → p' k = p k) : SimA rs p' un sv m := by
  obtain ⟨a, b, c, d, n, f1, f2, f3, f4⟩ := h
  exact ⟨a, b, c, d, n, f1, by rw [e 60 (by omega)]; exact f2, f3, fun i hi => by rw [e i (by omega)]; exact f4 i hi⟩
theorem rAll_o {un r : Nat} (hu : un ≤ 6) (h : r < 2 ∨ 9 ≤ r) : rAll un r = r := by
  unfold rAll rRec nup rDrop
  dsimp only
  repeat' split
  all_goals omega
theorem rAll_k {un k : Nat} (hu : un < 6) (h : k < un) : rAll un (3 + k) = 3 + k := by
  unfold rAll
  rw [if_neg (by omega)]
  unfold rRec nup
  dsimp only
  repeat' split
  all_goals omega
theorem rAll_n {un : Nat} (hu : un < 6) : rAll un (3 + un) = 2 := by
  unfold rAll
  rw [if_neg (by omega)]
  unfold rRec nup
  dsimp only
  repeat' split
  all_goals omega
theorem rAll_6 {k : Nat} (h : k < 5) : rAll 6 (3 + k) = 3 + (k + 1) := by
  rcases (show k = 0 ∨ k = 1 ∨ k = 2 ∨ k = 3 ∨ k = 4 by omega) with rfl | rfl | rfl | rfl | rfl <;> rfl
theorem rAll_8 : rAll 6 8 = 2 := rfl
theorem mJ.kept {m m' : xV} {b : Nat} (h : mJ m) (e : ∀ k, k < 80 → m' (b + k) = m k) : mJ (hrow m' b) := by
  refine h.cg (fun k hk => ?_)
  unfold hrow
  by_cases q : k < 80
  · rw [if_pos q]; exact e k q
  · rw [if_neg q]
    have := h.2.1 (k - 80) (by omega)
    rw [show 80 + (k - 80) = k by omega] at this
    exact this.symm
/-- a change -/
theorem SimA.change {rs : xR} {p : xV} {un : Nat} {sv : Nat → Int32} {m : xV} (h : SimA rs p un sv m) {q a : Int32 × xV} {e : Int32} (hD : Dn q e a (rs 0)) (hk : e = 0 → (∀ j, 80 ≤ j → a.2 j = mRec m un j) ∧ (∃ hn, hn ≤ 9999 ∧ a.2 6 = nI hn) ∧ CB a.2) : q.1 = (mDo e a m).1 ∧ SimA (dRs rs un q) p (dUn un q) sv (mDo e a m).2 := by
  unfold mDo dRs dUn
  rcases hD with ⟨e0, eE, rfl⟩ | ⟨e0, hS, eE, hI⟩
  · rw [if_neg e0]
    refine ⟨rfl, ?_⟩
    show SimA (if isErr e = true then _ else _) p (if isErr e = true then _ else _) sv m
    rw [if_pos eE, if_pos eE]
    refine h.cg (fun r h1 h2 => ?_)
    by_cases h0 : r = 0
    · rw [h0, rup_s]
    · rw [rup_n h0, rup_n h2]
  · obtain ⟨ho, hh6, hcb⟩ := hk e0
    obtain ⟨⟨a1, a2⟩, ⟨b1, b2⟩, c, d, n, f1, f2, f3, f4⟩ := h
    rw [if_pos e0, if_neg (by rw [eE]; decide), if_neg (by rw [eE]; decide)]
    have h80 : ∀ i, i < 4 → m (80 + i) = 0 := a2.2.1
    have hr : ∀ r, r ≠ 0 → r ≠ 2 → rup (rup rs 2 (rs 0)) 0 q.2 r = rs r := fun r h1 h2 => by rw [rup_n h1, rup_n h2]
    have hr2 : rup (rup rs 2 (rs 0)) 0 q.2 2 = rs 0 := by rw [rup_n (by decide), rup_s]
    have hrow_a : ∀ b, 200 ≤ b → hrow a.2 b = hrow (mRec m un) b := fun b hb => hrow_cg (fun k hk2 => ho _ (by omega))
    refine ⟨hS.1, ⟨?_, hI, fun i hi => ?_, hh6, hcb⟩, ⟨?_, ?_⟩, fun k hk2 => ?_, fun s hs => ?_, n, f1, f2, ?_, fun i hi => ?_⟩
    · unfold oRs
      rw [rAll_o b1 (by omega), rup_s]
      exact hS.2
    · rw [ho _ (by omega), mRec_lt b1 (Or.inl (by omega))]; exact h80 i hi
    · unfold oUn; split <;> omega
    · rw [ho _ (by omega), mRec_n b1]; rfl
    · rw [hrow_a _ (by omega)]
      unfold oRs oUn at *
      by_cases h6 : un = 6
      · subst h6
        rw [if_pos rfl] at hk2
        by_cases hk5 : k < 5
        · rw [rAll_6 hk5, hr _ (by omega) (by omega), recOld6 hk5]
          exact c (k + 1) (by omega)
        · obtain rfl : k = 5 := by omega
          rw [rAll_8, hr2]
          have e1 := a1.recNew h80 (kn := 6) (by decide)
          rw [if_pos rfl] at e1
          exact ⟨e1, a2.kept (fun k hk3 => mRec_6 hk3)⟩
      · rw [if_neg h6] at hk2
        by_cases hku : k < un
        · rw [rAll_k (by omega) hku, hr _ (by omega) (by omega), recOld hku (by omega)]
          exact c k hku
        · obtain rfl : k = un := by omega
          rw [rAll_n (by omega), hr2]
          have e1 := a1.recNew h80 (kn := k) b1
          rw [if_neg h6] at e1
          exact ⟨e1, a2.kept (fun j hj => mRec_at hj (by omega))⟩
    · have e1 : a.2 (860 + s) = m (860 + s) := by rw [ho _ (by omega), mRec_lt b1 (by omega)]
      unfold oRs
      rw [e1, rAll_o b1 (by omega), hr _ (by omega) (by omega), hrow_a _ (by omega), recSlot b1 hs]
      exact d s hs
    · rw [ho _ (by omega), mRec_lt b1 (by omega)]; exact f3
    · rw [ho _ (by omega), mRec_lt b1 (by omega)]; exact f4 i hi
/-! what the model's errors look at -/
theorem cg_tide {a b : xV} (e : ∀ j, j < 84 → a j = b j) (t : Int32) : cTide a t = cTide b t := by unfold cTide; rw [e 1 (by omega)]
theorem cg_floats {a b : xV} (e : ∀ j, j < 84 → a j = b j) (d t : Int32) : cFloats a d t = cFloats b d t := by unfold cFloats; rw [cg_tide e, e 2 (by omega), e 0 (by omega)]
theorem cg_height {a b : xV} (e : ∀ j, j < 84 → a j = b j) (d t : Int32) : cHeight a d t = cHeight b d t := by unfold cHeight; rw [cg_tide e]
theorem cg_draught {a b : xV} (e : ∀ j, j < 84 → a j = b j) {p : Nat} (hp : p < 6) : cDraught a p = cDraught b p := by
  unfold cDraught cUnits
  rw [e (tz p 0) (by simp only [tz]; omega), e (tz p 1) (by simp only [tz]; omega), e (tz p 2) (by simp only [tz]; omega), e (tz p 3) (by simp only [tz]; omega)]
theorem cg_conn {a b : xV} (e : ∀ j, j < 84 → a j = b j) : cConnN a = cConnN b := by
  unfold cConnN
  rw [e (hz 0 2) (by decide), e (hz 1 2) (by decide), e (hz 2 2) (by decide), e (hz 3 2) (by decide)]
theorem cg_kCon {a b : xV} (e : ∀ j, j < 84 → a j = b j) {i : Nat} (hi : i < 4) : kCon a i = kCon b i := by
  unfold kCon
  rw [e 13 (by omega), e (hz i 3) (by simp only [hz]; omega), e (hz i 2) (by simp only [hz]; omega), e (hz i 0) (by simp only [hz]; omega), e 6 (by omega), cg_draught e (by decide), cg_height e]
theorem cg_kFlu {a b : xV} (e : ∀ j, j < 84 → a j = b j) {i : Nat} (hi : i < 4) : kFlu a i = kFlu b i := by
  unfold kFlu
  rw [e (hz i 2) (by simp only [hz]; omega), e (hz i 1) (by simp only [hz]; omega)]
theorem cg_eArr {x y : xV} (e : ∀ j, j < 84 → x j = y j) (a b c d : Int32) : eArr x a b c d = eArr y a b c d := by unfold eArr; rw [e 12 (by omega)]
theorem cg_eBer {x y : xV} (e : ∀ j, j < 84 → x j = y j) : eBer x = eBer y := by unfold eBer; rw [e 12 (by omega), e 13 (by omega), e 6 (by omega), cg_draught e (by decide), cg_floats e]
theorem cg_eLea {x y : xV} (e : ∀ j, j < 84 → x j = y j) : eLea x = eLea y := by unfold eLea; rw [e 13 (by omega), e 6 (by omega), cg_draught e (by decide), cg_floats e, cg_conn e]
theorem cg_eCon {x y : xV} (e : ∀ j, j < 84 → x j = y j) (h g : Int32) : eCon x h g = eCon y h g := by
  unfold eCon
  by_cases c : isG h = false ∨ isG g = false
  · rw [if_pos c, if_pos c]
  · rw [if_neg c, if_neg c, cg_kCon e (isG_tn (by simpa using fun q => c (Or.inl q)))]
theorem cg_eDis {x y : xV} (e : ∀ j, j < 84 → x j = y j) (h : Int32) : eDis x h = eDis y h := by
  unfold eDis
  by_cases c : isG h = false
  · rw [if_pos c, if_pos c]
  · have := isG_tn (by simpa using c)
    rw [if_neg c, if_neg c, e _ (by simp only [hz, tn] at *; omega)]
theorem cg_eFlu {x y : xV} (e : ∀ j, j < 84 → x j = y j) (h : Int32) : eFlu x h = eFlu y h := by
  unfold eFlu
  by_cases c : isG h = false
  · rw [if_pos c, if_pos c]
  · rw [if_neg c, if_neg c, cg_kFlu e (isG_tn (by simpa using c))]
theorem cg_eMen {x y : xV} (e : ∀ j, j < 84 → x j = y j) (h : Int32) : eMen x h = eMen y h := by
  unfold eMen
  by_cases c : isG h = false
  · rw [if_pos c, if_pos c]
  · have := isG_tn (by simpa using c)
    rw [if_neg c, if_neg c, e _ (by simp only [hz, tn] at *; omega)]
theorem cg_eBoo {x y : xV} (e : ∀ j, j < 84 → x j = y j) (b : Int32) : eBoo x b = eBoo y b := by unfold eBoo; rw [e 7 (by omega)]
theorem cg_eDra {x y : xV} (e : ∀ j, j < 84 → x j = y j) (g u : Int32) : eDra x g u = eDra y g u := by
  unfold eDra
  by_cases c : isG g = false
  · rw [if_pos c, if_pos c]
  · have := isG_tn (by simpa using c)
    rw [if_neg c, if_neg c, e _ (by simp only [tn] at *; omega)]
theorem cg_ePas {x y : xV} (e : ∀ j, j < 84 → x j = y j) (n : Int32) : ePas x n = ePas y n := by unfold ePas; rw [e 6 (by omega)]
