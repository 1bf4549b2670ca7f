/-! the pad's reading: exact; n the length, a where the reading stands -/
def ch (p : xV) (n a : Nat) : Int32 := if a < n then p a else 0
theorem upd_id {f : xV} {k : Nat} {v : Int32} (h : f k = v) : f = upd f k v := by
  funext j
  by_cases e : j = k
  · rw [e, upd_s, h]
  · rw [upd_n e]
theorem upd_upd {f : xV} {k : Nat} {v w : Int32} : upd (upd f k v) k w = upd f k w := by
  funext j
  by_cases e : j = k
  · rw [e, upd_s, upd_s]
  · rw [upd_n e, upd_n e, upd_n e]
theorem ch_up {p : xV} {n a j : Nat} {v : Int32} (hn : n ≤ 60) (hj : 60 ≤ j) : ch (upd p j v) n a = ch p n a := by
  unfold ch
  by_cases h : a < n
  · rw [if_pos h, if_pos h, upd_n (by omega)]
  · rw [if_neg h, if_neg h]
theorem ch_lt {p : xV} {n a : Nat} (h : ¬ ch p n a = 0) : a < n := by
  unfold ch at h
  by_cases q : a < n
  · exact q
  · rw [if_neg q] at h; exact absurd rfl h
theorem ch97 {p : xV} {n a i : Nat} (hi : i < 4) (h : ch p n a - 97 = nI i) : a < n := ch_lt (p := p) (fun e => by
  rw [e] at h
  rcases (show i = 0 ∨ i = 1 ∨ i = 2 ∨ i = 3 by omega) with rfl | rfl | rfl | rfl <;> exact absurd h (by decide))
theorem ch_c {p : xV} {n a : Nat} {v : Int32} (h : ch p n a = v) (hv : ¬ v = 0) : a < n := ch_lt (p := p) (fun e => hv (h.symm.trans e))
theorem chG {p : xV} {n a : Nat} (h : isG (ch p n a - 48) = true) : a < n := ch_lt (p := p) (fun e => by rw [e] at h; exact absurd h (by decide))
theorem chG7 {p : xV} {n a : Nat} (h : isG (ch p n a - 97) = true) : a < n := ch_lt (p := p) (fun e => by rw [e] at h; exact absurd h (by decide))
/-- where the reading stands and how long the text is -/
def pat (p : xV) (n a : Nat) : Prop := p 60 = nI n ∧ p 61 = nI a ∧ n ≤ 60 ∧ a ≤ n
def rNum (p : xV) (n : Nat) (most : Int32) : Nat → Nat → Int32 → Int32 × Nat
  | 0, a, num => (num, a)
  | d + 1, a, num =>
    if ch p n a - 48 < 0 ∨ 9 < ch p n a - 48 then (num, a)
    else if 10 * num + (ch p n a - 48) = 0 ∨ most < 10 * num + (ch p n a - 48) then (0, a)
    else rNum p n most d (a + 1) (10 * num + (ch p n a - 48))
def pUn (n : Nat) : Nat → Nat → Nat → xV → Bool → Bool × Nat × xV
  | 0, _, a, p, any => (any, a, p)
  | d + 1, i, a, p, any =>
    if ch p n a - 97 = nI i then
      let p1 := upd (upd p (66 + i) 0) 61 (nI (a + 1))
      let q := rNum p1 n 400 (n - (a + 1)) (a + 1) 0
      let p3 := upd (upd p1 61 (nI q.2)) (66 + i) q.1
      if q.1 = 0 then (false, q.2, p3) else pUn n d (i + 1) q.2 p3 true
    else pUn n d (i + 1) a (upd p (66 + i) 0) any
def pHo (p : xV) (n a : Nat) : Bool × Nat × xV :=
  let c := ch p n a
  let p1 := upd p 62 c
  if ¬ c = 61 ∧ ¬ c = 45 ∧ ¬ c = 126 then (false, a, p1)
  else
    let p2 := upd p1 61 (nI (a + 1))
    if ¬ c = 61 then (true, a + 1, p2)
    else
      let g := ch p2 n (a + 1) - 97
      let p3 := upd p2 64 g
      if isG g = true then (true, a + 2, upd p3 61 (nI (a + 2))) else (false, a + 1, p3)
def pOrd (p : xV) (n a : Nat) : Bool × Nat × xV :=
  let c := ch p n a
  let p1 := upd p 62 c
  if c = 43 then pUn n 4 0 (a + 1) (upd p1 61 (nI (a + 1))) false
  else if c = 46 then
    let p2 := upd p1 61 (nI (a + 1))
    let q := rNum p2 n 48 (n - (a + 1)) (a + 1) 0
    (decide (0 < q.1), q.2, upd (upd p2 61 (nI q.2)) 65 q.1)
  else
    let p2 := upd p1 63 (c - 48)
    if isG (c - 48) = true then pHo (upd p2 61 (nI (a + 1))) n (a + 1) else (false, a, p2)
def pFault (n : Nat) : Nat → Nat → xV → Int32 × xV
  | 0, _, p => (nI n, p)
  | d + 1, a, p =>
    let q := pOrd p n a
    if q.1 = false then (nI q.2.1, q.2.2)
    else if n ≤ q.2.1 then (-100006, q.2.2)
    else if ch q.2.2 n q.2.1 = 59 then pFault n d (q.2.1 + 1) (upd q.2.2 61 (nI (q.2.1 + 1)))
    else (nI q.2.1, q.2.2)
theorem rNum_le {p : xV} {n : Nat} {most : Int32} : ∀ (d a : Nat) (num : Int32), a + d ≤ n → a ≤ (rNum p n most d a num).2 ∧ (rNum p n most d a num).2 ≤ n := by
  intro d
  induction d with
  | zero => intro a num h; exact ⟨Nat.le_refl _, by show a ≤ n; omega⟩
  | succ d ih =>
    intro a num h
    rw [rNum]
    split
    · exact ⟨Nat.le_refl _, by show a ≤ n; omega⟩
    split
    · exact ⟨Nat.le_refl _, by show a ≤ n; omega⟩
    · have := ih (a + 1) (10 * num + (ch p n a - 48)) (by omega)
      exact ⟨by omega, this.2⟩
theorem pat_up {p : xV} {n a j : Nat} {v : Int32} (h : pat p n a) (h0 : j ≠ 60) (h1 : j ≠ 61) : pat (upd p j v) n a := ⟨by rw [upd_n h0.symm]; exact h.1, by rw [upd_n h1.symm]; exact h.2.1, h.2.2⟩
theorem pat_at {p : xV} {n a b : Nat} (h : pat p n a) (hb : b ≤ n) : pat (upd p 61 (nI b)) n b := ⟨by rw [upd_n (by decide)]; exact h.1, upd_s, h.2.2.1, hb⟩
theorem xsub_lt {x y : Int32} (h : x - y = 0 → False) : ¬ x = y := fun e => h (by rw [e, Int32.sub_self])
theorem pUn_pat {n : Nat} : ∀ (d i a : Nat) (p : xV) (any : Bool), i + d ≤ 4 → pat p n a → pat (pUn n d i a p any).2.2 n (pUn n d i a p any).2.1 ∧ a ≤ (pUn n d i a p any).2.1 := by
  intro d
  induction d with
  | zero => intro i a p any _ h; exact ⟨h, Nat.le_refl _⟩
  | succ d ih =>
    intro i a p any hi h
    rw [pUn]
    split
    · rename_i hc
      have hlt : a < n := ch_lt (p := p) (fun e => by
        rw [e] at hc
        rcases (show i = 0 ∨ i = 1 ∨ i = 2 ∨ i = 3 by omega) with rfl | rfl | rfl | rfl <;> exact absurd hc (by decide))
      have h1 : pat (upd (upd p (66 + i) 0) 61 (nI (a + 1))) n (a + 1) := pat_at (pat_up h (by omega) (by omega)) (by omega)
      have hq := rNum_le (p := upd (upd p (66 + i) 0) 61 (nI (a + 1))) (n := n) (most := 400) (n - (a + 1)) (a + 1) 0 (by omega)
      have h3 : pat (upd (upd (upd (upd p (66 + i) 0) 61 (nI (a + 1))) 61 (nI (rNum (upd (upd p (66 + i) 0) 61 (nI (a + 1))) n 400 (n - (a + 1)) (a + 1) 0).2)) (66 + i) (rNum (upd (upd p (66 + i) 0) 61 (nI (a + 1))) n 400 (n - (a + 1)) (a + 1) 0).1) n (rNum (upd (upd p (66 + i) 0) 61 (nI (a + 1))) n 400 (n - (a + 1)) (a + 1) 0).2 := pat_up (pat_at h1 hq.2) (by omega) (by omega)
      dsimp only
      split
      · exact ⟨h3, Nat.le_trans (Nat.le_succ a) hq.1⟩
      · have := ih (i + 1) _ _ true (by omega) h3
        exact ⟨this.1, Nat.le_trans (Nat.le_trans (Nat.le_succ a) hq.1) this.2⟩
    · exact ih (i + 1) a _ any (by omega) (pat_up h (by omega) (by omega))
theorem pHo_pat {p : xV} {n a : Nat} (h : pat p n a) : pat (pHo p n a).2.2 n (pHo p n a).2.1 ∧ a ≤ (pHo p n a).2.1 := by
  unfold pHo
  have h1 : pat (upd p 62 (ch p n a)) n a := pat_up h (by decide) (by decide)
  dsimp only
  split
  · exact ⟨h1, Nat.le_refl _⟩
  · rename_i hc
    have hlt : a < n := ch_lt (p := p) (fun e => hc (by rw [e]; decide))
    have h2 : pat (upd (upd p 62 (ch p n a)) 61 (nI (a + 1))) n (a + 1) := pat_at h1 (by omega)
    split
    · exact ⟨h2, by show a ≤ a + 1; omega⟩
    · split
      · rename_i hg
        have hlt2 : a + 1 < n := ch_lt (p := upd (upd p 62 (ch p n a)) 61 (nI (a + 1))) (fun e => by rw [e] at hg; exact absurd hg (by decide))
        exact ⟨pat_at (pat_up h2 (by decide) (by decide)) (by omega), by show a ≤ a + 2; omega⟩
      · exact ⟨pat_up h2 (by decide) (by decide), by show a ≤ a + 1; omega⟩
theorem pOrd_pat {p : xV} {n a : Nat} (h : pat p n a) : pat (pOrd p n a).2.2 n (pOrd p n a).2.1 ∧ a ≤ (pOrd p n a).2.1 := by
  unfold pOrd
  have h1 : pat (upd p 62 (ch p n a)) n a := pat_up h (by decide) (by decide)
  dsimp only
  split
  · rename_i hc
    have hlt : a < n := ch_lt (p := p) (fun e => by rw [e] at hc; exact absurd hc (by decide))
    have := pUn_pat (n := n) 4 0 (a + 1) (upd (upd p 62 (ch p n a)) 61 (nI (a + 1))) false (by omega) (pat_at h1 (by omega))
    exact ⟨this.1, by omega⟩
  split
  · rename_i hc
    have hlt : a < n := ch_lt (p := p) (fun e => by rw [e] at hc; exact absurd hc (by decide))
    have h2 : pat (upd (upd p 62 (ch p n a)) 61 (nI (a + 1))) n (a + 1) := pat_at h1 (by omega)
    have hq := rNum_le (p := upd (upd p 62 (ch p n a)) 61 (nI (a + 1))) (n := n) (most := 48) (n - (a + 1)) (a + 1) 0 (by omega)
    exact ⟨pat_up (pat_at h2 hq.2) (by decide) (by decide), by show a ≤ (rNum _ _ _ _ _ _).2; omega⟩
  split
  · rename_i hg
    have hlt : a < n := ch_lt (p := p) (fun e => by rw [e] at hg; exact absurd hg (by decide))
    have := pHo_pat (pat_at (pat_up (v := ch p n a - 48) h1 (show 63 ≠ 60 by decide) (by decide)) (show a + 1 ≤ n by omega))
    exact ⟨this.1, by omega⟩
  · exact ⟨pat_up h1 (by decide) (by decide), Nat.le_refl _⟩
theorem lgc_eq {x y : Int64} : lg_cmp x y = 0 ↔ x = y := by
  unfold lg_cmp
  by_cases h1 : y < x
  · rw [if_pos h1]
    exact ⟨fun h => absurd h (by decide), fun h => absurd (h ▸ h1) (Int64.lt_irrefl)⟩
  · rw [if_neg h1]
    by_cases h2 : x = y
    · rw [if_pos h2]; exact ⟨fun _ => h2, fun _ => rfl⟩
    · rw [if_neg h2]; exact ⟨fun h => absurd h (by decide), fun h => absurd h h2⟩
theorem lgc_lt {x y : Int64} : lg_cmp x y < 0 ↔ x < y := by
  unfold lg_cmp
  by_cases h1 : y < x
  · rw [if_pos h1]
    exact ⟨fun h => absurd h (by decide), fun h => absurd (Int64.lt_trans h h1) Int64.lt_irrefl⟩
  · rw [if_neg h1]
    by_cases h2 : x = y
    · rw [if_pos h2]; exact ⟨fun h => absurd h (by decide), fun h => absurd (h2 ▸ h) Int64.lt_irrefl⟩
    · rw [if_neg h2]
      refine ⟨fun _ => ?_, fun _ => by decide⟩
      have h3 : x ≤ y := Int64.not_lt.mp h1
      exact Int64.not_le.mp (fun q => h2 (Int64.le_antisymm h3 q))
theorem lgc_le {x y : Int64} : lg_cmp x y ≤ 0 ↔ x ≤ y := by
  unfold lg_cmp
  by_cases h1 : y < x
  · rw [if_pos h1]
    exact ⟨fun h => absurd h (by decide), fun h => absurd h1 (Int64.not_lt.mpr h)⟩
  · rw [if_neg h1]
    refine ⟨fun _ => Int64.not_lt.mp h1, fun _ => ?_⟩
    by_cases h2 : x = y
    · rw [if_pos h2]; decide
    · rw [if_neg h2]; decide
/-- how many characters a number holds, by eight steps -/
def cIn : Nat → Int64 → Nat → Nat
  | 0, _, m => m
  | d + 1, x, m => if x = 0 then m else if (x &&& 255) < 33 ∨ 126 < (x &&& 255) then 0 else cIn d (x.toUInt64 >>> ((8 : Int32).toInt64.toUInt64 &&& Int64.toUInt64 63)).toInt64 (m + 1)
theorem cIn_le : ∀ (d : Nat) (x : Int64) (m : Nat), cIn d x m ≤ m + d := by
  intro d
  induction d with
  | zero => intro x m; exact Nat.le_refl _
  | succ d ih =>
    intro x m
    rw [cIn]
    split
    · omega
    split
    · omega
    · have := ih (x.toUInt64 >>> ((8 : Int32).toInt64.toUInt64 &&& Int64.toUInt64 63)).toInt64 (m + 1)
      omega
def chv (c : Int64) (k : Nat) : Int32 := ((((c.toUInt64 >>> ((8 * nI k).toInt64.toUInt64 &&& Int64.toUInt64 63)).toInt64 &&& 255).toInt32).toUInt32 % 65536).toInt32
def pWr (c : Int64) (L : Nat) (p : xV) : Nat → xV
  | 0 => p
  | k + 1 => upd (pWr c L p k) (L - 1 - k) (chv c k)
def gPut (p : xV) (n : Nat) (c : Int64) : Int32 × xV :=
  if cIn 8 c 0 = 0 then (-100002, p)
  else if 60 < n + cIn 8 c 0 then (-100004, p)
  else (nI (n + cIn 8 c 0), pWr c (n + cIn 8 c 0) (upd p 60 (nI (n + cIn 8 c 0))) (cIn 8 c 0))
theorem pWr_hi {c : Int64} {L : Nat} {p : xV} {k j : Nat} (h : L ≤ j) : pWr c L p k j = p j ∨ L = 0 := by
  by_cases hL : L = 0
  · exact Or.inr hL
  left
  induction k with
  | zero => rfl
  | succ k ih => rw [pWr, upd_n (by omega)]; exact ih
