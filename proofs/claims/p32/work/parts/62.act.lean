/-! what an act of the law does -/
def aQ (z : xV) (x y : Int32) : Int32 × xV :=
  if (lw x (18 : Int32)) = 0 ∨ (lw x (18 : Int32)) = 1 then (gArrive z (lw (y >>> ((5 : Int32) &&& 31)) (300 : Int32)) ((lw (y >>> ((2 : Int32) &&& 31)) (2 : Int32)) * (lw (y >>> ((7 : Int32) &&& 31)) (150 : Int32))) (0 : Int32) (0 : Int32)) else
  if (lw x (18 : Int32)) = 2 ∨ (lw x (18 : Int32)) = 3 then (gBerth z) else
  if (lw x (18 : Int32)) = 4 ∨ (lw x (18 : Int32)) = 5 ∨ (lw x (18 : Int32)) = 6 then (gConnect z (lw y (3 : Int32)) (if (y >>> ((9 : Int32) &&& 31)) &&& (3 : Int32) ≤ 0 then (lw (y >>> ((3 : Int32) &&& 31)) (3 : Int32)) else (lw (y >>> ((3 : Int32) &&& 31)) (2 : Int32)))) else
  if (lw x (18 : Int32)) = 7 then (gDisconnect z (lw y (3 : Int32))) else
  if (lw x (18 : Int32)) = 8 then (if ¬ (y >>> ((9 : Int32) &&& 31)) &&& (1 : Int32) = 0 then gMend z (lw y (3 : Int32)) else gFlush z (lw y (3 : Int32))) else
  if (lw x (18 : Int32)) = 9 then (gLeave z) else
  if (lw x (18 : Int32)) = 10 ∨ (lw x (18 : Int32)) = 11 then (gBoom z (if y &&& (3 : Int32) ≤ 0 then 0 else 1)) else
  if (lw x (18 : Int32)) = 12 then (gDraw z (lw (y >>> ((3 : Int32) &&& 31)) (3 : Int32)) ((1 : Int32) + (lw (y >>> ((5 : Int32) &&& 31)) (40 : Int32)))) else
  if (lw x (18 : Int32)) = 13 then (gSet z (lw y (4 : Int32)) (if ¬ (lw y (4 : Int32)) = 0 then (if ¬ (lw y (4 : Int32)) = 1 then (if ¬ (lw y (4 : Int32)) = 2 then (1 : Int32) + (lw (y >>> ((5 : Int32) &&& 31)) (40 : Int32)) else (lw (y >>> ((5 : Int32) &&& 31)) (12 : Int32))) else (lw (y >>> ((5 : Int32) &&& 31)) (41 : Int32))) else (80 : Int32) + (lw (y >>> ((5 : Int32) &&& 31)) (50 : Int32)))) else
  if (lw x (18 : Int32)) = 14 then (gReach z (lw y (3 : Int32)) ((20 : Int32) + (lw (y >>> ((5 : Int32) &&& 31)) (101 : Int32)))) else
  (gPass z ((1 : Int32) + (lw y (10 : Int32))))
def aF (z : xV) (x y : Int32) (f : Nat → Int32) : Nat → Int32 :=
  if (lw x (18 : Int32)) = 0 ∨ (lw x (18 : Int32)) = 1 then (if (gArrive z (lw (y >>> ((5 : Int32) &&& 31)) (300 : Int32)) ((lw (y >>> ((2 : Int32) &&& 31)) (2 : Int32)) * (lw (y >>> ((7 : Int32) &&& 31)) (150 : Int32))) (0 : Int32) (0 : Int32)).1 ≤ 0 then f else upd (upd f 0 (f 0 + (lw (y >>> ((5 : Int32) &&& 31)) (300 : Int32)))) 1 (f 1 + ((lw (y >>> ((2 : Int32) &&& 31)) (2 : Int32)) * (lw (y >>> ((7 : Int32) &&& 31)) (150 : Int32))))) else
  if (lw x (18 : Int32)) = 9 then (if (gLeave z).1 < 0 then f else upd (upd (upd (upd f 4 (f 4 + cTanker z 0 0)) 5 (f 5 + cTanker z 0 1)) 6 (f 6 + cTanker z 0 2)) 7 (f 7 + cTanker z 0 3)) else
  if (lw x (18 : Int32)) = 12 then (upd f (8 + tn (lw (y >>> ((3 : Int32) &&& 31)) (3 : Int32))) (f (8 + tn (lw (y >>> ((3 : Int32) &&& 31)) (3 : Int32))) + (if (gDraw z (lw (y >>> ((3 : Int32) &&& 31)) (3 : Int32)) ((1 : Int32) + (lw (y >>> ((5 : Int32) &&& 31)) (40 : Int32)))).1 < 0 then 0 else ((1 : Int32) + (lw (y >>> ((5 : Int32) &&& 31)) (40 : Int32)))))) else f
theorem aQ_0 {z : xV} {x y : Int32} (h : (lw x (18 : Int32)) = 0) : aQ z x y = (gArrive z (lw (y >>> ((5 : Int32) &&& 31)) (300 : Int32)) ((lw (y >>> ((2 : Int32) &&& 31)) (2 : Int32)) * (lw (y >>> ((7 : Int32) &&& 31)) (150 : Int32))) (0 : Int32) (0 : Int32)) := by
  unfold aQ
  rw [if_pos (by rw [h] <;> decide)]
theorem aF_0 {z : xV} {x y : Int32} {f : Nat → Int32} (h : (lw x (18 : Int32)) = 0) : aF z x y f = (if (gArrive z (lw (y >>> ((5 : Int32) &&& 31)) (300 : Int32)) ((lw (y >>> ((2 : Int32) &&& 31)) (2 : Int32)) * (lw (y >>> ((7 : Int32) &&& 31)) (150 : Int32))) (0 : Int32) (0 : Int32)).1 ≤ 0 then f else upd (upd f 0 (f 0 + (lw (y >>> ((5 : Int32) &&& 31)) (300 : Int32)))) 1 (f 1 + ((lw (y >>> ((2 : Int32) &&& 31)) (2 : Int32)) * (lw (y >>> ((7 : Int32) &&& 31)) (150 : Int32))))) := by
  unfold aF
  rw [if_pos (by rw [h] <;> decide)]
theorem aQ_1 {z : xV} {x y : Int32} (h : (lw x (18 : Int32)) = 1) : aQ z x y = (gArrive z (lw (y >>> ((5 : Int32) &&& 31)) (300 : Int32)) ((lw (y >>> ((2 : Int32) &&& 31)) (2 : Int32)) * (lw (y >>> ((7 : Int32) &&& 31)) (150 : Int32))) (0 : Int32) (0 : Int32)) := by
  unfold aQ
  rw [if_pos (by rw [h] <;> decide)]
theorem aF_1 {z : xV} {x y : Int32} {f : Nat → Int32} (h : (lw x (18 : Int32)) = 1) : aF z x y f = (if (gArrive z (lw (y >>> ((5 : Int32) &&& 31)) (300 : Int32)) ((lw (y >>> ((2 : Int32) &&& 31)) (2 : Int32)) * (lw (y >>> ((7 : Int32) &&& 31)) (150 : Int32))) (0 : Int32) (0 : Int32)).1 ≤ 0 then f else upd (upd f 0 (f 0 + (lw (y >>> ((5 : Int32) &&& 31)) (300 : Int32)))) 1 (f 1 + ((lw (y >>> ((2 : Int32) &&& 31)) (2 : Int32)) * (lw (y >>> ((7 : Int32) &&& 31)) (150 : Int32))))) := by
  unfold aF
  rw [if_pos (by rw [h] <;> decide)]
theorem aQ_2 {z : xV} {x y : Int32} (h : (lw x (18 : Int32)) = 2) : aQ z x y = (gBerth z) := by
  unfold aQ
  rw [if_neg (by rw [h] <;> decide), if_pos (by rw [h] <;> decide)]
theorem aF_2 {z : xV} {x y : Int32} {f : Nat → Int32} (h : (lw x (18 : Int32)) = 2) : aF z x y f = f := by
  unfold aF
  rw [if_neg (by rw [h] <;> decide), if_neg (by rw [h] <;> decide), if_neg (by rw [h] <;> decide)]
theorem aQ_3 {z : xV} {x y : Int32} (h : (lw x (18 : Int32)) = 3) : aQ z x y = (gBerth z) := by
  unfold aQ
  rw [if_neg (by rw [h] <;> decide), if_pos (by rw [h] <;> decide)]
theorem aF_3 {z : xV} {x y : Int32} {f : Nat → Int32} (h : (lw x (18 : Int32)) = 3) : aF z x y f = f := by
  unfold aF
  rw [if_neg (by rw [h] <;> decide), if_neg (by rw [h] <;> decide), if_neg (by rw [h] <;> decide)]
theorem aQ_4 {z : xV} {x y : Int32} (h : (lw x (18 : Int32)) = 4) : aQ z x y = (gConnect z (lw y (3 : Int32)) (if (y >>> ((9 : Int32) &&& 31)) &&& (3 : Int32) ≤ 0 then (lw (y >>> ((3 : Int32) &&& 31)) (3 : Int32)) else (lw (y >>> ((3 : Int32) &&& 31)) (2 : Int32)))) := by
  unfold aQ
  rw [if_neg (by rw [h] <;> decide), if_neg (by rw [h] <;> decide), if_pos (by rw [h] <;> decide)]
theorem aF_4 {z : xV} {x y : Int32} {f : Nat → Int32} (h : (lw x (18 : Int32)) = 4) : aF z x y f = f := by
  unfold aF
  rw [if_neg (by rw [h] <;> decide), if_neg (by rw [h] <;> decide), if_neg (by rw [h] <;> decide)]
theorem aQ_5 {z : xV} {x y : Int32} (h : (lw x (18 : Int32)) = 5) : aQ z x y = (gConnect z (lw y (3 : Int32)) (if (y >>> ((9 : Int32) &&& 31)) &&& (3 : Int32) ≤ 0 then (lw (y >>> ((3 : Int32) &&& 31)) (3 : Int32)) else (lw (y >>> ((3 : Int32) &&& 31)) (2 : Int32)))) := by
  unfold aQ
  rw [if_neg (by rw [h] <;> decide), if_neg (by rw [h] <;> decide), if_pos (by rw [h] <;> decide)]
theorem aF_5 {z : xV} {x y : Int32} {f : Nat → Int32} (h : (lw x (18 : Int32)) = 5) : aF z x y f = f := by
  unfold aF
  rw [if_neg (by rw [h] <;> decide), if_neg (by rw [h] <;> decide), if_neg (by rw [h] <;> decide)]
theorem aQ_6 {z : xV} {x y : Int32} (h : (lw x (18 : Int32)) = 6) : aQ z x y = (gConnect z (lw y (3 : Int32)) (if (y >>> ((9 : Int32) &&& 31)) &&& (3 : Int32) ≤ 0 then (lw (y >>> ((3 : Int32) &&& 31)) (3 : Int32)) else (lw (y >>> ((3 : Int32) &&& 31)) (2 : Int32)))) := by
  unfold aQ
  rw [if_neg (by rw [h] <;> decide), if_neg (by rw [h] <;> decide), if_pos (by rw [h] <;> decide)]
theorem aF_6 {z : xV} {x y : Int32} {f : Nat → Int32} (h : (lw x (18 : Int32)) = 6) : aF z x y f = f := by
  unfold aF
  rw [if_neg (by rw [h] <;> decide), if_neg (by rw [h] <;> decide), if_neg (by rw [h] <;> decide)]
theorem aQ_7 {z : xV} {x y : Int32} (h : (lw x (18 : Int32)) = 7) : aQ z x y = (gDisconnect z (lw y (3 : Int32))) := by
  unfold aQ
  rw [if_neg (by rw [h] <;> decide), if_neg (by rw [h] <;> decide), if_neg (by rw [h] <;> decide), if_pos (by rw [h] <;> decide)]
theorem aF_7 {z : xV} {x y : Int32} {f : Nat → Int32} (h : (lw x (18 : Int32)) = 7) : aF z x y f = f := by
  unfold aF
  rw [if_neg (by rw [h] <;> decide), if_neg (by rw [h] <;> decide), if_neg (by rw [h] <;> decide)]
theorem aQ_8 {z : xV} {x y : Int32} (h : (lw x (18 : Int32)) = 8) : aQ z x y = (if ¬ (y >>> ((9 : Int32) &&& 31)) &&& (1 : Int32) = 0 then gMend z (lw y (3 : Int32)) else gFlush z (lw y (3 : Int32))) := by
  unfold aQ
  rw [if_neg (by rw [h] <;> decide), if_neg (by rw [h] <;> decide), if_neg (by rw [h] <;> decide), if_neg (by rw [h] <;> decide), if_pos (by rw [h] <;> decide)]
theorem aF_8 {z : xV} {x y : Int32} {f : Nat → Int32} (h : (lw x (18 : Int32)) = 8) : aF z x y f = f := by
  unfold aF
  rw [if_neg (by rw [h] <;> decide), if_neg (by rw [h] <;> decide), if_neg (by rw [h] <;> decide)]
theorem aQ_9 {z : xV} {x y : Int32} (h : (lw x (18 : Int32)) = 9) : aQ z x y = (gLeave z) := by
  unfold aQ
  rw [if_neg (by rw [h] <;> decide), if_neg (by rw [h] <;> decide), if_neg (by rw [h] <;> decide), if_neg (by rw [h] <;> decide), if_neg (by rw [h] <;> decide), if_pos (by rw [h] <;> decide)]
theorem aF_9 {z : xV} {x y : Int32} {f : Nat → Int32} (h : (lw x (18 : Int32)) = 9) : aF z x y f = (if (gLeave z).1 < 0 then f else upd (upd (upd (upd f 4 (f 4 + cTanker z 0 0)) 5 (f 5 + cTanker z 0 1)) 6 (f 6 + cTanker z 0 2)) 7 (f 7 + cTanker z 0 3)) := by
  unfold aF
  rw [if_neg (by rw [h] <;> decide), if_pos h]
theorem aQ_10 {z : xV} {x y : Int32} (h : (lw x (18 : Int32)) = 10) : aQ z x y = (gBoom z (if y &&& (3 : Int32) ≤ 0 then 0 else 1)) := by
  unfold aQ
  rw [if_neg (by rw [h] <;> decide), if_neg (by rw [h] <;> decide), if_neg (by rw [h] <;> decide), if_neg (by rw [h] <;> decide), if_neg (by rw [h] <;> decide), if_neg (by rw [h] <;> decide), if_pos (by rw [h] <;> decide)]
theorem aF_10 {z : xV} {x y : Int32} {f : Nat → Int32} (h : (lw x (18 : Int32)) = 10) : aF z x y f = f := by
  unfold aF
  rw [if_neg (by rw [h] <;> decide), if_neg (by rw [h] <;> decide), if_neg (by rw [h] <;> decide)]
theorem aQ_11 {z : xV} {x y : Int32} (h : (lw x (18 : Int32)) = 11) : aQ z x y = (gBoom z (if y &&& (3 : Int32) ≤ 0 then 0 else 1)) := by
  unfold aQ
  rw [if_neg (by rw [h] <;> decide), if_neg (by rw [h] <;> decide), if_neg (by rw [h] <;> decide), if_neg (by rw [h] <;> decide), if_neg (by rw [h] <;> decide), if_neg (by rw [h] <;> decide), if_pos (by rw [h] <;> decide)]
theorem aF_11 {z : xV} {x y : Int32} {f : Nat → Int32} (h : (lw x (18 : Int32)) = 11) : aF z x y f = f := by
  unfold aF
  rw [if_neg (by rw [h] <;> decide), if_neg (by rw [h] <;> decide), if_neg (by rw [h] <;> decide)]
theorem aQ_12 {z : xV} {x y : Int32} (h : (lw x (18 : Int32)) = 12) : aQ z x y = (gDraw z (lw (y >>> ((3 : Int32) &&& 31)) (3 : Int32)) ((1 : Int32) + (lw (y >>> ((5 : Int32) &&& 31)) (40 : Int32)))) := by
  unfold aQ
  rw [if_neg (by rw [h] <;> decide), if_neg (by rw [h] <;> decide), if_neg (by rw [h] <;> decide), if_neg (by rw [h] <;> decide), if_neg (by rw [h] <;> decide), if_neg (by rw [h] <;> decide), if_neg (by rw [h] <;> decide), if_pos (by rw [h] <;> decide)]
theorem aF_12 {z : xV} {x y : Int32} {f : Nat → Int32} (h : (lw x (18 : Int32)) = 12) : aF z x y f = (upd f (8 + tn (lw (y >>> ((3 : Int32) &&& 31)) (3 : Int32))) (f (8 + tn (lw (y >>> ((3 : Int32) &&& 31)) (3 : Int32))) + (if (gDraw z (lw (y >>> ((3 : Int32) &&& 31)) (3 : Int32)) ((1 : Int32) + (lw (y >>> ((5 : Int32) &&& 31)) (40 : Int32)))).1 < 0 then 0 else ((1 : Int32) + (lw (y >>> ((5 : Int32) &&& 31)) (40 : Int32)))))) := by
  unfold aF
  rw [if_neg (by rw [h] <;> decide), if_neg (by rw [h] <;> decide), if_pos h]
theorem aQ_13 {z : xV} {x y : Int32} (h : (lw x (18 : Int32)) = 13) : aQ z x y = (gSet z (lw y (4 : Int32)) (if ¬ (lw y (4 : Int32)) = 0 then (if ¬ (lw y (4 : Int32)) = 1 then (if ¬ (lw y (4 : Int32)) = 2 then (1 : Int32) + (lw (y >>> ((5 : Int32) &&& 31)) (40 : Int32)) else (lw (y >>> ((5 : Int32) &&& 31)) (12 : Int32))) else (lw (y >>> ((5 : Int32) &&& 31)) (41 : Int32))) else (80 : Int32) + (lw (y >>> ((5 : Int32) &&& 31)) (50 : Int32)))) := by
  unfold aQ
  rw [if_neg (by rw [h] <;> decide), if_neg (by rw [h] <;> decide), if_neg (by rw [h] <;> decide), if_neg (by rw [h] <;> decide), if_neg (by rw [h] <;> decide), if_neg (by rw [h] <;> decide), if_neg (by rw [h] <;> decide), if_neg (by rw [h] <;> decide), if_pos (by rw [h] <;> decide)]
theorem aF_13 {z : xV} {x y : Int32} {f : Nat → Int32} (h : (lw x (18 : Int32)) = 13) : aF z x y f = f := by
  unfold aF
  rw [if_neg (by rw [h] <;> decide), if_neg (by rw [h] <;> decide), if_neg (by rw [h] <;> decide)]
theorem aQ_14 {z : xV} {x y : Int32} (h : (lw x (18 : Int32)) = 14) : aQ z x y = (gReach z (lw y (3 : Int32)) ((20 : Int32) + (lw (y >>> ((5 : Int32) &&& 31)) (101 : Int32)))) := by
  unfold aQ
  rw [if_neg (by rw [h] <;> decide), if_neg (by rw [h] <;> decide), if_neg (by rw [h] <;> decide), if_neg (by rw [h] <;> decide), if_neg (by rw [h] <;> decide), if_neg (by rw [h] <;> decide), if_neg (by rw [h] <;> decide), if_neg (by rw [h] <;> decide), if_neg (by rw [h] <;> decide), if_pos (by rw [h] <;> decide)]
theorem aF_14 {z : xV} {x y : Int32} {f : Nat → Int32} (h : (lw x (18 : Int32)) = 14) : aF z x y f = f := by
  unfold aF
  rw [if_neg (by rw [h] <;> decide), if_neg (by rw [h] <;> decide), if_neg (by rw [h] <;> decide)]
theorem aQ_d {z : xV} {x y : Int32} (h0 : ¬ (lw x (18 : Int32)) = 0) (h1 : ¬ (lw x (18 : Int32)) = 1) (h2 : ¬ (lw x (18 : Int32)) = 2) (h3 : ¬ (lw x (18 : Int32)) = 3) (h4 : ¬ (lw x (18 : Int32)) = 4) (h5 : ¬ (lw x (18 : Int32)) = 5) (h6 : ¬ (lw x (18 : Int32)) = 6) (h7 : ¬ (lw x (18 : Int32)) = 7) (h8 : ¬ (lw x (18 : Int32)) = 8) (h9 : ¬ (lw x (18 : Int32)) = 9) (h10 : ¬ (lw x (18 : Int32)) = 10) (h11 : ¬ (lw x (18 : Int32)) = 11) (h12 : ¬ (lw x (18 : Int32)) = 12) (h13 : ¬ (lw x (18 : Int32)) = 13) (h14 : ¬ (lw x (18 : Int32)) = 14) : aQ z x y = (gPass z ((1 : Int32) + (lw y (10 : Int32)))) := by
  unfold aQ
  rw [if_neg (fun q => q.elim h0 h1), if_neg (fun q => q.elim h2 h3), if_neg (fun q => q.elim h4 (fun q => q.elim h5 h6)), if_neg (fun q => h7 q), if_neg (fun q => h8 q), if_neg (fun q => h9 q), if_neg (fun q => q.elim h10 h11), if_neg (fun q => h12 q), if_neg (fun q => h13 q), if_neg (fun q => h14 q)]
theorem aF_d {z : xV} {x y : Int32} {f : Nat → Int32} (h0 : ¬ (lw x (18 : Int32)) = 0) (h1 : ¬ (lw x (18 : Int32)) = 1) (h2 : ¬ (lw x (18 : Int32)) = 2) (h3 : ¬ (lw x (18 : Int32)) = 3) (h4 : ¬ (lw x (18 : Int32)) = 4) (h5 : ¬ (lw x (18 : Int32)) = 5) (h6 : ¬ (lw x (18 : Int32)) = 6) (h7 : ¬ (lw x (18 : Int32)) = 7) (h8 : ¬ (lw x (18 : Int32)) = 8) (h9 : ¬ (lw x (18 : Int32)) = 9) (h10 : ¬ (lw x (18 : Int32)) = 10) (h11 : ¬ (lw x (18 : Int32)) = 11) (h12 : ¬ (lw x (18 : Int32)) = 12) (h13 : ¬ (lw x (18 : Int32)) = 13) (h14 : ¬ (lw x (18 : Int32)) = 14) : aF z x y f = f := by
  unfold aF
  rw [if_neg (fun q => q.elim h0 h1), if_neg h9, if_neg h12]
theorem lw_rg (v : Int32) {n : Nat} (h0 : 0 < n) (hn : n < 2147483648) : ∃ k, k < n ∧ lw v (nI n) = nI k := by
  have hb : 0 ≤ (v &&& 2147483647).toInt := by
    have e : (v &&& 2147483647).toInt = ((v &&& 2147483647).toBitVec).toInt := rfl
    rw [e, BitVec.toInt_eq_toNat_of_msb]
    · exact Int.natCast_nonneg _
    · show (v.toBitVec &&& 2147483647#32).msb = false
      rw [BitVec.msb_and, show (2147483647#32).msb = false from rfl, Bool.and_false]
  obtain ⟨m, hm⟩ : ∃ m : Nat, v &&& 2147483647 = nI m ∧ m < 2147483648 := by
    refine ⟨(v &&& 2147483647).toInt.toNat, ?_, ?_⟩
    · apply Int32.toInt_inj.mp
      have := Int32.toInt_lt (v &&& 2147483647)
      rw [nI_toInt (by omega)]
      omega
    · have := Int32.toInt_lt (v &&& 2147483647)
      omega
  refine ⟨m % n, Nat.mod_lt _ h0, ?_⟩
  unfold lw
  rw [hm.1, pk_div (by omega) h0 (by omega), pk_mul, pk_sub (Nat.div_mul_le_self m n)]
  have hmod := Nat.div_add_mod m n
  rw [Nat.mul_comm] at hmod
  congr 1
  omega
set_option maxHeartbeats 40000000 in
set_option maxRecDepth 100000 in
theorem c_L_act (l : Launch) (U : xU) {Kp : Nat → Prop} {μ0 : xH} {a am : Nat} {z : xV} {un : Nat} {t s0 s1 : xV} {v0 v1 : Int32} {f : Nat → Int32} (hR : LR U Kp μ0 a z un t s0 s1 v0 v1) (hk : Kp am) (hm : μ0 am = some (.inl (uC U 0, 12, .inl f))) (hal : ∀ q, Kp q → μ0 q ≠ none) (x y : Int32) : Ct l U yL_act cL_act 12 (some .int) ({ frames := 7, cells := 1, slots := 4, locals := 153 } : Room) [.ref a, .int x, .int y, .ref am] μ0 (fun r μ' => r = some (.int (aQ z x y).1) ∧ LR U Kp μ' a (aQ z x y).2 (dUn un (aQ z x y)) (if isErr (aQ z x y).1 = true then t else z) s0 s1 v0 v1 ∧ μ' am = some (.inl (uC U 0, 12, .inl (aF z x y f))) ∧ ∀ q, Kp q → q ≠ am → μ' q = μ0 q) := by
  refine Ct.of [some (.ref a), some (.int x), some (.int y), some (.ref am), none, none, none, none, none, none, none, none] (by decide +kernel) rfl (Nat.le_of_ble_eq_true rfl) (fun K Q X hnm hQ => ?_)
  obtain ⟨μ, hμ, hR, hm, hF⟩ : ∃ μ : xH, μ0 = μ ∧ LR U Kp μ a z un t s0 s1 v0 v1 ∧ μ am = some (.inl (uC U 0, 12, .inl f)) ∧ (∀ q, Kp q → q ≠ am → μ q = μ0 q) := ⟨μ0, rfl, hR, hm, fun _ _ _ => rfl⟩
  refine aw_mu hμ ?_
  refine aw_iload_n X dL_act_0 rfl ?_
  refine aw_iconst X (3) dL_act_1 rfl ?_
  refine aw_lSF (As := [.int _, .int _]) X (c_L_low (kl K) U _ _ _ (by decide)) s_L_35 k_L_low (by decide) ⟨rfl, rfl⟩ (by exact ⟨Nat.le_of_ble_eq_true rfl, Nat.le_of_ble_eq_true rfl⟩) rfl (by exact Nat.le_of_ble_eq_true rfl) dL_act_2 ?_
  refine aw_istore X dL_act_5 rfl (by decide) ?_
  refine aw_iload_n X dL_act_7 rfl ?_
  refine aw_iconst X (3) dL_act_8 rfl ?_
  refine aw_ishr X dL_act_9 ?_
  refine aw_iconst X (3) dL_act_10 rfl ?_
  refine aw_lSF (As := [.int _, .int _]) X (c_L_low (kl K) U _ _ _ (by decide)) s_L_35 k_L_low (by decide) ⟨rfl, rfl⟩ (by exact ⟨Nat.le_of_ble_eq_true rfl, Nat.le_of_ble_eq_true rfl⟩) rfl (by exact Nat.le_of_ble_eq_true rfl) dL_act_11 ?_
  refine aw_istore X dL_act_14 rfl (by decide) ?_
  refine aw_iload_n X dL_act_16 rfl ?_
  refine aw_bipush X (18) dL_act_17 rfl ?_
  refine aw_lSF (As := [.int _, .int _]) X (c_L_low (kl K) U _ _ _ (by decide)) s_L_35 k_L_low (by decide) ⟨rfl, rfl⟩ (by exact ⟨Nat.le_of_ble_eq_true rfl, Nat.le_of_ble_eq_true rfl⟩) rfl (by exact Nat.le_of_ble_eq_true rfl) dL_act_19 ?_
  refine aw_istore X dL_act_22 rfl (by decide) ?_
  refine aw_iconst X (0) dL_act_24 rfl ?_
  refine aw_istore X dL_act_25 rfl (by decide) ?_
  refine aw_iload X dL_act_27 rfl ?_
  by_cases s29_1 : (lw x (18 : Int32)) = 0
  · refine aw_tableV (tgt := 104) X (0) s29_1 dL_act_29 (by decide) (by decide) rfl (by decide) ?_
    refine aw_iload_n X dL_act_104 rfl ?_
    refine aw_iconst X (5) dL_act_105 rfl ?_
    refine aw_ishr X dL_act_106 ?_
    refine aw_sipush X (300) dL_act_107 rfl ?_
    refine aw_lSF (As := [.int _, .int _]) X (c_L_low (kl K) U _ _ _ (by decide)) s_L_35 k_L_low (by decide) ⟨rfl, rfl⟩ (by exact ⟨Nat.le_of_ble_eq_true rfl, Nat.le_of_ble_eq_true rfl⟩) rfl (by exact Nat.le_of_ble_eq_true rfl) dL_act_110 ?_
    refine aw_istore X dL_act_113 rfl (by decide) ?_
    refine aw_iload_n X dL_act_115 rfl ?_
    refine aw_iconst X (2) dL_act_116 rfl ?_
    refine aw_ishr X dL_act_117 ?_
    refine aw_iconst X (2) dL_act_118 rfl ?_
    refine aw_lSF (As := [.int _, .int _]) X (c_L_low (kl K) U _ _ _ (by decide)) s_L_35 k_L_low (by decide) ⟨rfl, rfl⟩ (by exact ⟨Nat.le_of_ble_eq_true rfl, Nat.le_of_ble_eq_true rfl⟩) rfl (by exact Nat.le_of_ble_eq_true rfl) dL_act_119 ?_
    refine aw_iload_n X dL_act_122 rfl ?_
    refine aw_bipush X (7) dL_act_123 rfl ?_
    refine aw_ishr X dL_act_125 ?_
    refine aw_sipush X (150) dL_act_126 rfl ?_
    refine aw_lSF (As := [.int _, .int _]) X (c_L_low (kl K) U _ _ _ (by decide)) s_L_35 k_L_low (by decide) ⟨rfl, rfl⟩ (by exact ⟨Nat.le_of_ble_eq_true rfl, Nat.le_of_ble_eq_true rfl⟩) rfl (by exact Nat.le_of_ble_eq_true rfl) dL_act_129 ?_
    refine aw_imul X dL_act_132 ?_
    refine aw_istore X dL_act_133 rfl (by decide) ?_
    refine aw_aload_n X dL_act_135 rfl ?_
    refine aw_iload X dL_act_136 rfl ?_
    refine aw_iload X dL_act_138 rfl ?_
    refine aw_iconst X (0) dL_act_140 rfl ?_
    refine aw_iconst X (0) dL_act_141 rfl ?_
    refine aw_lV (As := [.int _, .int _, .int _, .int _]) X hR.g0 (l_arrive hR _ _ _ _) s_L_40 k_X4_arrive (by decide) ⟨rfl, rfl⟩ (by exact ⟨Nat.le_of_ble_eq_true rfl, Nat.le_of_ble_eq_true rfl⟩) rfl (by exact Nat.le_of_ble_eq_true rfl) rfl dL_act_142 (fun μ hP => ?_)
    obtain ⟨hR, hK⟩ := hP
    have hF : ∀ q, Kp q → q ≠ am → μ q = μ0 q := fun q h1 h2 => (hK q h1).trans (hF q h1 h2)
    have hm := (hK _ hk).trans hm
    refine aw_istore X dL_act_145 rfl (by decide) ?_
    refine aw_iload X dL_act_147 rfl ?_
    refine aw_if_le (tgt := 168) X dL_act_149 (by decide) (fun c149_2 => ?_) (fun c149_2 => ?_)
    · skip
      refine aw_iload X dL_act_168 rfl ?_
      have eQ := aQ_0 (z := z) (x := x) (y := y) s29_1
      have eF := aF_0 (z := z) (x := x) (y := y) (f := f) s29_1
      rw [if_pos c149_2] at eF
      refine aw_widen (k := 1) (n := 4) (by exact Nat.le_of_ble_eq_true rfl) (by exact Nat.le_of_ble_eq_true rfl) ?_
      refine aw_iret X hQ dL_act_170 ?_
      rw [eQ, eF]
      exact ⟨rfl, hR, hm, hF⟩
    · skip
      refine aw_aload_n X dL_act_152 rfl ?_
      refine aw_iconst X (0) dL_act_153 rfl ?_
      refine aw_dup2 X dL_act_154 rfl rfl ?_
      refine aw_mld X hm (0) (xin_d rfl) rfl dL_act_155 ?_
      refine aw_iload X dL_act_156 rfl ?_
      refine aw_iadd X dL_act_158 ?_
      refine aw_mst X hR hk hm (0) (xin_d rfl) rfl dL_act_159 (fun μ hR hm hx => ?_)
      have hF : ∀ q, Kp q → q ≠ am → μ q = μ0 q := fun q h1 h2 => (hx q h2).trans (hF q h1 h2)
      refine aw_aload_n X dL_act_160 rfl ?_
      refine aw_iconst X (1) dL_act_161 rfl ?_
      refine aw_dup2 X dL_act_162 rfl rfl ?_
      refine aw_mld X hm (1) (xin_d rfl) rfl dL_act_163 ?_
      refine aw_top (f 1) (rfl) ?_
      refine aw_iload X dL_act_164 rfl ?_
      refine aw_iadd X dL_act_166 ?_
      refine aw_mst X hR hk hm (1) (xin_d rfl) rfl dL_act_167 (fun μ hR hm hx => ?_)
      have hF : ∀ q, Kp q → q ≠ am → μ q = μ0 q := fun q h1 h2 => (hx q h2).trans (hF q h1 h2)
      refine aw_iload X dL_act_168 rfl ?_
      have eQ := aQ_0 (z := z) (x := x) (y := y) s29_1
      have eF := aF_0 (z := z) (x := x) (y := y) (f := f) s29_1
      rw [if_neg c149_2] at eF
      refine aw_widen (k := 1) (n := 4) (by exact Nat.le_of_ble_eq_true rfl) (by exact Nat.le_of_ble_eq_true rfl) ?_
      refine aw_iret X hQ dL_act_170 ?_
      rw [eQ, eF]
      exact ⟨rfl, hR, hm, hF⟩
  by_cases s29_2 : (lw x (18 : Int32)) = 1
  · refine aw_tableV (tgt := 104) X (1) s29_2 dL_act_29 (by decide) (by decide) rfl (by decide) ?_
    refine aw_iload_n X dL_act_104 rfl ?_
    refine aw_iconst X (5) dL_act_105 rfl ?_
    refine aw_ishr X dL_act_106 ?_
    refine aw_sipush X (300) dL_act_107 rfl ?_
    refine aw_lSF (As := [.int _, .int _]) X (c_L_low (kl K) U _ _ _ (by decide)) s_L_35 k_L_low (by decide) ⟨rfl, rfl⟩ (by exact ⟨Nat.le_of_ble_eq_true rfl, Nat.le_of_ble_eq_true rfl⟩) rfl (by exact Nat.le_of_ble_eq_true rfl) dL_act_110 ?_
    refine aw_istore X dL_act_113 rfl (by decide) ?_
    refine aw_iload_n X dL_act_115 rfl ?_
    refine aw_iconst X (2) dL_act_116 rfl ?_
    refine aw_ishr X dL_act_117 ?_
    refine aw_iconst X (2) dL_act_118 rfl ?_
    refine aw_lSF (As := [.int _, .int _]) X (c_L_low (kl K) U _ _ _ (by decide)) s_L_35 k_L_low (by decide) ⟨rfl, rfl⟩ (by exact ⟨Nat.le_of_ble_eq_true rfl, Nat.le_of_ble_eq_true rfl⟩) rfl (by exact Nat.le_of_ble_eq_true rfl) dL_act_119 ?_
    refine aw_iload_n X dL_act_122 rfl ?_
    refine aw_bipush X (7) dL_act_123 rfl ?_
    refine aw_ishr X dL_act_125 ?_
    refine aw_sipush X (150) dL_act_126 rfl ?_
    refine aw_lSF (As := [.int _, .int _]) X (c_L_low (kl K) U _ _ _ (by decide)) s_L_35 k_L_low (by decide) ⟨rfl, rfl⟩ (by exact ⟨Nat.le_of_ble_eq_true rfl, Nat.le_of_ble_eq_true rfl⟩) rfl (by exact Nat.le_of_ble_eq_true rfl) dL_act_129 ?_
    refine aw_imul X dL_act_132 ?_
    refine aw_istore X dL_act_133 rfl (by decide) ?_
    refine aw_aload_n X dL_act_135 rfl ?_
    refine aw_iload X dL_act_136 rfl ?_
    refine aw_iload X dL_act_138 rfl ?_
    refine aw_iconst X (0) dL_act_140 rfl ?_
    refine aw_iconst X (0) dL_act_141 rfl ?_
    refine aw_lV (As := [.int _, .int _, .int _, .int _]) X hR.g0 (l_arrive hR _ _ _ _) s_L_40 k_X4_arrive (by decide) ⟨rfl, rfl⟩ (by exact ⟨Nat.le_of_ble_eq_true rfl, Nat.le_of_ble_eq_true rfl⟩) rfl (by exact Nat.le_of_ble_eq_true rfl) rfl dL_act_142 (fun μ hP => ?_)
    obtain ⟨hR, hK⟩ := hP
    have hF : ∀ q, Kp q → q ≠ am → μ q = μ0 q := fun q h1 h2 => (hK q h1).trans (hF q h1 h2)
    have hm := (hK _ hk).trans hm
    refine aw_istore X dL_act_145 rfl (by decide) ?_
    refine aw_iload X dL_act_147 rfl ?_
    refine aw_if_le (tgt := 168) X dL_act_149 (by decide) (fun c149_3 => ?_) (fun c149_3 => ?_)
    · skip
      refine aw_iload X dL_act_168 rfl ?_
      have eQ := aQ_1 (z := z) (x := x) (y := y) s29_2
      have eF := aF_1 (z := z) (x := x) (y := y) (f := f) s29_2
      rw [if_pos c149_3] at eF
      refine aw_widen (k := 1) (n := 4) (by exact Nat.le_of_ble_eq_true rfl) (by exact Nat.le_of_ble_eq_true rfl) ?_
      refine aw_iret X hQ dL_act_170 ?_
      rw [eQ, eF]
      exact ⟨rfl, hR, hm, hF⟩
    · skip
      refine aw_aload_n X dL_act_152 rfl ?_
      refine aw_iconst X (0) dL_act_153 rfl ?_
      refine aw_dup2 X dL_act_154 rfl rfl ?_
      refine aw_mld X hm (0) (xin_d rfl) rfl dL_act_155 ?_
      refine aw_iload X dL_act_156 rfl ?_
      refine aw_iadd X dL_act_158 ?_
      refine aw_mst X hR hk hm (0) (xin_d rfl) rfl dL_act_159 (fun μ hR hm hx => ?_)
      have hF : ∀ q, Kp q → q ≠ am → μ q = μ0 q := fun q h1 h2 => (hx q h2).trans (hF q h1 h2)
      refine aw_aload_n X dL_act_160 rfl ?_
      refine aw_iconst X (1) dL_act_161 rfl ?_
      refine aw_dup2 X dL_act_162 rfl rfl ?_
      refine aw_mld X hm (1) (xin_d rfl) rfl dL_act_163 ?_
      refine aw_top (f 1) (rfl) ?_
      refine aw_iload X dL_act_164 rfl ?_
      refine aw_iadd X dL_act_166 ?_
      refine aw_mst X hR hk hm (1) (xin_d rfl) rfl dL_act_167 (fun μ hR hm hx => ?_)
      have hF : ∀ q, Kp q → q ≠ am → μ q = μ0 q := fun q h1 h2 => (hx q h2).trans (hF q h1 h2)
      refine aw_iload X dL_act_168 rfl ?_
      have eQ := aQ_1 (z := z) (x := x) (y := y) s29_2
      have eF := aF_1 (z := z) (x := x) (y := y) (f := f) s29_2
      rw [if_neg c149_3] at eF
      refine aw_widen (k := 1) (n := 4) (by exact Nat.le_of_ble_eq_true rfl) (by exact Nat.le_of_ble_eq_true rfl) ?_
      refine aw_iret X hQ dL_act_170 ?_
      rw [eQ, eF]
      exact ⟨rfl, hR, hm, hF⟩
  by_cases s29_3 : (lw x (18 : Int32)) = 2
  · refine aw_tableV (tgt := 171) X (2) s29_3 dL_act_29 (by decide) (by decide) rfl (by decide) ?_
    refine aw_aload_n X dL_act_171 rfl ?_
    refine aw_lV (As := []) X hR.g0 (l_berth hR) s_L_44 k_X4_berth (by decide) ⟨rfl, rfl⟩ (by exact ⟨Nat.le_of_ble_eq_true rfl, Nat.le_of_ble_eq_true rfl⟩) rfl (by exact Nat.le_of_ble_eq_true rfl) rfl dL_act_172 (fun μ hP => ?_)
    obtain ⟨hR, hK⟩ := hP
    have hF : ∀ q, Kp q → q ≠ am → μ q = μ0 q := fun q h1 h2 => (hK q h1).trans (hF q h1 h2)
    have hm := (hK _ hk).trans hm
    have eQ := aQ_2 (z := z) (x := x) (y := y) s29_3
    have eF := aF_2 (z := z) (x := x) (y := y) (f := f) s29_3
    skip
    refine aw_widen (k := 1) (n := 4) (by exact Nat.le_of_ble_eq_true rfl) (by exact Nat.le_of_ble_eq_true rfl) ?_
    refine aw_iret X hQ dL_act_175 ?_
    rw [eQ, eF]
    exact ⟨rfl, hR, hm, hF⟩
  by_cases s29_4 : (lw x (18 : Int32)) = 3
  · refine aw_tableV (tgt := 171) X (3) s29_4 dL_act_29 (by decide) (by decide) rfl (by decide) ?_
    refine aw_aload_n X dL_act_171 rfl ?_
    refine aw_lV (As := []) X hR.g0 (l_berth hR) s_L_44 k_X4_berth (by decide) ⟨rfl, rfl⟩ (by exact ⟨Nat.le_of_ble_eq_true rfl, Nat.le_of_ble_eq_true rfl⟩) rfl (by exact Nat.le_of_ble_eq_true rfl) rfl dL_act_172 (fun μ hP => ?_)
    obtain ⟨hR, hK⟩ := hP
    have hF : ∀ q, Kp q → q ≠ am → μ q = μ0 q := fun q h1 h2 => (hK q h1).trans (hF q h1 h2)
    have hm := (hK _ hk).trans hm
    have eQ := aQ_3 (z := z) (x := x) (y := y) s29_4
    have eF := aF_3 (z := z) (x := x) (y := y) (f := f) s29_4
    skip
    refine aw_widen (k := 1) (n := 4) (by exact Nat.le_of_ble_eq_true rfl) (by exact Nat.le_of_ble_eq_true rfl) ?_
    refine aw_iret X hQ dL_act_175 ?_
    rw [eQ, eF]
    exact ⟨rfl, hR, hm, hF⟩
  by_cases s29_5 : (lw x (18 : Int32)) = 4
  · refine aw_tableV (tgt := 176) X (4) s29_5 dL_act_29 (by decide) (by decide) rfl (by decide) ?_
    refine aw_aload_n X dL_act_176 rfl ?_
    refine aw_iload X dL_act_177 rfl ?_
    refine aw_iload_n X dL_act_179 rfl ?_
    refine aw_bipush X (9) dL_act_180 rfl ?_
    refine aw_ishr X dL_act_182 ?_
    refine aw_iconst X (3) dL_act_183 rfl ?_
    refine aw_iand X dL_act_184 ?_
    refine aw_if_le (tgt := 198) X dL_act_185 (by decide) (fun c185_6 => ?_) (fun c185_6 => ?_)
    · skip
      refine aw_iload X dL_act_198 rfl ?_
      refine aw_lV (As := [.int _, .int _]) X hR.g0 (l_connect hR _ _) s_L_48 k_X4_connect (by decide) ⟨rfl, rfl⟩ (by exact ⟨Nat.le_of_ble_eq_true rfl, Nat.le_of_ble_eq_true rfl⟩) rfl (by exact Nat.le_of_ble_eq_true rfl) rfl dL_act_200 (fun μ hP => ?_)
      obtain ⟨hR, hK⟩ := hP
      have hF : ∀ q, Kp q → q ≠ am → μ q = μ0 q := fun q h1 h2 => (hK q h1).trans (hF q h1 h2)
      have hm := (hK _ hk).trans hm
      have eQ := aQ_4 (z := z) (x := x) (y := y) s29_5
      have eF := aF_4 (z := z) (x := x) (y := y) (f := f) s29_5
      rw [if_pos c185_6] at eQ
      refine aw_widen (k := 1) (n := 4) (by exact Nat.le_of_ble_eq_true rfl) (by exact Nat.le_of_ble_eq_true rfl) ?_
      refine aw_iret X hQ dL_act_203 ?_
      rw [eQ, eF]
      exact ⟨rfl, hR, hm, hF⟩
    · skip
      refine aw_iload_n X dL_act_188 rfl ?_
      refine aw_iconst X (3) dL_act_189 rfl ?_
      refine aw_ishr X dL_act_190 ?_
      refine aw_iconst X (2) dL_act_191 rfl ?_
      refine aw_lSF (As := [.int _, .int _]) X (c_L_low (kl K) U _ _ _ (by decide)) s_L_35 k_L_low (by decide) ⟨rfl, rfl⟩ (by exact ⟨Nat.le_of_ble_eq_true rfl, Nat.le_of_ble_eq_true rfl⟩) rfl (by exact Nat.le_of_ble_eq_true rfl) dL_act_192 ?_
      refine aw_goto (tgt := 200) X dL_act_195 (by decide) ?_
      refine aw_lV (As := [.int _, .int _]) X hR.g0 (l_connect hR _ _) s_L_48 k_X4_connect (by decide) ⟨rfl, rfl⟩ (by exact ⟨Nat.le_of_ble_eq_true rfl, Nat.le_of_ble_eq_true rfl⟩) rfl (by exact Nat.le_of_ble_eq_true rfl) rfl dL_act_200 (fun μ hP => ?_)
      obtain ⟨hR, hK⟩ := hP
      have hF : ∀ q, Kp q → q ≠ am → μ q = μ0 q := fun q h1 h2 => (hK q h1).trans (hF q h1 h2)
      have hm := (hK _ hk).trans hm
      have eQ := aQ_4 (z := z) (x := x) (y := y) s29_5
      have eF := aF_4 (z := z) (x := x) (y := y) (f := f) s29_5
      rw [if_neg c185_6] at eQ
      refine aw_widen (k := 1) (n := 4) (by exact Nat.le_of_ble_eq_true rfl) (by exact Nat.le_of_ble_eq_true rfl) ?_
      refine aw_iret X hQ dL_act_203 ?_
      rw [eQ, eF]
      exact ⟨rfl, hR, hm, hF⟩
  by_cases s29_6 : (lw x (18 : Int32)) = 5
  · refine aw_tableV (tgt := 176) X (5) s29_6 dL_act_29 (by decide) (by decide) rfl (by decide) ?_
    refine aw_aload_n X dL_act_176 rfl ?_
    refine aw_iload X dL_act_177 rfl ?_
    refine aw_iload_n X dL_act_179 rfl ?_
    refine aw_bipush X (9) dL_act_180 rfl ?_
    refine aw_ishr X dL_act_182 ?_
    refine aw_iconst X (3) dL_act_183 rfl ?_
    refine aw_iand X dL_act_184 ?_
    refine aw_if_le (tgt := 198) X dL_act_185 (by decide) (fun c185_7 => ?_) (fun c185_7 => ?_)
    · skip
      refine aw_iload X dL_act_198 rfl ?_
      refine aw_lV (As := [.int _, .int _]) X hR.g0 (l_connect hR _ _) s_L_48 k_X4_connect (by decide) ⟨rfl, rfl⟩ (by exact ⟨Nat.le_of_ble_eq_true rfl, Nat.le_of_ble_eq_true rfl⟩) rfl (by exact Nat.le_of_ble_eq_true rfl) rfl dL_act_200 (fun μ hP => ?_)
      obtain ⟨hR, hK⟩ := hP
      have hF : ∀ q, Kp q → q ≠ am → μ q = μ0 q := fun q h1 h2 => (hK q h1).trans (hF q h1 h2)
      have hm := (hK _ hk).trans hm
      have eQ := aQ_5 (z := z) (x := x) (y := y) s29_6
      have eF := aF_5 (z := z) (x := x) (y := y) (f := f) s29_6
      rw [if_pos c185_7] at eQ
      refine aw_widen (k := 1) (n := 4) (by exact Nat.le_of_ble_eq_true rfl) (by exact Nat.le_of_ble_eq_true rfl) ?_
      refine aw_iret X hQ dL_act_203 ?_
      rw [eQ, eF]
      exact ⟨rfl, hR, hm, hF⟩
    · skip
      refine aw_iload_n X dL_act_188 rfl ?_
      refine aw_iconst X (3) dL_act_189 rfl ?_
      refine aw_ishr X dL_act_190 ?_
      refine aw_iconst X (2) dL_act_191 rfl ?_
      refine aw_lSF (As := [.int _, .int _]) X (c_L_low (kl K) U _ _ _ (by decide)) s_L_35 k_L_low (by decide) ⟨rfl, rfl⟩ (by exact ⟨Nat.le_of_ble_eq_true rfl, Nat.le_of_ble_eq_true rfl⟩) rfl (by exact Nat.le_of_ble_eq_true rfl) dL_act_192 ?_
      refine aw_goto (tgt := 200) X dL_act_195 (by decide) ?_
      refine aw_lV (As := [.int _, .int _]) X hR.g0 (l_connect hR _ _) s_L_48 k_X4_connect (by decide) ⟨rfl, rfl⟩ (by exact ⟨Nat.le_of_ble_eq_true rfl, Nat.le_of_ble_eq_true rfl⟩) rfl (by exact Nat.le_of_ble_eq_true rfl) rfl dL_act_200 (fun μ hP => ?_)
      obtain ⟨hR, hK⟩ := hP
      have hF : ∀ q, Kp q → q ≠ am → μ q = μ0 q := fun q h1 h2 => (hK q h1).trans (hF q h1 h2)
      have hm := (hK _ hk).trans hm
      have eQ := aQ_5 (z := z) (x := x) (y := y) s29_6
      have eF := aF_5 (z := z) (x := x) (y := y) (f := f) s29_6
      rw [if_neg c185_7] at eQ
      refine aw_widen (k := 1) (n := 4) (by exact Nat.le_of_ble_eq_true rfl) (by exact Nat.le_of_ble_eq_true rfl) ?_
      refine aw_iret X hQ dL_act_203 ?_
      rw [eQ, eF]
      exact ⟨rfl, hR, hm, hF⟩
  by_cases s29_7 : (lw x (18 : Int32)) = 6
  · refine aw_tableV (tgt := 176) X (6) s29_7 dL_act_29 (by decide) (by decide) rfl (by decide) ?_
    refine aw_aload_n X dL_act_176 rfl ?_
    refine aw_iload X dL_act_177 rfl ?_
    refine aw_iload_n X dL_act_179 rfl ?_
    refine aw_bipush X (9) dL_act_180 rfl ?_
    refine aw_ishr X dL_act_182 ?_
    refine aw_iconst X (3) dL_act_183 rfl ?_
    refine aw_iand X dL_act_184 ?_
    refine aw_if_le (tgt := 198) X dL_act_185 (by decide) (fun c185_8 => ?_) (fun c185_8 => ?_)
    · skip
      refine aw_iload X dL_act_198 rfl ?_
      refine aw_lV (As := [.int _, .int _]) X hR.g0 (l_connect hR _ _) s_L_48 k_X4_connect (by decide) ⟨rfl, rfl⟩ (by exact ⟨Nat.le_of_ble_eq_true rfl, Nat.le_of_ble_eq_true rfl⟩) rfl (by exact Nat.le_of_ble_eq_true rfl) rfl dL_act_200 (fun μ hP => ?_)
      obtain ⟨hR, hK⟩ := hP
      have hF : ∀ q, Kp q → q ≠ am → μ q = μ0 q := fun q h1 h2 => (hK q h1).trans (hF q h1 h2)
      have hm := (hK _ hk).trans hm
      have eQ := aQ_6 (z := z) (x := x) (y := y) s29_7
      have eF := aF_6 (z := z) (x := x) (y := y) (f := f) s29_7
      rw [if_pos c185_8] at eQ
      refine aw_widen (k := 1) (n := 4) (by exact Nat.le_of_ble_eq_true rfl) (by exact Nat.le_of_ble_eq_true rfl) ?_
      refine aw_iret X hQ dL_act_203 ?_
      rw [eQ, eF]
      exact ⟨rfl, hR, hm, hF⟩
    · skip
      refine aw_iload_n X dL_act_188 rfl ?_
      refine aw_iconst X (3) dL_act_189 rfl ?_
      refine aw_ishr X dL_act_190 ?_
      refine aw_iconst X (2) dL_act_191 rfl ?_
      refine aw_lSF (As := [.int _, .int _]) X (c_L_low (kl K) U _ _ _ (by decide)) s_L_35 k_L_low (by decide) ⟨rfl, rfl⟩ (by exact ⟨Nat.le_of_ble_eq_true rfl, Nat.le_of_ble_eq_true rfl⟩) rfl (by exact Nat.le_of_ble_eq_true rfl) dL_act_192 ?_
      refine aw_goto (tgt := 200) X dL_act_195 (by decide) ?_
      refine aw_lV (As := [.int _, .int _]) X hR.g0 (l_connect hR _ _) s_L_48 k_X4_connect (by decide) ⟨rfl, rfl⟩ (by exact ⟨Nat.le_of_ble_eq_true rfl, Nat.le_of_ble_eq_true rfl⟩) rfl (by exact Nat.le_of_ble_eq_true rfl) rfl dL_act_200 (fun μ hP => ?_)
      obtain ⟨hR, hK⟩ := hP
      have hF : ∀ q, Kp q → q ≠ am → μ q = μ0 q := fun q h1 h2 => (hK q h1).trans (hF q h1 h2)
      have hm := (hK _ hk).trans hm
      have eQ := aQ_6 (z := z) (x := x) (y := y) s29_7
      have eF := aF_6 (z := z) (x := x) (y := y) (f := f) s29_7
      rw [if_neg c185_8] at eQ
      refine aw_widen (k := 1) (n := 4) (by exact Nat.le_of_ble_eq_true rfl) (by exact Nat.le_of_ble_eq_true rfl) ?_
      refine aw_iret X hQ dL_act_203 ?_
      rw [eQ, eF]
      exact ⟨rfl, hR, hm, hF⟩
  by_cases s29_8 : (lw x (18 : Int32)) = 7
  · refine aw_tableV (tgt := 204) X (7) s29_8 dL_act_29 (by decide) (by decide) rfl (by decide) ?_
    refine aw_aload_n X dL_act_204 rfl ?_
    refine aw_iload X dL_act_205 rfl ?_
    refine aw_lV (As := [.int _]) X hR.g0 (l_disconnect hR _) s_L_51 k_X4_disconnect (by decide) ⟨rfl, rfl⟩ (by exact ⟨Nat.le_of_ble_eq_true rfl, Nat.le_of_ble_eq_true rfl⟩) rfl (by exact Nat.le_of_ble_eq_true rfl) rfl dL_act_207 (fun μ hP => ?_)
    obtain ⟨hR, hK⟩ := hP
    have hF : ∀ q, Kp q → q ≠ am → μ q = μ0 q := fun q h1 h2 => (hK q h1).trans (hF q h1 h2)
    have hm := (hK _ hk).trans hm
    have eQ := aQ_7 (z := z) (x := x) (y := y) s29_8
    have eF := aF_7 (z := z) (x := x) (y := y) (f := f) s29_8
    skip
    refine aw_widen (k := 1) (n := 4) (by exact Nat.le_of_ble_eq_true rfl) (by exact Nat.le_of_ble_eq_true rfl) ?_
    refine aw_iret X hQ dL_act_210 ?_
    rw [eQ, eF]
    exact ⟨rfl, hR, hm, hF⟩
  by_cases s29_9 : (lw x (18 : Int32)) = 8
  · refine aw_tableV (tgt := 211) X (8) s29_9 dL_act_29 (by decide) (by decide) rfl (by decide) ?_
    refine aw_iload_n X dL_act_211 rfl ?_
    refine aw_bipush X (9) dL_act_212 rfl ?_
    refine aw_ishr X dL_act_214 ?_
    refine aw_iconst X (1) dL_act_215 rfl ?_
    refine aw_iand X dL_act_216 ?_
    refine aw_if_ne (tgt := 229) X dL_act_217 (by decide) (fun c217_10 => ?_) (fun c217_10 => ?_)
    · skip
      refine aw_aload_n X dL_act_229 rfl ?_
      refine aw_iload X dL_act_230 rfl ?_
      refine aw_lV (As := [.int _]) X hR.g0 (l_mend hR _) s_L_57 k_X4_mend (by decide) ⟨rfl, rfl⟩ (by exact ⟨Nat.le_of_ble_eq_true rfl, Nat.le_of_ble_eq_true rfl⟩) rfl (by exact Nat.le_of_ble_eq_true rfl) rfl dL_act_232 (fun μ hP => ?_)
      obtain ⟨hR, hK⟩ := hP
      have hF : ∀ q, Kp q → q ≠ am → μ q = μ0 q := fun q h1 h2 => (hK q h1).trans (hF q h1 h2)
      have hm := (hK _ hk).trans hm
      have eQ := aQ_8 (z := z) (x := x) (y := y) s29_9
      have eF := aF_8 (z := z) (x := x) (y := y) (f := f) s29_9
      rw [if_pos c217_10] at eQ
      refine aw_widen (k := 1) (n := 4) (by exact Nat.le_of_ble_eq_true rfl) (by exact Nat.le_of_ble_eq_true rfl) ?_
      refine aw_iret X hQ dL_act_235 ?_
      rw [eQ, eF]
      exact ⟨rfl, hR, hm, hF⟩
    · skip
      refine aw_aload_n X dL_act_220 rfl ?_
      refine aw_iload X dL_act_221 rfl ?_
      refine aw_lV (As := [.int _]) X hR.g0 (l_flush hR _) s_L_54 k_X4_flush (by decide) ⟨rfl, rfl⟩ (by exact ⟨Nat.le_of_ble_eq_true rfl, Nat.le_of_ble_eq_true rfl⟩) rfl (by exact Nat.le_of_ble_eq_true rfl) rfl dL_act_223 (fun μ hP => ?_)
      obtain ⟨hR, hK⟩ := hP
      have hF : ∀ q, Kp q → q ≠ am → μ q = μ0 q := fun q h1 h2 => (hK q h1).trans (hF q h1 h2)
      have hm := (hK _ hk).trans hm
      refine aw_goto (tgt := 235) X dL_act_226 (by decide) ?_
      have eQ := aQ_8 (z := z) (x := x) (y := y) s29_9
      have eF := aF_8 (z := z) (x := x) (y := y) (f := f) s29_9
      rw [if_neg (not_not_intro c217_10)] at eQ
      refine aw_widen (k := 1) (n := 4) (by exact Nat.le_of_ble_eq_true rfl) (by exact Nat.le_of_ble_eq_true rfl) ?_
      refine aw_iret X hQ dL_act_235 ?_
      rw [eQ, eF]
      exact ⟨rfl, hR, hm, hF⟩
  by_cases s29_10 : (lw x (18 : Int32)) = 9
  · refine aw_tableV (tgt := 236) X (9) s29_10 dL_act_29 (by decide) (by decide) rfl (by decide) ?_
    refine aw_iconst X (4) dL_act_236 rfl ?_
    refine aw_mnew X hR 4 (by decide) rfl (by decide) (by decide) dL_act_237 (fun b_11 μ hR hn_b_11 hm_11 hx => ?_)
    have hb : ∀ q, Kp q → q ≠ b_11 := fun q h1 e => by
      subst e
      by_cases x : q = am
      · rw [x, hm] at hn_b_11; cases hn_b_11
      · rw [hF q h1 x] at hn_b_11; exact hal q h1 hn_b_11
    have hF : ∀ q, Kp q → q ≠ am → μ q = μ0 q := fun q h1 h2 => (hx q (hb q h1)).trans (hF q h1 h2)
    have hm := (hx am (fun e => by rw [e, hn_b_11] at hm; cases hm)).trans hm
    refine aw_astore X dL_act_239 rfl (by decide) ?_
    refine aw_iconst X (0) dL_act_241 rfl ?_
    refine aw_istore X dL_act_242 rfl (by decide) ?_
    refine aw_iload X dL_act_244 rfl ?_
    refine aw_iconst X (4) dL_act_246 rfl ?_
    refine aw_icmp_ge_f (tgt := 268) X dL_act_247 (by decide) (by decide) ?_
    refine aw_aload X dL_act_250 rfl ?_
    refine aw_iload X dL_act_252 rfl ?_
    refine aw_aload_n X dL_act_254 rfl ?_
    refine aw_iconst X (0) dL_act_255 rfl ?_
    refine aw_iload X dL_act_256 rfl ?_
    refine aw_lF (As := [.int _, .int _]) X hR.g0 (l_tanker hR _ _) s_L_15 k_X4_tanker (by decide) ⟨rfl, rfl⟩ (by exact ⟨Nat.le_of_ble_eq_true rfl, Nat.le_of_ble_eq_true rfl⟩) rfl (by exact Nat.le_of_ble_eq_true rfl) rfl dL_act_258 ?_
    refine aw_top (cTanker z 0 0) rfl ?_
    refine aw_mst X hR (Or.inr rfl) hm_11 (0) (xin_d rfl) rfl dL_act_261 (fun μ hR hm_11 hx => ?_)
    have hF : ∀ q, Kp q → q ≠ am → μ q = μ0 q := fun q h1 h2 => (hx q (hb q h1)).trans (hF q h1 h2)
    have hm := (hx am (hb am hk)).trans hm
    refine aw_iinc X (1) dL_act_262 rfl rfl rfl (by decide) ?_
    refine aw_goto (tgt := 244) X dL_act_265 (by decide) ?_
    refine aw_iload X dL_act_244 rfl ?_
    refine aw_iconst X (4) dL_act_246 rfl ?_
    refine aw_icmp_ge_f (tgt := 268) X dL_act_247 (by decide) (by decide) ?_
    refine aw_aload X dL_act_250 rfl ?_
    refine aw_iload X dL_act_252 rfl ?_
    refine aw_aload_n X dL_act_254 rfl ?_
    refine aw_iconst X (0) dL_act_255 rfl ?_
    refine aw_iload X dL_act_256 rfl ?_
    refine aw_lF (As := [.int _, .int _]) X hR.g0 (l_tanker hR _ _) s_L_15 k_X4_tanker (by decide) ⟨rfl, rfl⟩ (by exact ⟨Nat.le_of_ble_eq_true rfl, Nat.le_of_ble_eq_true rfl⟩) rfl (by exact Nat.le_of_ble_eq_true rfl) rfl dL_act_258 ?_
    refine aw_top (cTanker z 0 1) rfl ?_
    refine aw_mst X hR (Or.inr rfl) hm_11 (1) (xin_d rfl) rfl dL_act_261 (fun μ hR hm_11 hx => ?_)
    have hF : ∀ q, Kp q → q ≠ am → μ q = μ0 q := fun q h1 h2 => (hx q (hb q h1)).trans (hF q h1 h2)
    have hm := (hx am (hb am hk)).trans hm
    refine aw_iinc X (1) dL_act_262 rfl rfl rfl (by decide) ?_
    refine aw_goto (tgt := 244) X dL_act_265 (by decide) ?_
    refine aw_iload X dL_act_244 rfl ?_
    refine aw_iconst X (4) dL_act_246 rfl ?_
    refine aw_icmp_ge_f (tgt := 268) X dL_act_247 (by decide) (by decide) ?_
    refine aw_aload X dL_act_250 rfl ?_
    refine aw_iload X dL_act_252 rfl ?_
    refine aw_aload_n X dL_act_254 rfl ?_
    refine aw_iconst X (0) dL_act_255 rfl ?_
    refine aw_iload X dL_act_256 rfl ?_
    refine aw_lF (As := [.int _, .int _]) X hR.g0 (l_tanker hR _ _) s_L_15 k_X4_tanker (by decide) ⟨rfl, rfl⟩ (by exact ⟨Nat.le_of_ble_eq_true rfl, Nat.le_of_ble_eq_true rfl⟩) rfl (by exact Nat.le_of_ble_eq_true rfl) rfl dL_act_258 ?_
    refine aw_top (cTanker z 0 2) rfl ?_
    refine aw_mst X hR (Or.inr rfl) hm_11 (2) (xin_d rfl) rfl dL_act_261 (fun μ hR hm_11 hx => ?_)
    have hF : ∀ q, Kp q → q ≠ am → μ q = μ0 q := fun q h1 h2 => (hx q (hb q h1)).trans (hF q h1 h2)
    have hm := (hx am (hb am hk)).trans hm
    refine aw_iinc X (1) dL_act_262 rfl rfl rfl (by decide) ?_
    refine aw_goto (tgt := 244) X dL_act_265 (by decide) ?_
    refine aw_iload X dL_act_244 rfl ?_
    refine aw_iconst X (4) dL_act_246 rfl ?_
    refine aw_icmp_ge_f (tgt := 268) X dL_act_247 (by decide) (by decide) ?_
    refine aw_aload X dL_act_250 rfl ?_
    refine aw_iload X dL_act_252 rfl ?_
    refine aw_aload_n X dL_act_254 rfl ?_
    refine aw_iconst X (0) dL_act_255 rfl ?_
    refine aw_iload X dL_act_256 rfl ?_
    refine aw_lF (As := [.int _, .int _]) X hR.g0 (l_tanker hR _ _) s_L_15 k_X4_tanker (by decide) ⟨rfl, rfl⟩ (by exact ⟨Nat.le_of_ble_eq_true rfl, Nat.le_of_ble_eq_true rfl⟩) rfl (by exact Nat.le_of_ble_eq_true rfl) rfl dL_act_258 ?_
    refine aw_top (cTanker z 0 3) rfl ?_
    refine aw_mst X hR (Or.inr rfl) hm_11 (3) (xin_d rfl) rfl dL_act_261 (fun μ hR hm_11 hx => ?_)
    have hF : ∀ q, Kp q → q ≠ am → μ q = μ0 q := fun q h1 h2 => (hx q (hb q h1)).trans (hF q h1 h2)
    have hm := (hx am (hb am hk)).trans hm
    refine aw_iinc X (1) dL_act_262 rfl rfl rfl (by decide) ?_
    refine aw_goto (tgt := 244) X dL_act_265 (by decide) ?_
    refine aw_iload X dL_act_244 rfl ?_
    refine aw_iconst X (4) dL_act_246 rfl ?_
    refine aw_icmp_ge_t (tgt := 268) X dL_act_247 (by decide) (by decide) ?_
    refine aw_aload_n X dL_act_268 rfl ?_
    refine aw_lV (As := []) X hR.g0 (l_leave hR) s_L_60 k_X4_leave (by decide) ⟨rfl, rfl⟩ (by exact ⟨Nat.le_of_ble_eq_true rfl, Nat.le_of_ble_eq_true rfl⟩) rfl (by exact Nat.le_of_ble_eq_true rfl) rfl dL_act_269 (fun μ hP => ?_)
    obtain ⟨hR, hK⟩ := hP
    have hF : ∀ q, Kp q → q ≠ am → μ q = μ0 q := fun q h1 h2 => (hK q (Or.inl h1)).trans (hF q h1 h2)
    have hm := (hK _ (Or.inl hk)).trans hm
    have hm_11 := (hK _ (Or.inr rfl)).trans hm_11
    refine aw_istore X dL_act_272 rfl (by decide) ?_
    refine aw_iconst X (0) dL_act_274 rfl ?_
    refine aw_istore X dL_act_275 rfl (by decide) ?_
    refine aw_iload X dL_act_277 rfl ?_
    refine aw_iconst X (4) dL_act_279 rfl ?_
    refine aw_icmp_ge_f (tgt := 308) X dL_act_280 (by decide) (by decide) ?_
    refine aw_iload X dL_act_283 rfl ?_
    refine aw_if_lt (tgt := 308) X dL_act_285 (by decide) (fun c285_12 => ?_) (fun c285_12 => ?_)
    · skip
      refine aw_iload X dL_act_308 rfl ?_
      have eQ := aQ_9 (z := z) (x := x) (y := y) s29_10
      have eF := aF_9 (z := z) (x := x) (y := y) (f := f) s29_10
      rw [if_pos c285_12] at eF
      refine aw_widen (k := 1) (n := 4) (by exact Nat.le_of_ble_eq_true rfl) (by exact Nat.le_of_ble_eq_true rfl) ?_
      refine aw_iret X hQ dL_act_310 ?_
      rw [eQ, eF]
      exact ⟨rfl, hR.mono (fun q h => Or.inl h), hm, hF⟩
    · skip
      refine aw_aload_n X dL_act_288 rfl ?_
      refine aw_iconst X (4) dL_act_289 rfl ?_
      refine aw_iload X dL_act_290 rfl ?_
      refine aw_iadd X dL_act_292 ?_
      refine aw_dup2 X dL_act_293 rfl rfl ?_
      refine aw_mld X hm (4) (xin_d rfl) rfl dL_act_294 ?_
      refine aw_top (f 4) (rfl) ?_
      refine aw_aload X dL_act_295 rfl ?_
      refine aw_iload X dL_act_297 rfl ?_
      refine aw_mld X hm_11 (0) (xin_d rfl) rfl dL_act_299 ?_
      refine aw_top (cTanker z 0 0) (rfl) ?_
      refine aw_iadd X dL_act_300 ?_
      refine aw_mst X hR (Or.inl hk) hm (4) (xin_d rfl) rfl dL_act_301 (fun μ hR hm hx => ?_)
      have hF : ∀ q, Kp q → q ≠ am → μ q = μ0 q := fun q h1 h2 => (hx q h2).trans (hF q h1 h2)
      have hm_11 := (hx b_11 (fun e => hb am hk e.symm)).trans hm_11
      refine aw_iinc X (1) dL_act_302 rfl rfl rfl (by decide) ?_
      refine aw_goto (tgt := 277) X dL_act_305 (by decide) ?_
      refine aw_iload X dL_act_277 rfl ?_
      refine aw_iconst X (4) dL_act_279 rfl ?_
      refine aw_icmp_ge_f (tgt := 308) X dL_act_280 (by decide) (by decide) ?_
      refine aw_iload X dL_act_283 rfl ?_
      refine aw_if_lt_f (tgt := 308) X dL_act_285 (by decide) c285_12 ?_
      refine aw_aload_n X dL_act_288 rfl ?_
      refine aw_iconst X (4) dL_act_289 rfl ?_
      refine aw_iload X dL_act_290 rfl ?_
      refine aw_iadd X dL_act_292 ?_
      refine aw_dup2 X dL_act_293 rfl rfl ?_
      refine aw_mld X hm (5) (xin_d rfl) rfl dL_act_294 ?_
      refine aw_top (f 5) (rfl) ?_
      refine aw_aload X dL_act_295 rfl ?_
      refine aw_iload X dL_act_297 rfl ?_
      refine aw_mld X hm_11 (1) (xin_d rfl) rfl dL_act_299 ?_
      refine aw_top (cTanker z 0 1) (rfl) ?_
      refine aw_iadd X dL_act_300 ?_
      refine aw_mst X hR (Or.inl hk) hm (5) (xin_d rfl) rfl dL_act_301 (fun μ hR hm hx => ?_)
      have hF : ∀ q, Kp q → q ≠ am → μ q = μ0 q := fun q h1 h2 => (hx q h2).trans (hF q h1 h2)
      have hm_11 := (hx b_11 (fun e => hb am hk e.symm)).trans hm_11
      refine aw_iinc X (1) dL_act_302 rfl rfl rfl (by decide) ?_
      refine aw_goto (tgt := 277) X dL_act_305 (by decide) ?_
      refine aw_iload X dL_act_277 rfl ?_
      refine aw_iconst X (4) dL_act_279 rfl ?_
      refine aw_icmp_ge_f (tgt := 308) X dL_act_280 (by decide) (by decide) ?_
      refine aw_iload X dL_act_283 rfl ?_
      refine aw_if_lt_f (tgt := 308) X dL_act_285 (by decide) c285_12 ?_
      refine aw_aload_n X dL_act_288 rfl ?_
      refine aw_iconst X (4) dL_act_289 rfl ?_
      refine aw_iload X dL_act_290 rfl ?_
      refine aw_iadd X dL_act_292 ?_
      refine aw_dup2 X dL_act_293 rfl rfl ?_
      refine aw_mld X hm (6) (xin_d rfl) rfl dL_act_294 ?_
      refine aw_top (f 6) (rfl) ?_
      refine aw_aload X dL_act_295 rfl ?_
      refine aw_iload X dL_act_297 rfl ?_
      refine aw_mld X hm_11 (2) (xin_d rfl) rfl dL_act_299 ?_
      refine aw_top (cTanker z 0 2) (rfl) ?_
      refine aw_iadd X dL_act_300 ?_
      refine aw_mst X hR (Or.inl hk) hm (6) (xin_d rfl) rfl dL_act_301 (fun μ hR hm hx => ?_)
      have hF : ∀ q, Kp q → q ≠ am → μ q = μ0 q := fun q h1 h2 => (hx q h2).trans (hF q h1 h2)
      have hm_11 := (hx b_11 (fun e => hb am hk e.symm)).trans hm_11
      refine aw_iinc X (1) dL_act_302 rfl rfl rfl (by decide) ?_
      refine aw_goto (tgt := 277) X dL_act_305 (by decide) ?_
      refine aw_iload X dL_act_277 rfl ?_
      refine aw_iconst X (4) dL_act_279 rfl ?_
      refine aw_icmp_ge_f (tgt := 308) X dL_act_280 (by decide) (by decide) ?_
      refine aw_iload X dL_act_283 rfl ?_
      refine aw_if_lt_f (tgt := 308) X dL_act_285 (by decide) c285_12 ?_
      refine aw_aload_n X dL_act_288 rfl ?_
      refine aw_iconst X (4) dL_act_289 rfl ?_
      refine aw_iload X dL_act_290 rfl ?_
      refine aw_iadd X dL_act_292 ?_
      refine aw_dup2 X dL_act_293 rfl rfl ?_
      refine aw_mld X hm (7) (xin_d rfl) rfl dL_act_294 ?_
      refine aw_top (f 7) (rfl) ?_
      refine aw_aload X dL_act_295 rfl ?_
      refine aw_iload X dL_act_297 rfl ?_
      refine aw_mld X hm_11 (3) (xin_d rfl) rfl dL_act_299 ?_
      refine aw_top (cTanker z 0 3) (rfl) ?_
      refine aw_iadd X dL_act_300 ?_
      refine aw_mst X hR (Or.inl hk) hm (7) (xin_d rfl) rfl dL_act_301 (fun μ hR hm hx => ?_)
      have hF : ∀ q, Kp q → q ≠ am → μ q = μ0 q := fun q h1 h2 => (hx q h2).trans (hF q h1 h2)
      have hm_11 := (hx b_11 (fun e => hb am hk e.symm)).trans hm_11
      refine aw_iinc X (1) dL_act_302 rfl rfl rfl (by decide) ?_
      refine aw_goto (tgt := 277) X dL_act_305 (by decide) ?_
      refine aw_iload X dL_act_277 rfl ?_
      refine aw_iconst X (4) dL_act_279 rfl ?_
      refine aw_icmp_ge_t (tgt := 308) X dL_act_280 (by decide) (by decide) ?_
      refine aw_iload X dL_act_308 rfl ?_
      have eQ := aQ_9 (z := z) (x := x) (y := y) s29_10
      have eF := aF_9 (z := z) (x := x) (y := y) (f := f) s29_10
      rw [if_neg c285_12] at eF
      refine aw_widen (k := 1) (n := 4) (by exact Nat.le_of_ble_eq_true rfl) (by exact Nat.le_of_ble_eq_true rfl) ?_
      refine aw_iret X hQ dL_act_310 ?_
      rw [eQ, eF]
      exact ⟨rfl, hR.mono (fun q h => Or.inl h), hm, hF⟩
  by_cases s29_11 : (lw x (18 : Int32)) = 10
  · refine aw_tableV (tgt := 311) X (10) s29_11 dL_act_29 (by decide) (by decide) rfl (by decide) ?_
    refine aw_aload_n X dL_act_311 rfl ?_
    refine aw_iload_n X dL_act_312 rfl ?_
    refine aw_iconst X (3) dL_act_313 rfl ?_
    refine aw_iand X dL_act_314 ?_
    refine aw_if_le (tgt := 322) X dL_act_315 (by decide) (fun c315_12 => ?_) (fun c315_12 => ?_)
    · skip
      refine aw_iconst X (0) dL_act_322 rfl ?_
      refine aw_lV (As := [.int _]) X hR.g0 (l_boom hR _ (by decide)) s_L_63 k_X4_boom (by decide) ⟨rfl, rfl⟩ (by exact ⟨Nat.le_of_ble_eq_true rfl, Nat.le_of_ble_eq_true rfl⟩) rfl (by exact Nat.le_of_ble_eq_true rfl) rfl dL_act_323 (fun μ hP => ?_)
      obtain ⟨hR, hK⟩ := hP
      have hF : ∀ q, Kp q → q ≠ am → μ q = μ0 q := fun q h1 h2 => (hK q h1).trans (hF q h1 h2)
      have hm := (hK _ hk).trans hm
      have eQ := aQ_10 (z := z) (x := x) (y := y) s29_11
      have eF := aF_10 (z := z) (x := x) (y := y) (f := f) s29_11
      rw [if_pos c315_12] at eQ
      refine aw_widen (k := 1) (n := 4) (by exact Nat.le_of_ble_eq_true rfl) (by exact Nat.le_of_ble_eq_true rfl) ?_
      refine aw_iret X hQ dL_act_326 ?_
      rw [eQ, eF]
      exact ⟨rfl, hR, hm, hF⟩
    · skip
      refine aw_iconst X (1) dL_act_318 rfl ?_
      refine aw_goto (tgt := 323) X dL_act_319 (by decide) ?_
      refine aw_lV (As := [.int _]) X hR.g0 (l_boom hR _ (by decide)) s_L_63 k_X4_boom (by decide) ⟨rfl, rfl⟩ (by exact ⟨Nat.le_of_ble_eq_true rfl, Nat.le_of_ble_eq_true rfl⟩) rfl (by exact Nat.le_of_ble_eq_true rfl) rfl dL_act_323 (fun μ hP => ?_)
      obtain ⟨hR, hK⟩ := hP
      have hF : ∀ q, Kp q → q ≠ am → μ q = μ0 q := fun q h1 h2 => (hK q h1).trans (hF q h1 h2)
      have hm := (hK _ hk).trans hm
      have eQ := aQ_10 (z := z) (x := x) (y := y) s29_11
      have eF := aF_10 (z := z) (x := x) (y := y) (f := f) s29_11
      rw [if_neg c315_12] at eQ
      refine aw_widen (k := 1) (n := 4) (by exact Nat.le_of_ble_eq_true rfl) (by exact Nat.le_of_ble_eq_true rfl) ?_
      refine aw_iret X hQ dL_act_326 ?_
      rw [eQ, eF]
      exact ⟨rfl, hR, hm, hF⟩
  by_cases s29_12 : (lw x (18 : Int32)) = 11
  · refine aw_tableV (tgt := 311) X (11) s29_12 dL_act_29 (by decide) (by decide) rfl (by decide) ?_
    refine aw_aload_n X dL_act_311 rfl ?_
    refine aw_iload_n X dL_act_312 rfl ?_
    refine aw_iconst X (3) dL_act_313 rfl ?_
    refine aw_iand X dL_act_314 ?_
    refine aw_if_le (tgt := 322) X dL_act_315 (by decide) (fun c315_13 => ?_) (fun c315_13 => ?_)
    · skip
      refine aw_iconst X (0) dL_act_322 rfl ?_
      refine aw_lV (As := [.int _]) X hR.g0 (l_boom hR _ (by decide)) s_L_63 k_X4_boom (by decide) ⟨rfl, rfl⟩ (by exact ⟨Nat.le_of_ble_eq_true rfl, Nat.le_of_ble_eq_true rfl⟩) rfl (by exact Nat.le_of_ble_eq_true rfl) rfl dL_act_323 (fun μ hP => ?_)
      obtain ⟨hR, hK⟩ := hP
      have hF : ∀ q, Kp q → q ≠ am → μ q = μ0 q := fun q h1 h2 => (hK q h1).trans (hF q h1 h2)
      have hm := (hK _ hk).trans hm
      have eQ := aQ_11 (z := z) (x := x) (y := y) s29_12
      have eF := aF_11 (z := z) (x := x) (y := y) (f := f) s29_12
      rw [if_pos c315_13] at eQ
      refine aw_widen (k := 1) (n := 4) (by exact Nat.le_of_ble_eq_true rfl) (by exact Nat.le_of_ble_eq_true rfl) ?_
      refine aw_iret X hQ dL_act_326 ?_
      rw [eQ, eF]
      exact ⟨rfl, hR, hm, hF⟩
    · skip
      refine aw_iconst X (1) dL_act_318 rfl ?_
      refine aw_goto (tgt := 323) X dL_act_319 (by decide) ?_
      refine aw_lV (As := [.int _]) X hR.g0 (l_boom hR _ (by decide)) s_L_63 k_X4_boom (by decide) ⟨rfl, rfl⟩ (by exact ⟨Nat.le_of_ble_eq_true rfl, Nat.le_of_ble_eq_true rfl⟩) rfl (by exact Nat.le_of_ble_eq_true rfl) rfl dL_act_323 (fun μ hP => ?_)
      obtain ⟨hR, hK⟩ := hP
      have hF : ∀ q, Kp q → q ≠ am → μ q = μ0 q := fun q h1 h2 => (hK q h1).trans (hF q h1 h2)
      have hm := (hK _ hk).trans hm
      have eQ := aQ_11 (z := z) (x := x) (y := y) s29_12
      have eF := aF_11 (z := z) (x := x) (y := y) (f := f) s29_12
      rw [if_neg c315_13] at eQ
      refine aw_widen (k := 1) (n := 4) (by exact Nat.le_of_ble_eq_true rfl) (by exact Nat.le_of_ble_eq_true rfl) ?_
      refine aw_iret X hQ dL_act_326 ?_
      rw [eQ, eF]
      exact ⟨rfl, hR, hm, hF⟩
  by_cases s29_13 : (lw x (18 : Int32)) = 12
  · refine aw_tableV (tgt := 327) X (12) s29_13 dL_act_29 (by decide) (by decide) rfl (by decide) ?_
    refine aw_aload_n X dL_act_327 rfl ?_
    refine aw_iload X dL_act_328 rfl ?_
    refine aw_iconst X (1) dL_act_330 rfl ?_
    refine aw_iload_n X dL_act_331 rfl ?_
    refine aw_iconst X (5) dL_act_332 rfl ?_
    refine aw_ishr X dL_act_333 ?_
    refine aw_bipush X (40) dL_act_334 rfl ?_
    refine aw_lSF (As := [.int _, .int _]) X (c_L_low (kl K) U _ _ _ (by decide)) s_L_35 k_L_low (by decide) ⟨rfl, rfl⟩ (by exact ⟨Nat.le_of_ble_eq_true rfl, Nat.le_of_ble_eq_true rfl⟩) rfl (by exact Nat.le_of_ble_eq_true rfl) dL_act_336 ?_
    refine aw_iadd X dL_act_339 ?_
    refine aw_lV (As := [.int _, .int _]) X hR.g0 (l_draw hR _ _) s_L_67 k_X4_draw (by decide) ⟨rfl, rfl⟩ (by exact ⟨Nat.le_of_ble_eq_true rfl, Nat.le_of_ble_eq_true rfl⟩) rfl (by exact Nat.le_of_ble_eq_true rfl) rfl dL_act_340 (fun μ hP => ?_)
    obtain ⟨hR, hK⟩ := hP
    have hF : ∀ q, Kp q → q ≠ am → μ q = μ0 q := fun q h1 h2 => (hK q h1).trans (hF q h1 h2)
    have hm := (hK _ hk).trans hm
    refine aw_istore X dL_act_343 rfl (by decide) ?_
    refine aw_aload_n X dL_act_345 rfl ?_
    refine aw_bipush X (8) dL_act_346 rfl ?_
    refine aw_iload X dL_act_348 rfl ?_
    refine aw_iadd X dL_act_350 ?_
    obtain ⟨g, hg, eg⟩ : ∃ g, g < 3 ∧ (lw (y >>> ((3 : Int32) &&& 31)) (3 : Int32)) = nI g := lw_rg _ (n := 3) (by decide) (by decide)
    refine aw_top (nI (8 + g)) (by rw [eg]; exact nI_add (a := 8) (b := g)) ?_
    refine aw_dup2 X dL_act_351 rfl rfl ?_
    refine aw_mld X hm (8 + g) (vp_in_nI (by omega) (by decide)) (nI_clamp (by omega)) dL_act_352 ?_
    refine aw_iload X dL_act_353 rfl ?_
    refine aw_if_lt (tgt := 371) X dL_act_355 (by decide) (fun c355_14 => ?_) (fun c355_14 => ?_)
    · skip
      refine aw_iconst X (0) dL_act_371 rfl ?_
      refine aw_iadd X dL_act_372 ?_
      refine aw_mst X hR hk hm (8 + g) (vp_in_nI (by omega) (by decide)) (nI_clamp (by omega)) dL_act_373 (fun μ hR hm hx => ?_)
      have hF : ∀ q, Kp q → q ≠ am → μ q = μ0 q := fun q h1 h2 => (hx q h2).trans (hF q h1 h2)
      refine aw_iload X dL_act_374 rfl ?_
      have eQ := aQ_12 (z := z) (x := x) (y := y) s29_13
      have eF := aF_12 (z := z) (x := x) (y := y) (f := f) s29_13
      rw [if_pos c355_14] at eF
      rw [eg, show tn (nI g) = g from nI_clamp (by omega)] at eF
      refine aw_widen (k := 1) (n := 4) (by exact Nat.le_of_ble_eq_true rfl) (by exact Nat.le_of_ble_eq_true rfl) ?_
      refine aw_iret X hQ dL_act_376 ?_
      rw [eQ, eF]
      exact ⟨rfl, hR, hm, hF⟩
    · skip
      refine aw_iconst X (1) dL_act_358 rfl ?_
      refine aw_iload_n X dL_act_359 rfl ?_
      refine aw_iconst X (5) dL_act_360 rfl ?_
      refine aw_ishr X dL_act_361 ?_
      refine aw_bipush X (40) dL_act_362 rfl ?_
      refine aw_lSF (As := [.int _, .int _]) X (c_L_low (kl K) U _ _ _ (by decide)) s_L_35 k_L_low (by decide) ⟨rfl, rfl⟩ (by exact ⟨Nat.le_of_ble_eq_true rfl, Nat.le_of_ble_eq_true rfl⟩) rfl (by exact Nat.le_of_ble_eq_true rfl) dL_act_364 ?_
      refine aw_iadd X dL_act_367 ?_
      refine aw_goto (tgt := 372) X dL_act_368 (by decide) ?_
      refine aw_iadd X dL_act_372 ?_
      refine aw_mst X hR hk hm (8 + g) (vp_in_nI (by omega) (by decide)) (nI_clamp (by omega)) dL_act_373 (fun μ hR hm hx => ?_)
      have hF : ∀ q, Kp q → q ≠ am → μ q = μ0 q := fun q h1 h2 => (hx q h2).trans (hF q h1 h2)
      refine aw_iload X dL_act_374 rfl ?_
      have eQ := aQ_12 (z := z) (x := x) (y := y) s29_13
      have eF := aF_12 (z := z) (x := x) (y := y) (f := f) s29_13
      rw [if_neg c355_14] at eF
      rw [eg, show tn (nI g) = g from nI_clamp (by omega)] at eF
      refine aw_widen (k := 1) (n := 4) (by exact Nat.le_of_ble_eq_true rfl) (by exact Nat.le_of_ble_eq_true rfl) ?_
      refine aw_iret X hQ dL_act_376 ?_
      rw [eQ, eF]
      exact ⟨rfl, hR, hm, hF⟩
  by_cases s29_14 : (lw x (18 : Int32)) = 13
  · refine aw_tableV (tgt := 377) X (13) s29_14 dL_act_29 (by decide) (by decide) rfl (by decide) ?_
    refine aw_iload_n X dL_act_377 rfl ?_
    refine aw_iconst X (4) dL_act_378 rfl ?_
    refine aw_lSF (As := [.int _, .int _]) X (c_L_low (kl K) U _ _ _ (by decide)) s_L_35 k_L_low (by decide) ⟨rfl, rfl⟩ (by exact ⟨Nat.le_of_ble_eq_true rfl, Nat.le_of_ble_eq_true rfl⟩) rfl (by exact Nat.le_of_ble_eq_true rfl) dL_act_379 ?_
    refine aw_istore X dL_act_382 rfl (by decide) ?_
    refine aw_aload_n X dL_act_384 rfl ?_
    refine aw_iload X dL_act_385 rfl ?_
    refine aw_iload X dL_act_387 rfl ?_
    refine aw_if_ne (tgt := 406) X dL_act_389 (by decide) (fun c389_15 => ?_) (fun c389_15 => ?_)
    · skip
      refine aw_iload X dL_act_406 rfl ?_
      refine aw_iconst X (1) dL_act_408 rfl ?_
      refine aw_icmp_ne (tgt := 423) X dL_act_409 (by decide) (fun c409_16 => ?_) (fun c409_16 => ?_)
      · skip
        refine aw_iload X dL_act_423 rfl ?_
        refine aw_iconst X (2) dL_act_425 rfl ?_
        refine aw_icmp_ne (tgt := 440) X dL_act_426 (by decide) (fun c426_17 => ?_) (fun c426_17 => ?_)
        · skip
          refine aw_iconst X (1) dL_act_440 rfl ?_
          refine aw_iload_n X dL_act_441 rfl ?_
          refine aw_iconst X (5) dL_act_442 rfl ?_
          refine aw_ishr X dL_act_443 ?_
          refine aw_bipush X (40) dL_act_444 rfl ?_
          refine aw_lSF (As := [.int _, .int _]) X (c_L_low (kl K) U _ _ _ (by decide)) s_L_35 k_L_low (by decide) ⟨rfl, rfl⟩ (by exact ⟨Nat.le_of_ble_eq_true rfl, Nat.le_of_ble_eq_true rfl⟩) rfl (by exact Nat.le_of_ble_eq_true rfl) dL_act_446 ?_
          refine aw_iadd X dL_act_449 ?_
          refine aw_lV (As := [.int _, .int _]) X hR.g0 (l_set hR _ _) s_L_70 k_X4_set (by decide) ⟨rfl, rfl⟩ (by exact ⟨Nat.le_of_ble_eq_true rfl, Nat.le_of_ble_eq_true rfl⟩) rfl (by exact Nat.le_of_ble_eq_true rfl) rfl dL_act_450 (fun μ hP => ?_)
          obtain ⟨hR, hK⟩ := hP
          have hF : ∀ q, Kp q → q ≠ am → μ q = μ0 q := fun q h1 h2 => (hK q h1).trans (hF q h1 h2)
          have hm := (hK _ hk).trans hm
          have eQ := aQ_13 (z := z) (x := x) (y := y) s29_14
          have eF := aF_13 (z := z) (x := x) (y := y) (f := f) s29_14
          rw [if_pos c389_15] at eQ
          rw [if_pos c409_16] at eQ
          rw [if_pos c426_17] at eQ
          refine aw_widen (k := 1) (n := 4) (by exact Nat.le_of_ble_eq_true rfl) (by exact Nat.le_of_ble_eq_true rfl) ?_
          refine aw_iret X hQ dL_act_453 ?_
          rw [eQ, eF]
          exact ⟨rfl, hR, hm, hF⟩
        · skip
          refine aw_iload_n X dL_act_429 rfl ?_
          refine aw_iconst X (5) dL_act_430 rfl ?_
          refine aw_ishr X dL_act_431 ?_
          refine aw_bipush X (12) dL_act_432 rfl ?_
          refine aw_lSF (As := [.int _, .int _]) X (c_L_low (kl K) U _ _ _ (by decide)) s_L_35 k_L_low (by decide) ⟨rfl, rfl⟩ (by exact ⟨Nat.le_of_ble_eq_true rfl, Nat.le_of_ble_eq_true rfl⟩) rfl (by exact Nat.le_of_ble_eq_true rfl) dL_act_434 ?_
          refine aw_goto (tgt := 450) X dL_act_437 (by decide) ?_
          refine aw_lV (As := [.int _, .int _]) X hR.g0 (l_set hR _ _) s_L_70 k_X4_set (by decide) ⟨rfl, rfl⟩ (by exact ⟨Nat.le_of_ble_eq_true rfl, Nat.le_of_ble_eq_true rfl⟩) rfl (by exact Nat.le_of_ble_eq_true rfl) rfl dL_act_450 (fun μ hP => ?_)
          obtain ⟨hR, hK⟩ := hP
          have hF : ∀ q, Kp q → q ≠ am → μ q = μ0 q := fun q h1 h2 => (hK q h1).trans (hF q h1 h2)
          have hm := (hK _ hk).trans hm
          have eQ := aQ_13 (z := z) (x := x) (y := y) s29_14
          have eF := aF_13 (z := z) (x := x) (y := y) (f := f) s29_14
          rw [if_pos c389_15] at eQ
          rw [if_pos c409_16] at eQ
          rw [if_neg (not_not_intro c426_17)] at eQ
          refine aw_widen (k := 1) (n := 4) (by exact Nat.le_of_ble_eq_true rfl) (by exact Nat.le_of_ble_eq_true rfl) ?_
          refine aw_iret X hQ dL_act_453 ?_
          rw [eQ, eF]
          exact ⟨rfl, hR, hm, hF⟩
      · skip
        refine aw_iload_n X dL_act_412 rfl ?_
        refine aw_iconst X (5) dL_act_413 rfl ?_
        refine aw_ishr X dL_act_414 ?_
        refine aw_bipush X (41) dL_act_415 rfl ?_
        refine aw_lSF (As := [.int _, .int _]) X (c_L_low (kl K) U _ _ _ (by decide)) s_L_35 k_L_low (by decide) ⟨rfl, rfl⟩ (by exact ⟨Nat.le_of_ble_eq_true rfl, Nat.le_of_ble_eq_true rfl⟩) rfl (by exact Nat.le_of_ble_eq_true rfl) dL_act_417 ?_
        refine aw_goto (tgt := 450) X dL_act_420 (by decide) ?_
        refine aw_lV (As := [.int _, .int _]) X hR.g0 (l_set hR _ _) s_L_70 k_X4_set (by decide) ⟨rfl, rfl⟩ (by exact ⟨Nat.le_of_ble_eq_true rfl, Nat.le_of_ble_eq_true rfl⟩) rfl (by exact Nat.le_of_ble_eq_true rfl) rfl dL_act_450 (fun μ hP => ?_)
        obtain ⟨hR, hK⟩ := hP
        have hF : ∀ q, Kp q → q ≠ am → μ q = μ0 q := fun q h1 h2 => (hK q h1).trans (hF q h1 h2)
        have hm := (hK _ hk).trans hm
        have eQ := aQ_13 (z := z) (x := x) (y := y) s29_14
        have eF := aF_13 (z := z) (x := x) (y := y) (f := f) s29_14
        rw [if_pos c389_15] at eQ
        rw [if_neg (not_not_intro c409_16)] at eQ
        refine aw_widen (k := 1) (n := 4) (by exact Nat.le_of_ble_eq_true rfl) (by exact Nat.le_of_ble_eq_true rfl) ?_
        refine aw_iret X hQ dL_act_453 ?_
        rw [eQ, eF]
        exact ⟨rfl, hR, hm, hF⟩
    · skip
      refine aw_bipush X (80) dL_act_392 rfl ?_
      refine aw_iload_n X dL_act_394 rfl ?_
      refine aw_iconst X (5) dL_act_395 rfl ?_
      refine aw_ishr X dL_act_396 ?_
      refine aw_bipush X (50) dL_act_397 rfl ?_
      refine aw_lSF (As := [.int _, .int _]) X (c_L_low (kl K) U _ _ _ (by decide)) s_L_35 k_L_low (by decide) ⟨rfl, rfl⟩ (by exact ⟨Nat.le_of_ble_eq_true rfl, Nat.le_of_ble_eq_true rfl⟩) rfl (by exact Nat.le_of_ble_eq_true rfl) dL_act_399 ?_
      refine aw_iadd X dL_act_402 ?_
      refine aw_goto (tgt := 450) X dL_act_403 (by decide) ?_
      refine aw_lV (As := [.int _, .int _]) X hR.g0 (l_set hR _ _) s_L_70 k_X4_set (by decide) ⟨rfl, rfl⟩ (by exact ⟨Nat.le_of_ble_eq_true rfl, Nat.le_of_ble_eq_true rfl⟩) rfl (by exact Nat.le_of_ble_eq_true rfl) rfl dL_act_450 (fun μ hP => ?_)
      obtain ⟨hR, hK⟩ := hP
      have hF : ∀ q, Kp q → q ≠ am → μ q = μ0 q := fun q h1 h2 => (hK q h1).trans (hF q h1 h2)
      have hm := (hK _ hk).trans hm
      have eQ := aQ_13 (z := z) (x := x) (y := y) s29_14
      have eF := aF_13 (z := z) (x := x) (y := y) (f := f) s29_14
      rw [if_neg (not_not_intro c389_15)] at eQ
      refine aw_widen (k := 1) (n := 4) (by exact Nat.le_of_ble_eq_true rfl) (by exact Nat.le_of_ble_eq_true rfl) ?_
      refine aw_iret X hQ dL_act_453 ?_
      rw [eQ, eF]
      exact ⟨rfl, hR, hm, hF⟩
  by_cases s29_15 : (lw x (18 : Int32)) = 14
  · refine aw_tableV (tgt := 454) X (14) s29_15 dL_act_29 (by decide) (by decide) rfl (by decide) ?_
    refine aw_aload_n X dL_act_454 rfl ?_
    refine aw_iload X dL_act_455 rfl ?_
    refine aw_bipush X (20) dL_act_457 rfl ?_
    refine aw_iload_n X dL_act_459 rfl ?_
    refine aw_iconst X (5) dL_act_460 rfl ?_
    refine aw_ishr X dL_act_461 ?_
    refine aw_bipush X (101) dL_act_462 rfl ?_
    refine aw_lSF (As := [.int _, .int _]) X (c_L_low (kl K) U _ _ _ (by decide)) s_L_35 k_L_low (by decide) ⟨rfl, rfl⟩ (by exact ⟨Nat.le_of_ble_eq_true rfl, Nat.le_of_ble_eq_true rfl⟩) rfl (by exact Nat.le_of_ble_eq_true rfl) dL_act_464 ?_
    refine aw_iadd X dL_act_467 ?_
    refine aw_lV (As := [.int _, .int _]) X hR.g0 (l_reach hR _ _) s_L_73 k_X4_reach (by decide) ⟨rfl, rfl⟩ (by exact ⟨Nat.le_of_ble_eq_true rfl, Nat.le_of_ble_eq_true rfl⟩) rfl (by exact Nat.le_of_ble_eq_true rfl) rfl dL_act_468 (fun μ hP => ?_)
    obtain ⟨hR, hK⟩ := hP
    have hF : ∀ q, Kp q → q ≠ am → μ q = μ0 q := fun q h1 h2 => (hK q h1).trans (hF q h1 h2)
    have hm := (hK _ hk).trans hm
    have eQ := aQ_14 (z := z) (x := x) (y := y) s29_15
    have eF := aF_14 (z := z) (x := x) (y := y) (f := f) s29_15
    skip
    refine aw_widen (k := 1) (n := 4) (by exact Nat.le_of_ble_eq_true rfl) (by exact Nat.le_of_ble_eq_true rfl) ?_
    refine aw_iret X hQ dL_act_471 ?_
    rw [eQ, eF]
    exact ⟨rfl, hR, hm, hF⟩
  refine aw_tableOut (tgt := 472) X dL_act_29 (by have h0 := lv_neT (a := 0) s29_1 (by decide); have h1 := lv_neT (a := 1) s29_2 (by decide); have h2 := lv_neT (a := 2) s29_3 (by decide); have h3 := lv_neT (a := 3) s29_4 (by decide); have h4 := lv_neT (a := 4) s29_5 (by decide); have h5 := lv_neT (a := 5) s29_6 (by decide); have h6 := lv_neT (a := 6) s29_7 (by decide); have h7 := lv_neT (a := 7) s29_8 (by decide); have h8 := lv_neT (a := 8) s29_9 (by decide); have h9 := lv_neT (a := 9) s29_10 (by decide); have h10 := lv_neT (a := 10) s29_11 (by decide); have h11 := lv_neT (a := 11) s29_12 (by decide); have h12 := lv_neT (a := 12) s29_13 (by decide); have h13 := lv_neT (a := 13) s29_14 (by decide); have h14 := lv_neT (a := 14) s29_15 (by decide); omega) (by decide) ?_
  refine aw_aload_n X dL_act_472 rfl ?_
  refine aw_iconst X (1) dL_act_473 rfl ?_
  refine aw_iload_n X dL_act_474 rfl ?_
  refine aw_bipush X (10) dL_act_475 rfl ?_
  refine aw_lSF (As := [.int _, .int _]) X (c_L_low (kl K) U _ _ _ (by decide)) s_L_35 k_L_low (by decide) ⟨rfl, rfl⟩ (by exact ⟨Nat.le_of_ble_eq_true rfl, Nat.le_of_ble_eq_true rfl⟩) rfl (by exact Nat.le_of_ble_eq_true rfl) dL_act_477 ?_
  refine aw_iadd X dL_act_480 ?_
  refine aw_lV (As := [.int _]) X hR.g0 (l_pass hR _) s_L_76 k_X4_pass (by decide) ⟨rfl, rfl⟩ (by exact ⟨Nat.le_of_ble_eq_true rfl, Nat.le_of_ble_eq_true rfl⟩) rfl (by exact Nat.le_of_ble_eq_true rfl) rfl dL_act_481 (fun μ hP => ?_)
  obtain ⟨hR, hK⟩ := hP
  have hF : ∀ q, Kp q → q ≠ am → μ q = μ0 q := fun q h1 h2 => (hK q h1).trans (hF q h1 h2)
  have hm := (hK _ hk).trans hm
  have eQ := aQ_d (z := z) (x := x) (y := y) s29_1 s29_2 s29_3 s29_4 s29_5 s29_6 s29_7 s29_8 s29_9 s29_10 s29_11 s29_12 s29_13 s29_14 s29_15
  have eF := aF_d (z := z) (x := x) (y := y) (f := f) s29_1 s29_2 s29_3 s29_4 s29_5 s29_6 s29_7 s29_8 s29_9 s29_10 s29_11 s29_12 s29_13 s29_14 s29_15
  skip
  refine aw_widen (k := 1) (n := 4) (by exact Nat.le_of_ble_eq_true rfl) (by exact Nat.le_of_ble_eq_true rfl) ?_
  refine aw_iret X hQ dL_act_484 ?_
  rw [eQ, eF]
  exact ⟨rfl, hR, hm, hF⟩

set_option maxHeartbeats 1000000 in
set_option maxRecDepth 100000 in
theorem c_L_redo (l : Launch) (U : xU) {Kp : Nat → Prop} {μ0 : xH} {a : Nat} {z : xV} {un : Nat} {t s0 s1 : xV} {v0 v1 : Int32} (hR : LR U Kp μ0 a z un t s0 s1 v0 v1) (hal : ∀ q, Kp q → μ0 q ≠ none) (x y : Int32) : Ct l U yL_redo cL_redo 3 (some .int) ({ frames := 8, cells := 2, slots := 16, locals := 184 } : Room) [.ref a, .int x, .int y] μ0 (fun r μ' => r = some (.int (aQ z x y).1) ∧ LR U Kp μ' a (aQ z x y).2 (dUn un (aQ z x y)) (if isErr (aQ z x y).1 = true then t else z) s0 s1 v0 v1 ∧ KF Kp μ0 μ') := by
  refine Ct.of [some (.ref a), some (.int x), some (.int y)] (by decide +kernel) rfl (Nat.le_of_ble_eq_true rfl) (fun K Q X hnm hQ => ?_)
  refine aw_aload_n X dL_redo_0 rfl ?_
  refine aw_iload_n X dL_redo_1 rfl ?_
  refine aw_iload_n X dL_redo_2 rfl ?_
  refine aw_bipush X (12) dL_redo_3 rfl ?_
  refine aw_mnew X hR 12 (by decide) rfl (by decide) (by decide) dL_redo_5 (fun b μ hR' hn hm hx => ?_)
  have hb : ∀ q, Kp q → q ≠ b := fun q h1 e => hal q h1 (e ▸ hn)
  refine aw_lS (As := [.ref _, .int _, .int _, .ref _]) X 1 4 (c_L_act (kl K) U hR' (Or.inr rfl) hm (fun q hq => ?_) x y) s_L_124 k_L_act (by decide) ⟨rfl, rfl⟩ (by exact ⟨Nat.le_of_ble_eq_true rfl, Nat.le_of_ble_eq_true rfl⟩) rfl (by exact Nat.le_of_ble_eq_true rfl) dL_redo_7 (fun μ' hP => ?_)
  · rcases hq with hq | hq
    · rw [hx q (hb q hq)]; exact hal q hq
    · rw [hq, hm]; exact fun e => by cases e
  obtain ⟨g1, g2, g3⟩ := hP
  exact aw_iret X hQ dL_redo_10 ⟨rfl, g1.mono (fun q h => Or.inl h), fun q hq => (g3 q (Or.inl hq) (hb q hq)).trans (hx q (hb q hq))⟩
