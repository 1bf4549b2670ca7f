/-! what the class's methods answer and do, over a jetty's vector: word for word as the code does it -/
abbrev tn (x : Int32) : Nat := x.toNatClampNeg
def flm (x w : Int32) : Int32 := if 0 ≤ x ^^^ w then x - x / w * w else if x - x / w * w = 0 then x - x / w * w else x - x / w * w + w
def isErr (a : Int32) : Bool := decide (a ≤ -100001) && decide (-100005 ≤ a)
def isS (x : Int32) : Bool := decide (0 ≤ x) && decide (x < 2)
def isL (x : Int32) : Bool := decide (0 ≤ x) && decide (x ≤ 400)
def cTide (z : xV) (h : Int32) : Int32 := z 1 * xsV 3 (tn (flm h 12)) / 10
def cHeight (z : xV) (d h : Int32) : Int32 := 100 + cTide z h - d
def cFloats (z : xV) (d h : Int32) : Bool := decide (d + z 2 ≤ z 0 + cTide z h)
def cUnits (z : xV) (p : Nat) : Int32 := 0 + z (tz p 0) + z (tz p 1) + z (tz p 2) + z (tz p 3)
def cDraught (z : xV) (p : Nat) : Int32 := 40 + cUnits z p / 20
def cOther (z : xV) (i : Nat) : Bool := decide (¬ z (hz i 1) = -100006) && decide (¬ z (hz i 1) = z (hz i 2))
def cIsT (z : xV) (p : Int32) : Int32 := if p = 0 then z 13 else bI (decide (0 < p) && decide (p ≤ z 12) && decide (p < 6))
def cConnN (z : xV) : Int32 := 0 + bI (isG (z (hz 0 2))) + bI (isG (z (hz 1 2))) + bI (isG (z (hz 2 2))) + bI (isG (z (hz 3 2)))
def cBurstN (z : xV) : Int32 := 0 + bI (decide (¬ z (hz 0 3) = 0)) + bI (decide (¬ z (hz 1 3) = 0)) + bI (decide (¬ z (hz 2 3) = 0)) + bI (decide (¬ z (hz 3 3) = 0))
def cSpoilt (z : xV) : Int32 := 0 + z 18 + z 19 + z 20 + z 21
def cLateC (z : xV) (p : Nat) : Bool := decide (¬ cIsT z (nI p) = 0) && decide (z 4 < z 6 - z (tz p 4))
def cLateN (z : xV) : Nat → Int32
  | 0 => 0
  | k + 1 => if cLateC z k = true then cLateN z k + 1 else cLateN z k
def cUIT (z : xV) (g : Nat) : Nat → Int32
  | 0 => 0
  | k + 1 => if cIsT z (nI k) = 0 then cUIT z g k + 0 else cUIT z g k + z (tz k g)
def gSet (z : xV) (s v : Int32) : Int32 × xV :=
  if s < 0 ∨ 6 ≤ s then (-100002, z) else if v < xsV 1 (tn s) ∨ xsV 2 (tn s) < v then (-100002, z) else (z (tn s), upd z (tn s) v)
def gArrive (z : xV) (a b c d : Int32) : Int32 × xV :=
  if isL a = false ∨ isL b = false ∨ isL c = false ∨ isL d = false ∨ a + b + c + d = 0 then (-100002, z)
  else if z 12 < 0 ∨ 5 ≤ z 12 then (-100004, z)
  else
    let z1 := upd z 12 (z 12 + 1)
    let p := tn (0 + z1 12)
    let z2 := upd z1 (tz p 0) a
    let z3 := upd z2 (tz p 1) b
    let z4 := upd z3 (tz p 2) c
    let z5 := upd z4 (tz p 3) d
    let z6 := upd z5 (tz p 4) (z5 6)
    (z6 12, z6)
/-- the tankers move up by one; the first place comes last -/
def gRot (z : xV) : xV := fun k => if 50 ≤ k ∧ k < 75 then z (k + 5) else if 75 ≤ k ∧ k < 80 then z (k - 25) else z k
def gBerth (z : xV) : Int32 × xV :=
  if z 12 = 0 ∨ ¬ z 13 = 0 ∨ cFloats z (cDraught z 1) (z 6) = false then (-100005, z)
  else
    let z1 := gRot z
    let z2 := upd z1 12 (z1 12 - 1)
    let z3 := upd z2 13 1
    (cUnits z3 0, z3)
def gLeave (z : xV) : Int32 × xV :=
  if z 13 = 0 ∨ cFloats z (cDraught z 0) (z 6) = false ∨ 0 < cConnN z then (-100005, z)
  else
    let z1 := upd z 13 0
    (cUnits z1 0, z1)
def gReach (z : xV) (h v : Int32) : Int32 × xV :=
  if isG h = false then (-100001, z) else if v < 20 ∨ 120 < v then (-100002, z) else (z (hz (tn h) 0), upd z (hz (tn h) 0) v)
def gConnect (z : xV) (h g : Int32) : Int32 × xV :=
  if isG h = false ∨ isG g = false then (-100001, z)
  else if z 13 = 0 ∨ ¬ z (hz (tn h) 3) = 0 ∨ isG (z (hz (tn h) 2)) = true then (-100005, z)
  else if z (hz (tn h) 0) < cHeight z (cDraught z 0) (z 6) then (-100005, z)
  else
    let z1 := upd z (hz (tn h) 2) g
    (cConnN z1, z1)
def gDisconnect (z : xV) (h : Int32) : Int32 × xV :=
  if isG h = false then (-100001, z) else if isG (z (hz (tn h) 2)) = false then (-100005, z) else (z (hz (tn h) 2), upd z (hz (tn h) 2) (-100006))
def gFlush (z : xV) (h : Int32) : Int32 × xV :=
  if isG h = false then (-100001, z)
  else
    let g := z (hz (tn h) 1)
    if isG (z (hz (tn h) 2)) = true ∨ isG g = false then (-100005, z)
    else
      let u := imin 5 (z (14 + tn g))
      let z1 := upd z (14 + tn g) (z (14 + tn g) - u)
      let z2 := upd z1 (18 + tn g) (z1 (18 + tn g) + u)
      let z3 := upd z2 (hz (tn h) 1) (-100006)
      (u, z3)
def gMend (z : xV) (h : Int32) : Int32 × xV :=
  if isG h = false then (-100001, z) else if z (hz (tn h) 3) = 0 then (-100005, z)
  else
    let z1 := upd z (hz (tn h) 3) 0
    let z2 := upd z1 (hz (tn h) 1) (-100006)
    (cBurstN z2, z2)
def gBoom (z : xV) (b : Int32) : Int32 × xV :=
  if z 7 = b then (-100005, z)
  else
    let u := z 8
    let z1 := upd z 7 b
    let z2 := upd z1 10 (z1 10 + u)
    let z3 := upd z2 8 0
    (u, z3)
def gDraw (z : xV) (g u : Int32) : Int32 × xV :=
  if isG g = false then (-100001, z) else if u < 1 ∨ 1000 < u then (-100002, z) else if z (14 + tn g) < u then (-100005, z)
  else
    let z1 := upd z (14 + tn g) (z (14 + tn g) - u)
    (z1 (14 + tn g), z1)
/-! an hour -/
def gTear (z : xV) : xV :=
  if z 7 = 0 ∨ iabs (cTide z (z 6) - cTide z (z 6 - 1)) ≤ 15 then z
  else
    let z1 := upd z 7 0
    let z2 := upd z1 9 (z1 9 + z1 8)
    upd z2 8 0
def gBurst (z : xV) (i : Nat) : xV :=
  let g := z (hz i 2)
  let z1 := upd z (hz i 3) 1
  let z2 := upd z1 (hz i 2) (-100006)
  if isG g = false then z2
  else
    let u := imin (z2 3) (z2 (tz 0 (tn g)))
    let ib := if z2 7 = 0 then 0 else imin u (200 - z2 8)
    let z3 := upd z2 (tz 0 (tn g)) (z2 (tz 0 (tn g)) - u)
    let z4 := upd z3 (22 + tn g) (z3 (22 + tn g) + u)
    let z5 := upd z4 8 (z4 8 + ib)
    upd z5 9 (z5 9 + (u - ib))
def gShort (z : xV) (i : Nat) : xV :=
  if isG (z (hz i 2)) = false ∨ cHeight z (cDraught z 0) (z 6) ≤ z (hz i 0) then z
  else if z (80 + i) = 0 then gBurst z i
  else upd z (hz i 0) (cHeight z (cDraught z 0) (z 6))
def gShorts (z : xV) : Nat → xV
  | 0 => z
  | k + 1 => gShort (gShorts z k) k
def gBursts (z : xV) : xV := if z 13 = 0 then z else gShorts z 4
def gMove (z : xV) (i : Nat) : Int32 × xV :=
  let g := z (hz i 2)
  if isG g = false then (0, z)
  else
    let u := imin (z 3) (imin (z (tz 0 (tn g))) (1000 - z (14 + tn g)))
    if ¬ 0 < u then (0, z)
    else
      let z1 := upd z (tz 0 (tn g)) (z (tz 0 (tn g)) - u)
      let z2 := upd z1 (hz i 1) g
      if cOther z i = true then
        let z3 := upd z2 (18 + tn g) (z2 (18 + tn g) + u)
        (0, upd z3 (hz i 5) (z3 (hz i 5) + u))
      else
        let z3 := upd z2 (14 + tn g) (z2 (14 + tn g) + u)
        (u, upd z3 (hz i 4) (z3 (hz i 4) + u))
def gMoves (z : xV) : Nat → Int32 × xV
  | 0 => (0, z)
  | k + 1 => ((gMoves z k).1 + (gMove (gMoves z k).2 k).1, (gMove (gMoves z k).2 k).2)
def gMoveU (z : xV) : Int32 × xV :=
  if z 13 = 0 ∨ z 7 = 0 ∨ cFloats z (cDraught z 0) (z 6) = false then (0, z) else gMoves z 4
def gHour (z : xV) : Int32 × xV :=
  let z1 := upd z 6 (z 6 + 1)
  let z2 := gTear z1
  let z3 := gBursts z2
  let q := gMoveU z3
  (q.1, upd q.2 11 (q.2 11 + cLateN q.2 6 * q.2 5))
def gHours (z : xV) : Nat → Int32 × xV
  | 0 => (0, z)
  | k + 1 => ((gHours z k).1 + (gHour (gHours z k).2).1, (gHour (gHours z k).2).2)
def gPass (z : xV) (n : Int32) : Int32 × xV :=
  if n < 1 ∨ 48 < n then (-100002, z) else if 9999 < z 6 + n then (-100004, z) else gHours z (tn n)
/-! what there is -/
def cTanker (z : xV) (p w : Int32) : Int32 :=
  if w < 0 ∨ 7 < w then -100002 else if cIsT z p = 0 then -100001
  else if w = 4 then cDraught z (tn p) else if w = 5 then cHeight z (cDraught z (tn p)) (z 6)
  else if w = 6 then bI (cFloats z (cDraught z (tn p)) (z 6)) else if w = 7 then z 6 - z (tz (tn p) 4) else z (tz (tn p) (tn w))
def cHose (z : xV) (h w : Int32) : Int32 :=
  if isG h = false then -100001
  else if w = 0 then z (hz (tn h) 0) else if w = 1 then z (hz (tn h) 1) else if w = 2 then z (hz (tn h) 2)
  else if w = 3 then bI (decide (¬ z (hz (tn h) 3) = 0)) else if w = 4 then z (hz (tn h) 4) else if w = 5 then z (hz (tn h) 5) else -100002
def cGrade (z : xV) (g w : Int32) : Int32 :=
  if isG g = false then -100001
  else if w = 0 then z (14 + tn g) else if w = 1 then cUIT z (tn g) 6 else if w = 2 then z (18 + tn g) else if w = 3 then z (22 + tn g) else -100002
def cNumber (z : xV) (w : Int32) : Int32 :=
  if 0 ≤ w ∧ w < 6 then z (tn w)
  else if w = 6 then z 6 else if w = 7 then cTide z (z 6) else if w = 8 then z 0 + cTide z (z 6) else if w = 9 then z 12
  else if w = 10 then bI (decide (¬ z 13 = 0)) else if w = 11 then cConnN z else if w = 12 then cBurstN z else if w = 13 then bI (decide (¬ z 7 = 0))
  else if w = 14 then z 8 else if w = 15 then z 9 else if w = 16 then z 10 else if w = 17 then z 11 else -100002
