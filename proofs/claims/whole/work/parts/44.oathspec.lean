/-! What an OATH tells, as one value D for both sides: D j i, j the slot of the array in Oath (0 years, 1 trial, 2 counts, 3 news, 4 worth, 5 shores, 6 kind, 7 home, 8 heart, 9 born, 10 rivalOf, 11 odds, 12 letterTo, 13 letterBy, 14 joined, 15 share, 16 nearLanding, 17 nearAge). -/
abbrev oD : Type := Nat → Nat → Int32
def dN (D : oD) (i : Nat) : Nat := (D 2 i).toNatClampNeg
def WFc (D : oD) : Prop := (∀ i, i < 7 → D 2 i = nI (dN D i)) ∧ dN D 0 ≤ 6 ∧ dN D 1 ≤ 10 ∧ dN D 2 ≤ 8 ∧ dN D 3 ≤ 8 ∧ dN D 4 ≤ 6 ∧ dN D 5 ≤ 5 ∧ dN D 6 ≤ 4
def WFh (D : oD) : Prop := ∀ w, w < dN D 2 → ∃ q, q < dN D 0 ∧ D 7 w = nI q
/-- the class's Oath at o holds D -/
def oC (I : Nat → Nat → Int32) (o : Nat) (D : oD) : Prop := I o 0 = D 0 0 ∧ I o 1 = D 1 0 ∧ (∀ i, i < 7 → I (o + 1) i = D 2 i) ∧
  (∀ i, i < dN D 0 → I (o + 2) i = D 3 i ∧ I (o + 3) i = D 4 i) ∧ (∀ i, i < 6 → I (o + 4) i = D 5 i) ∧
  (∀ i, i < dN D 2 → I (o + 5) i = D 6 i ∧ I (o + 6) i = D 7 i ∧ I (o + 7) i = D 8 i ∧ I (o + 8) i = D 9 i) ∧
  (∀ i, i < dN D 3 → I (o + 9) i = D 10 i ∧ I (o + 10) i = D 11 i) ∧ (∀ i, i < dN D 4 → I (o + 11) i = D 12 i ∧ I (o + 12) i = D 13 i) ∧
  (∀ i, i < dN D 5 → I (o + 13) i = D 14 i ∧ I (o + 14) i = D 15 i) ∧ (∀ i, i < dN D 6 → I (o + 15) i = D 16 i ∧ I (o + 16) i = D 17 i)
/-- the reference's row at r (98, or 99 the fresh one) holds D -/
def oM (I : Nat → Nat → Int32) (r : Nat) (D : oD) : Prop := I r 0 = D 0 0 ∧ I r 1 = D 1 0 ∧ (∀ i, i < 7 → I r (2 + i) = D 2 i) ∧
  (∀ i, i < dN D 0 → I r (9 + 3 * i) = D 3 i ∧ I r (9 + 3 * i + 1) = D 4 i) ∧ (∀ i, i < 6 → I r (9 + 3 * i + 2) = D 5 i) ∧
  (∀ i, i < dN D 2 → I r (27 + 4 * i) = D 6 i ∧ I r (27 + 4 * i + 1) = D 7 i ∧ I r (27 + 4 * i + 2) = D 8 i ∧ I r (27 + 4 * i + 3) = D 9 i) ∧
  (∀ i, i < dN D 3 → I r (59 + 2 * i) = D 10 i ∧ I r (59 + 2 * i + 1) = D 11 i) ∧ (∀ i, i < dN D 4 → I r (75 + 2 * i) = D 12 i ∧ I r (75 + 2 * i + 1) = D 13 i) ∧
  (∀ i, i < dN D 5 → I r (87 + 2 * i) = D 14 i ∧ I r (87 + 2 * i + 1) = D 15 i) ∧ (∀ i, i < dN D 6 → I r (97 + 2 * i) = D 16 i ∧ I r (97 + 2 * i + 1) = D 17 i)
/-- a loop from j on, m times -/
def gN {α : Type} (f : Nat → α → α) : Nat → Nat → α → α
  | _, 0, a => a
  | j, m + 1, a => gN f (j + 1) m (f j a)
def bit (j : Nat) : Int32 := (1 : Int32) <<< (nI j &&& 31)
def ageOk (a : Int32) : Int32 := if a < 16 then 0 else if 40 < a then 0 else 1
/-- HEART: without rivals -/
def heartS (D : oD) (w : Nat) (y : Int32) : Int32 := if ageOk (y - D 9 w) = 0 then 0 else
  if D 6 w = 1 then D 8 w else if D 6 w = 2 then (if D 8 w * (200 - D 3 (D 7 w).toNatClampNeg) / 200 < D 4 (D 7 w).toNatClampNeg / 2 then D 4 (D 7 w).toNatClampNeg / 2 else D 8 w * (200 - D 3 (D 7 w).toNatClampNeg) / 200)
  else if D 6 w = 3 then D 8 w * (200 - D 3 (D 7 w).toNatClampNeg) / 200 / 2 else D 8 w * (200 - D 3 (D 7 w).toNatClampNeg) / 200
def loveS (D : oD) (w : Nat) (y : Int32) : Int32 := gN (fun r a => if D 10 r = nI w then a * (100 - D 11 r) / 100 else a) 0 (dN D 3) (heartS D w y)
def womenInS (D : oD) (h : Int32) : Int32 := gN (fun w a => if D 7 w = h then a ||| bit w else a) 0 (dN D 2) 0
def dueS (D : oD) (h l : Int32) : Int32 := gN (fun k a => if D 12 k = h then (if D 13 k < l then a else a ||| bit k) else a) 0 (dN D 4) 0
def rivalsS (D : oD) (w : Int32) : Int32 := gN (fun k a => if D 10 k = w then a + 1 else a) 0 (dN D 3) 0
def reachS (D : oD) (h : Nat) : Int32 := D 5 h ||| bit h
def reachAllS (D : oD) (b : Int32) : Int32 := gN (fun h a => if (b >>> (nI h &&& 31)) &&& 1 = 0 then a else a ||| reachS D h) 0 (dN D 0) 0
def apartG (D : oD) (b : Int32) : Nat → Nat → Int32 → Int32
  | _, 0, _ => -2
  | j, m + 1, s => if (s >>> (b &&& 31)) &&& 1 = 0 then apartG D b (j + 1) m (reachAllS D s) else nI j
def apartS (D : oD) (a : Nat) (b : Int32) : Int32 := apartG D b 0 (dN D 0) (bit a)
def bcS (x : Int32) : Int32 :=
  let y := x - ((x.toUInt32 >>> ((1 : Int32).toUInt32 &&& Int32.toUInt32 31)).toInt32 &&& 1431655765)
  let z := (y &&& 858993459) + ((y.toUInt32 >>> ((2 : Int32).toUInt32 &&& Int32.toUInt32 31)).toInt32 &&& 858993459)
  let u := (z + (z.toUInt32 >>> ((4 : Int32).toUInt32 &&& Int32.toUInt32 31)).toInt32) &&& 252645135
  let v := u + (u.toUInt32 >>> ((8 : Int32).toUInt32 &&& Int32.toUInt32 31)).toInt32
  let t := v + (v.toUInt32 >>> ((16 : Int32).toUInt32 &&& Int32.toUInt32 31)).toInt32
  t &&& 63
def bellsF (D : oD) (b : Nat) (a : Int32) : Int32 := if bcS a ≤ bcS (nI b) then a else if reachAllS D (nI b) = nI (2 ^ dN D 0 - 1) then nI b else a
def bellsS (D : oD) : Int32 := gN (bellsF D) 0 (2 ^ dN D 0 - 1) (nI (2 ^ dN D 0 - 1))
def dearF (D : oD) (hs lo l : Int32) (w : Nat) (a : Int32 × Int32) : Int32 × Int32 := if (hs >>> (D 7 w &&& 31)) &&& 1 = 0 then a else if (lo >>> (nI w &&& 31)) &&& 1 = 0 then (if loveS D w (l * D 0 0) ≤ a.2 then a else (nI w, loveS D w (l * D 0 0))) else a
def dearS (D : oD) (hs lo l : Int32) : Int32 := (gN (dearF D hs lo l) 0 (dN D 2) (-2, 0)).1
def tN (D : oD) : Nat := (D 1 0).toNatClampNeg
def WFt (D : oD) : Prop := D 1 0 = nI (tN D) ∧ tN D ≤ 3
def servedS (D : oD) (k : Nat) (y : Int32) : Int32 := D 15 k * (if 0 < y - D 14 k then y - D 14 k else 0)
def powS (D : oD) (x : Int64) : Int64 := gN (fun _ a => a * x) 0 (tN D) 1
def yS (D : oD) (y : Int32) : Int32 := gN (fun w a => a + loveS D w y) 0 (dN D 2) 0
def fitS (D : oD) (k : Nat) : Int32 := gN (fun w a => if D 16 k * D 0 0 - D 9 w = D 17 k then a ||| bit w else a) 0 (dN D 2) 0

