theorem INV_wi0 {S : Ms} (v : Int32) (h : INV S) : INV (wi S 0 v) := h
def isP (S : Ms) (p : Int32) : Bool := inB p 0 (gi S 36 - 1)
theorem sh1 : ∀ c, c < 27 → (1 : Int32) <<< (nI c &&& 31) = nI (2 ^ c) := by decide +kernel
def cVote (S : Ms) (p c b : Int32) : Int32 := if (!(isP S p && inB c 0 8)) = true then 1 else if gA S 41 p.toNatClampNeg = 0 ∧ (gA S 42 p.toNatClampNeg ||| gA S 43 p.toNatClampNeg) >>> (c &&& 31) &&& 1 = 0 then 0 else 2
def sVote (S : Ms) (p c b : Int32) : Ms := if b = 0 then wA (wi S 0 0) 43 p.toNatClampNeg (gA S 43 p.toNatClampNeg ||| 1 <<< (c &&& 31)) else wA (wi S 0 0) 42 p.toNatClampNeg (gA S 42 p.toNatClampNeg ||| 1 <<< (c &&& 31))
def vVote (S : Ms) (p c b : Int32) : Int32 := nI (pop (ca S 42 p.toNatClampNeg ||| ca S 43 p.toNatClampNeg ||| 2 ^ c.toNatClampNeg))
def cProtest (S : Ms) (p c : Int32) : Int32 := if (!(isP S p && inB c 0 7)) = true then 1 else if gA S 41 p.toNatClampNeg = 0 then 0 else 2
def sProtest (S : Ms) (p c : Int32) : Ms := wA (wi S 0 0) 44 p.toNatClampNeg (gA S 44 p.toNatClampNeg ^^^ 1 <<< (c &&& 31))
def vProtest (S : Ms) (p c : Int32) : Bool := decide ((gA S 44 p.toNatClampNeg ^^^ 1 <<< (c &&& 31)) >>> (c &&& 31) &&& 1 = 1)
def cnD (S : Ms) (p : Nat) : Bool := decide (gA S 41 p = 0) && (!decide (gA S 40 p ≤ gi S 1) && (!decide (nI (pop (ca S 42 p ||| ca S 43 p)) < 5) && (decide (gA S 44 p = 0) && !decide (100 ≤ gi S 17))))
def takA (S : Ms) (p : Nat) : Bool := !decide (nI (pop (ca S 42 p)) ≤ nI (pop (ca S 43 p))) && !refA S (ca S 37 p) (gA S 38 p) (gL S 39 p) (gA S 40 p)
def cDecide (S : Ms) (p : Int32) : Int32 := if (!isP S p) = true then 1 else if cnD S p.toNatClampNeg = true then 0 else 2
def sDecide (S : Ms) (p : Int32) : Ms := if takA S p.toNatClampNeg = true then
    wA (sTells (wA (wA (wi S 0 0) 41 p.toNatClampNeg 1) 45 p.toNatClampNeg (gi S 1)) (gA S 37 p.toNatClampNeg) (gA S 38 p.toNatClampNeg) (gL S 39 p.toNatClampNeg) (gA S 40 p.toNatClampNeg)) 46 p.toNatClampNeg (nI (cn S 17 + 1) - 1)
  else wA (wA (wi S 0 0) 41 p.toNatClampNeg 2) 45 p.toNatClampNeg (gi S 1)
def vDecide (S : Ms) (p : Int32) : Int32 := if takA S p.toNatClampNeg = true then 1 else 2
def cAppeal (S : Ms) (p : Int32) : Int32 := if (!isP S p) = true then 1 else if ¬ gA S 41 p.toNatClampNeg = 1 then 2 else if gi S 1 - gA S 45 p.toNatClampNeg ≤ 60 then 0 else 2
def sAppeal (S : Ms) (p : Int32) : Ms := wA (wA (wi S 0 0) 41 p.toNatClampNeg 3) 23 (ca S 46 p.toNatClampNeg) (gi S 1)
def vAppeal (S : Ms) (p : Int32) : Int32 := gi S 1 - gA S 45 p.toNatClampNeg
def cPetOf (S : Ms) (p w : Int32) : Int32 := if (!isP S p) = true then 1 else if inB w 0 4 = true then 0 else 2
def sPetOf (S : Ms) (p w : Int32) : Ms := wi S 0 0
def vPetOf (S : Ms) (p w : Int32) : Int32 := if 3 ≤ w then (if w = 3 then nI (pop (ca S 44 p.toNatClampNeg)) else gA S 45 p.toNatClampNeg) else if w = 0 then gA S 41 p.toNatClampNeg else if w = 1 then nI (pop (ca S 42 p.toNatClampNeg)) else nI (pop (ca S 43 p.toNatClampNeg))
def cCensus (S : Ms) (f t h : Int32) : Int32 := if (!(isF S f && inB t 0 3)) = true then 1 else if inB h 0 100 = true then 0 else 2
def sCensus (S : Ms) (f t h : Int32) : Ms := wA (wi S 0 0) 47 (4 * f.toNatClampNeg + t.toNatClampNeg) h
def vCensus (S : Ms) (f t h : Int32) : Int32 := gA S 47 (4 * f.toNatClampNeg + t.toNatClampNeg)
def cDispute (S : Ms) (f a b : Int32) : Int32 := if (isF S f && (inB a 0 3 && inB b 0 3)) = true then 0 else 1
def sDispute (S : Ms) (f a b : Int32) : Ms := wA (wA (wi S 0 0) 48 f.toNatClampNeg a) 49 f.toNatClampNeg b
