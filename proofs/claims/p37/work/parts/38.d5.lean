def plB2 (x y : Int32) : Bool := inB x 0 99 && inB y 0 99
def sPla (S : Ms) (f : Nat) (x y d : Int32) : Ms := wA (wA (wA (wA (wA S 6 (40 * f + ca S 5 f) x) 7 (40 * f + ca S 5 f) y) 8 (40 * f + ca S 5 f) d) 9 (40 * f + ca S 5 f) (gi S 1)) 5 f (gA S 5 f + 1)
def cFeature (S : Ms) (k x y : Int32) : Int32 := if (!inB k 0 5 || !plB2 x y) = true then 1 else if gi S 2 = 24 then 2 else 0
def sFeature (S : Ms) (k x y : Int32) : Ms := sPla (wi (wA (wA (wA (wi S 0 0) 3 (cn S 2) k) 4 (cn S 2) (gi S 1)) 14 (cn S 2) (-1)) 2 (gi S 2 + 1)) (cn S 2) x y (gi S 1)
def isF (S : Ms) (f : Int32) : Bool := inB f 0 (gi S 2 - 1)
def cMove (S : Ms) (f x y d : Int32) : Int32 := if (!isF S f) = true then 1 else if (!plB2 x y || !inB d 0 9999) = true then 2 else if gA S 5 f.toNatClampNeg = 40 then 3 else 0
def sMove (S : Ms) (f x y d : Int32) : Ms := sPla (wi S 0 0) f.toNatClampNeg x y d
def cPart (S : Ms) (f w d : Int32) : Int32 := if (!(isF S f && (decide (w = -1) || isF S w))) = true then 1 else if (decide (f ≤ w) || !inB d 0 9999) = true then 2 else if gA S 10 f.toNatClampNeg = 40 then 3 else 0
def sPart (S : Ms) (f w d : Int32) : Ms := wA (wA (wA (wA (wi S 0 0) 11 (40 * f.toNatClampNeg + ca S 10 f.toNatClampNeg) w) 12 (40 * f.toNatClampNeg + ca S 10 f.toNatClampNeg) d) 13 (40 * f.toNatClampNeg + ca S 10 f.toNatClampNeg) (gi S 1)) 10 f.toNatClampNeg (gA S 10 f.toNatClampNeg + 1)
def cEnd (S : Ms) (f i d : Int32) : Int32 := if (!(isF S f && (decide (i = -1) || isF S i))) = true then 1 else if (decide (f = i) || !inB d 0 9999) = true then 2 else if ¬ gA S 14 f.toNatClampNeg = -1 then 3 else 0
def sEnd (S : Ms) (f i d : Int32) : Ms := wA (wA (wA (wi S 0 0) 14 f.toNatClampNeg d) 15 f.toNatClampNeg i) 16 f.toNatClampNeg (gi S 1)
def vFeature (S : Ms) (k x y : Int32) : Int32 := nI (cn S 2)
