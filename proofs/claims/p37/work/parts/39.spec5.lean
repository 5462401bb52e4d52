def eqF (S S' : Ms) : Prop := gi S' 17 = gi S 17 ∧ gi S' 24 = gi S 24 ∧ gi S' 31 = gi S 31 ∧ gL S' 20 = gL S 20 ∧
  (gA S' 18 = gA S 18 ∧ gA S' 19 = gA S 19 ∧ gA S' 21 = gA S 21 ∧ gA S' 22 = gA S 22 ∧ gA S' 23 = gA S 23) ∧
  (gA S' 25 = gA S 25 ∧ gA S' 26 = gA S 26 ∧ gA S' 27 = gA S 27 ∧ gA S' 28 = gA S 28 ∧ gA S' 29 = gA S 29 ∧ gA S' 30 = gA S 30) ∧
  (gA S' 32 = gA S 32 ∧ gA S' 33 = gA S 33 ∧ gA S' 34 = gA S 34 ∧ gA S' 35 = gA S 35)
theorem formA_eq {S S' : Ms} (h : eqF S S') : formA S' = formA S := by
  obtain ⟨h17, h24, h31, hl, ⟨a18, a19, a21, a22, a23⟩, ⟨a25, a26, a27, a28, a29, a30⟩, a32, a33, a34, a35⟩ := h
  have e1 : ∀ f t d k, nmA S' f t d k = nmA S f t d k := by
    intro f t d k
    unfold nmA nP cn
    rw [h17, a18, a19, a21, a22, a23]
  have e2 : ∀ f t k n, exA S' f t k n = exA S f t k n := by
    intro f t k n
    induction n with
    | zero => rfl
    | succ n ih =>
      unfold exA
      rw [ih]
      unfold xP
      rw [a32, a33, a34, a35]
  have e3 : ∀ t dn d k bf, lawP S' t dn d k bf = lawP S t dn d k bf := by
    intro t dn d k bf
    unfold lawP
    rw [a25, a26, a30]
  have e4 : ∀ p u K, prc S' p u K = prc S p u K := by
    intro p u K
    induction K with
    | zero => rfl
    | succ K ih =>
      rw [prc, prc, ih]
      unfold aplL ca cn
      rw [h24, a26, a27, a28, a29]
  funext f t d k
  unfold formA
  rw [e1]
  cases nmA S f t d k with
  | none => rfl
  | some n =>
    dsimp only
    rw [e4, e3, e2, a21, hl]
    unfold cn
    rw [h31]
def refL (S : Ms) (f : Nat) (t : Int32) (w : Int64) (d : Int32) : Nat → Bool
  | 0 => false
  | n + 1 => refL S f t w d n || (!decide (nI n = nI f) && (decide (gA S 3 n = 5) && (thA S n d (gi S 1) && (decide (whA S n d (gi S 1) = whA S f d (gi S 1)) && decide (formA S (nI n) t d (gi S 1) = w)))))
def refA (S : Ms) (f : Nat) (t : Int32) (w : Int64) (d : Int32) : Bool := decide (gA S 3 f = 5) && (!decide (whA S f d (gi S 1) = -1) && refL S f t w d (cn S 2))
def sTells (S : Ms) (f t : Int32) (w : Int64) (d : Int32) : Ms := wi (wA (wA (wA (wL (wA (wA S 18 (cn S 17) f) 19 (cn S 17) t) 20 (cn S 17) w) 21 (cn S 17) d) 22 (cn S 17) (gi S 1)) 23 (cn S 17) (-1)) 17 (gi S 17 + 1)
def cOf (S : Ms) (f w d k : Int32) : Int32 := if (!isF S f) = true then 1 else if (inB w 0 4 && (inB d 0 9999 && inB k 0 9999)) = true then 0 else 2
def sOf (S : Ms) (f w d k : Int32) : Ms := wi S 0 0
def vOf (S : Ms) (f w d k : Int32) : Int32 := if 3 ≤ w then (if w = 3 then whA S f.toNatClampNeg d k else if enA S f.toNatClampNeg d k = true then gA S 15 f.toNatClampNeg else -1) else
  if w = 0 then (if thA S f.toNatClampNeg d k = true then 1 else 0) else match plA S f.toNatClampNeg d k with
    | none => -1
    | some q => if w = 1 then gA S 6 (40 * f.toNatClampNeg + q) else gA S 7 (40 * f.toNatClampNeg + q)
def cLawc (S : Ms) (t d l a b : Int32) : Int32 := if (!inB t 0 3) = true then 1 else if (!(inB d 0 9999 && (inB l 1 26 && (inB a 0 26 && (inB b 0 26 && (decide (0 < a) || decide (b = 0))))))) = true then 2 else if gi S 24 = 12 then 3 else 0
def sLawc (S : Ms) (t d l a b : Int32) : Ms := wi (wA (wA (wA (wA (wA (wA (wi S 0 0) 25 (cn S 24) t) 26 (cn S 24) d) 27 (cn S 24) l) 28 (cn S 24) a) 29 (cn S 24) b) 30 (cn S 24) (gi S 1)) 24 (gi S 24 + 1)
def vLawc (S : Ms) (t d l a b : Int32) : Int32 := nI (cn S 24 + 1)
def cExcept (S : Ms) (f t d : Int32) : Int32 := if (!(isF S f && inB t 0 3)) = true then 1 else if (!inB d 0 9999) = true then 2 else if gi S 31 = 40 then 3 else 0
def sExcept (S : Ms) (f t d : Int32) : Ms := wi (wA (wA (wA (wA (wi S 0 0) 32 (cn S 31) f) 33 (cn S 31) t) 34 (cn S 31) d) 35 (cn S 31) (gi S 1)) 31 (gi S 31 + 1)
def cForm (S : Ms) (f t d k : Int32) : Int32 := if (!(isF S f && inB t 0 3)) = true then 1 else if (inB d 0 9999 && inB k 0 9999) = true then 0 else 2
def sForm (S : Ms) (f t d k : Int32) : Ms := wi S 0 0
def vForm (S : Ms) (f t d k : Int32) : Int64 := formA S f t d k
def cName (S : Ms) (f t : Int32) (w : Int64) (d : Int32) : Int32 := if (!(isF S f && inB t 0 3)) = true then 1 else if (!(isWd 8 w && inB d 0 9999)) = true then 2 else if (decide (gi S 17 = 100) || refA S f.toNatClampNeg t w d) = true then 3 else 0
def sName (S : Ms) (f t : Int32) (w : Int64) (d : Int32) : Ms := sTells (wi S 0 0) f t w d
def vName (S : Ms) (f t : Int32) (w : Int64) (d : Int32) : Int32 := nI (cn S 17 + 1)
def cPetition (S : Ms) (f t : Int32) (w : Int64) (d : Int32) : Int32 := if (!(isF S f && inB t 0 3)) = true then 1 else if (!(isWd 8 w && (inB d 0 9999 && !decide (d < gi S 1 + 30)))) = true then 2 else if gi S 36 = 16 then 3 else 0
def sPetition (S : Ms) (f t : Int32) (w : Int64) (d : Int32) : Ms := wi (wA (wA (wL (wA (wA (wi S 0 0) 37 (cn S 36) f) 38 (cn S 36) t) 39 (cn S 36) w) 40 (cn S 36) d) 45 (cn S 36) (-1)) 36 (gi S 36 + 1)
def vPetition (S : Ms) (f t : Int32) (w : Int64) (d : Int32) : Int32 := nI (cn S 36)
