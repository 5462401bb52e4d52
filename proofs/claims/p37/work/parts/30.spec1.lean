abbrev Ms : Type := (Nat → Int32) × (Nat → Nat → Int32) × (Nat → Nat → Int64)
def gi (S : Ms) (k : Nat) : Int32 := S.1 k
def gA (S : Ms) (k : Nat) : Nat → Int32 := S.2.1 k
def gL (S : Ms) (k : Nat) : Nat → Int64 := S.2.2 k
def wi (S : Ms) (k : Nat) (v : Int32) : Ms := (up1 S.1 k v, S.2)
def wA (S : Ms) (k j : Nat) (v : Int32) : Ms := (S.1, up2 S.2.1 k j v, S.2.2)
def wL (S : Ms) (k j : Nat) (v : Int64) : Ms := (S.1, S.2.1, up2 S.2.2 k j v)
def cn (S : Ms) (k : Nat) : Nat := (gi S k).toNatClampNeg
def ca (S : Ms) (k j : Nat) : Nat := (gA S k j).toNatClampNeg
def nl (dy : Nat → Int32) (n : Nat) : Option Nat → Bool
  | none => true
  | some q => !decide (dy n < dy q)
def bst (p : Nat → Bool) (dy : Nat → Int32) : Nat → Option Nat
  | 0 => none
  | n + 1 => if p n = true ∧ nl dy n (bst p dy n) = true then some n else bst p dy n
theorem bst_mem {p : Nat → Bool} {dy : Nat → Int32} : ∀ {n q : Nat}, bst p dy n = some q → q < n ∧ p q = true
  | 0, q, h => nomatch h
  | n + 1, q, h => by
    unfold bst at h
    split at h
    · rename_i hc; cases h; exact ⟨by omega, hc.1⟩
    · have := bst_mem h; exact ⟨by omega, this.2⟩
def inB (v a b : Int32) : Bool := !decide (v < a) && !decide (b < v)
def pP (dy tl : Nat → Int32) (b : Nat) (d k : Int32) (n : Nat) : Bool := !decide (d < dy (b + n)) && !decide (k < tl (b + n))
def plA (S : Ms) (f : Nat) (d k : Int32) : Option Nat := bst (pP (gA S 8) (gA S 9) (40 * f) d k) (fun n => gA S 8 (40 * f + n)) (ca S 5 f)
def whI (S : Ms) (f : Nat) (d k : Int32) : Option Nat := bst (pP (gA S 12) (gA S 13) (40 * f) d k) (fun n => gA S 12 (40 * f + n)) (ca S 10 f)
def whA (S : Ms) (f : Nat) (d k : Int32) : Int32 := match whI S f d k with
  | none => -1
  | some n => gA S 11 (40 * f + n)
def enA (S : Ms) (f : Nat) (d k : Int32) : Bool := !decide (gA S 14 f = -1) && (!decide (k < gA S 16 f) && !decide (d < gA S 14 f))
def thA (S : Ms) (f : Nat) (d k : Int32) : Bool := !decide (d < gA S 4 f) && (!decide (k < gA S 4 f) && !enA S f d k)
def nP (S : Ms) (f t d k : Int32) (n : Nat) : Bool := decide (gA S 18 n = f) && (decide (gA S 19 n = t) && (!decide (d < gA S 21 n) && (!decide (k < gA S 22 n) && (decide (gA S 23 n = -1) || !decide (gA S 23 n ≤ k)))))
def nmA (S : Ms) (f t d k : Int32) : Option Nat := bst (nP S f t d k) (gA S 21) (cn S 17)
def xP (S : Ms) (f t k : Int32) (n : Nat) : Bool := decide (gA S 32 n = f) && (decide (gA S 33 n = t) && !decide (k < gA S 35 n))
def exA (S : Ms) (f t k : Int32) : Nat → Int32
  | 0 => 10000
  | n + 1 => if xP S f t k n = true ∧ ¬ exA S f t k n ≤ gA S 34 n then gA S 34 n else exA S f t k n
