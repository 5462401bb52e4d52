def shL (S : Ms) (f : Nat) (d : Int32) : Nat → Int32 × Option Nat
  | 0 => (0, none)
  | t + 1 => if formA S (nI f) (nI t) d (gi S 1) = 0 then shL S f d t else
      ((shL S f d t).1 ||| (if gA S 47 (4 * f + t) < 20 then (0 : Int32) else (1 : Int32) <<< (nI t &&& 31)),
       match (shL S f d t).2 with
       | none => some t
       | some q => if gA S 47 (4 * f + t) ≤ gA S 47 (4 * f + q) then some q else some t)
theorem shL_lt {S : Ms} {f : Nat} {d : Int32} : ∀ {n q : Nat}, (shL S f d n).2 = some q → q < n
  | 0, q, h => nomatch h
  | n + 1, q, h => by
    unfold shL at h
    split at h
    · have := shL_lt h; omega
    · dsimp only at h
      split at h
      · cases h; omega
      · rename_i q2 h2
        split at h
        · cases h; have := shL_lt h2; omega
        · cases h; omega
def cShown (S : Ms) (f d : Int32) : Int32 := if (!isF S f) = true then 1 else if inB d 0 9999 = true then 0 else 2
def sShown (S : Ms) (f d : Int32) : Ms := wi S 0 0
def vShown (S : Ms) (f d : Int32) : Int32 := if ¬ (shL S f.toNatClampNeg d 4).1 = 0 then (shL S f.toNatClampNeg d 4).1 else match (shL S f.toNatClampNeg d 4).2 with
  | none => 0
  | some q => 1 <<< (nI q &&& 31)
def snL (S : Ms) (f : Nat) (x : Int64) : Nat → Int64
  | 0 => x
  | k + 1 => if snL S f x k = 0 then formA S (nI f) (nI k) (gi S 1) (gi S 1) else snL S f x k
theorem snL_stay {S : Ms} {f : Nat} {x : Int64} {j : Nat} (h : ¬ snL S f x j = 0) : ∀ n, j ≤ n → snL S f x n = snL S f x j
  | 0, hn => by rw [Nat.le_zero.mp hn]
  | n + 1, hn => by
    rcases Nat.lt_or_ge j (n + 1) with z | z
    · have ih := snL_stay h n (by omega)
      rw [snL, if_neg (by rw [ih]; exact h), ih]
    · rw [show j = n + 1 by omega]
def sneA (S : Ms) (f : Nat) (t : Int32) : Int64 := if gA S 48 f = gA S 49 f then snL S f (formA S (nI f) t (gi S 1) (gi S 1)) 4 else
  formA S (nI f) (if t = gA S 48 f ∨ t = gA S 49 f then t else if gA S 49 f ≤ gA S 48 f then gA S 49 f else gA S 48 f) (gi S 1) (gi S 1)
theorem sneA_eq {S S' : Ms} (h : eqF S S') (h1 : gi S' 1 = gi S 1) (h48 : gA S' 48 = gA S 48) (h49 : gA S' 49 = gA S 49) : sneA S' = sneA S := by
  funext f t
  have e : ∀ x n, snL S' f x n = snL S f x n := by
    intro x n
    induction n with
    | zero => rfl
    | succ n ih => rw [snL, snL, ih, formA_eq h, h1]
  unfold sneA
  rw [e, formA_eq h, h1, h48, h49]
def cDisplay (S : Ms) (f t : Int32) : Int32 := if (isF S f && inB t 0 3) = true then 0 else 1
def sDisplay (S : Ms) (f t : Int32) : Ms := wi S 0 0
def vDisplay (S : Ms) (f t : Int32) : Int64 := sneA S f.toNatClampNeg t
def cTable (S : Ms) (t l o : Int32) : Int32 := if (!inB t 0 3) = true then 1 else if (inB l 1 26 && inB o 1 26) = true then 0 else 2
def sTable (S : Ms) (t l o : Int32) : Ms := wA (wi S 0 0) 50 (27 * t.toNatClampNeg + l.toNatClampNeg) o
def vTable (S : Ms) (t l o : Int32) : Int32 := gA S 50 (27 * t.toNatClampNeg + l.toNatClampNeg)
def tabG (S : Ms) (t : Nat) : Nat → Int32 := fun l => gA S 50 (27 * t + l)
def cWrite (S : Ms) (w : Int64) (t : Int32) : Int32 := if (!inB t 0 3) = true then 1 else if isWd 12 w = true then 0 else 2
def sWrite (S : Ms) (w : Int64) (t : Int32) : Ms := wi S 0 0
def vWrite (S : Ms) (w : Int64) (t : Int32) : Int64 := lN (lv ((wr w).map (fun x => ca S 50 (27 * t.toNatClampNeg + x))))
def rbk (S : Ms) (t x : Nat) : Nat := if cntB (tabG S t) (nI x) 26 = 1 then lasB (tabG S t) (nI x) 26 else 0
def vBack (S : Ms) (w : Int64) (t : Int32) : Int64 := if ∀ x ∈ wr w, 0 < rbk S t.toNatClampNeg x then lN (lv ((wr w).map (rbk S t.toNatClampNeg))) else -1
def cLoss (S : Ms) (t : Int32) : Int32 := if inB t 0 3 = true then 0 else 1
def sLoss (S : Ms) (t : Int32) : Ms := wi S 0 0
def vLoss (S : Ms) (t : Int32) : Int32 := 26 - nI (pop (setB (tabG S t.toNatClampNeg) 26).toNatClampNeg)
def cReading (S : Ms) (w : Int64) (x y : Int32) : Int32 := if (!isWd 8 w || !plB2 x y) = true then 1 else if gi S 51 = 4 then 2 else 0
def sReading (S : Ms) (w : Int64) (x y : Int32) : Ms := wi (wA (wA (wL (wi S 0 0) 52 (cn S 51) w) 53 (cn S 51) x) 54 (cn S 51) y) 51 (gi S 51 + 1)
def vReading (S : Ms) (w : Int64) (x y : Int32) : Int32 := nI (cn S 51)
def cPull (S : Ms) (s : Int32) : Int32 := if inB s 0 3 = true then 0 else 1
def sPull (S : Ms) (s : Int32) : Ms := wA (wi S 0 0) 55 s.toNatClampNeg (gi S 1)
def vPull (S : Ms) (s : Int32) : Int32 := gi S 1 - gA S 55 s.toNatClampNeg
def cCopy (S : Ms) (s f t : Int32) : Int32 := if (inB s 0 3 && (isF S f && inB t 0 3)) = true then 0 else 1
def sCopy (S : Ms) (s f t : Int32) : Ms := wi S 0 0
def vCopy (S : Ms) (s f t : Int32) : Int64 := formA S f t (gi S 1) (gA S 55 s.toNatClampNeg)
def waiL (S : Ms) (f : Int32) : Nat → Bool
  | 0 => false
  | n + 1 => waiL S f n || decide (gA S 57 n = f)
def cOrder (S : Ms) (f : Int32) : Int32 := if (!isF S f) = true then 1 else if waiL S f (cn S 58) = true then 2 else 0
def sOrder (S : Ms) (f : Int32) : Ms := wi (wA (wi S 0 0) 57 (cn S 58) f) 58 (gi S 58 + 1)
def vOrder (S : Ms) (f : Int32) : Int32 := nI (cn S 58 + 1)
def cBudget (S : Ms) (b : Int32) : Int32 := if inB b 0 10 = true then 0 else 1
def sBudget (S : Ms) (b : Int32) : Ms := wi (wi S 0 0) 59 b
def vBudget (S : Ms) (b : Int32) : Int32 := gi S 59
def cSign (S : Ms) (f : Int32) : Int32 := if isF S f = true then 0 else 1
def sSign (S : Ms) (f : Int32) : Ms := wi S 0 0
def vSign (S : Ms) (f : Int32) : Int64 := gL S 56 f.toNatClampNeg
