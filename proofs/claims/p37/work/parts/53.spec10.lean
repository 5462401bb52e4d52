def cstL (S : Ms) (rd f : Nat) : Nat → Int32
  | 0 => -1
  | n + 1 => if gA S 18 n = nI f then (if cstL S rd f n = -1 ∨ ¬ cstL S rd f n ≤ nI (lev (wr (gL S 52 rd)) (wr (gL S 20 n))) then nI (lev (wr (gL S 52 rd)) (wr (gL S 20 n))) else cstL S rd f n) else cstL S rd f n
def cstA (S : Ms) (rd f : Nat) : Int32 := if cstL S rd f (cn S 17) = -1 ∨ thA S f (gi S 1) (gi S 1) = false then -1 else
  if 60 < 10 * cstL S rd f (cn S 17) + awyA S f (gA S 53 rd) (gA S 54 rd) then -1 else 10 * cstL S rd f (cn S 17) + awyA S f (gA S 53 rd) (gA S 54 rd)
def cCost (S : Ms) (rd f : Int32) : Int32 := if (inB rd 0 (gi S 51 - 1) && isF S f) = true then 0 else 1
def sCost (S : Ms) (rd f : Int32) : Ms := wi S 0 0
def vCost (S : Ms) (rd f : Int32) : Int32 := cstA S rd.toNatClampNeg f.toNatClampNeg
def rs (set b : Nat) : Nat := if set.testBit b then set - 2 ^ b else set
def joS (P : WL) (set b : Nat) (c : Int32) : WL := if c = -1 ∨ rs set b = set ∨ P.1 (rs set b) = 0 then P else
  (pu P.1 set (P.1 set + P.1 (rs set b)), pu P.2 set (if P.2 set = -1 ∨ ¬ P.2 set ≤ P.2 (rs set b) + c then P.2 (rs set b) + c else P.2 set))
def jo4 (P : WL) (set : Nat) (c : Nat → Int32) : WL := joS (joS (joS (joS P set 0 (c 0)) set 1 (c 1)) set 2 (c 2)) set 3 (c 3)
def asF (c : Nat → Int32) (P : WL) : Nat → WL
  | 0 => P
  | m + 1 => asF c (jo4 P (m + 1) c) m
def csv (S : Ms) (f : Nat) : Nat → Int32 := fun b => if b < cn S 51 then cstA S b f else -1
def as0 : WL := (fun i => if i = 0 then 1 else 0, fun i => if i = 0 then 0 else -1)
def asA (S : Ms) : Nat → WL
  | 0 => as0
  | n + 1 => asF (csv S n) (asA S n) 15
def eq16 (P Q : WL) : Prop := ∀ i, i < 16 → P.1 i = Q.1 i ∧ P.2 i = Q.2 i
def sAssign (S : Ms) : Ms := wi S 0 0
def vAssign (S : Ms) : Int32 := (asA S (cn S 2)).2 (2 ^ cn S 51 - 1)
def vWays (S : Ms) : Int32 := (asA S (cn S 2)).1 (2 ^ cn S 51 - 1)
