def Cnt (S : Ms) (k b : Nat) : Prop := gi S k = nI (cn S k) ∧ cn S k ≤ b
def Ar (S : Ms) (k j b : Nat) : Prop := gA S k j = nI (ca S k j) ∧ ca S k j ≤ b
def Wd8 (w : Int64) : Prop := LW 8 (wr w) ∧ wr w ≠ [] ∧ w = lN (lv (wr w))
def vCnt (S : Ms) : Prop := Cnt S 1 9999 ∧ Cnt S 2 24 ∧ Cnt S 17 100 ∧ Cnt S 24 12 ∧ Cnt S 31 40 ∧ Cnt S 36 16 ∧ Cnt S 51 4 ∧ Cnt S 58 24 ∧ Cnt S 59 10
def vFea (S : Ms) : Prop := ∀ f, f < cn S 2 → Ar S 3 f 5 ∧ Ar S 4 f (cn S 1) ∧ Ar S 5 f 40 ∧ 0 < ca S 5 f ∧ Ar S 10 f 40 ∧
  (∀ i, i < ca S 5 f → Ar S 6 (40 * f + i) 99 ∧ Ar S 7 (40 * f + i) 99 ∧ Ar S 8 (40 * f + i) 9999 ∧ Ar S 9 (40 * f + i) (cn S 1)) ∧ ca S 8 (40 * f) ≤ cn S 1 ∧
  (∀ i, i < ca S 10 f → (gA S 11 (40 * f + i) = -1 ∨ Ar S 11 (40 * f + i) 23) ∧ Ar S 12 (40 * f + i) 9999 ∧ Ar S 13 (40 * f + i) (cn S 1)) ∧
  (gA S 14 f = -1 ∨ (Ar S 14 f 9999 ∧ Ar S 16 f (cn S 1) ∧ (gA S 15 f = -1 ∨ Ar S 15 f 23))) ∧ Ar S 48 f 3 ∧ Ar S 49 f 3 ∧ (∀ t, t < 4 → Ar S 47 (4 * f + t) 100)
def vNew (S : Ms) : Prop := ∀ f, cn S 2 ≤ f → f < 24 → gA S 5 f = 0 ∧ gA S 10 f = 0 ∧ gA S 48 f = 0 ∧ gA S 49 f = 0 ∧ gL S 56 f = 0 ∧ ∀ t, t < 4 → gA S 47 (4 * f + t) = 0
def vNam (S : Ms) : Prop := ∀ n, n < cn S 17 → Ar S 18 n 23 ∧ ca S 18 n < cn S 2 ∧ Ar S 19 n 3 ∧ Wd8 (gL S 20 n) ∧ Ar S 21 n 9999 ∧ Ar S 22 n (cn S 1) ∧ (gA S 23 n = -1 ∨ Ar S 23 n (cn S 1))
def vLaw (S : Ms) : Prop := ∀ l, l < cn S 24 → Ar S 25 l 3 ∧ Ar S 26 l 9999 ∧ Ar S 27 l 26 ∧ Ar S 28 l 26 ∧ Ar S 29 l 26 ∧ (ca S 28 l = 0 → ca S 29 l = 0) ∧ Ar S 30 l (cn S 1)
def vExc (S : Ms) : Prop := ∀ n, n < cn S 31 → Ar S 32 n 23 ∧ ca S 32 n < cn S 2 ∧ Ar S 33 n 3 ∧ Ar S 34 n 9999 ∧ Ar S 35 n (cn S 1)
def vPet (S : Ms) : Prop := ∀ p, p < cn S 36 → Ar S 37 p 23 ∧ ca S 37 p < cn S 2 ∧ Ar S 38 p 3 ∧ Wd8 (gL S 39 p) ∧ Ar S 40 p 9999 ∧ Ar S 41 p 3 ∧ Ar S 42 p 511 ∧ Ar S 43 p 511 ∧ Ar S 44 p 255 ∧ (gA S 45 p = -1 ∨ Ar S 45 p (cn S 1)) ∧ ((ca S 41 p = 1 ∨ ca S 41 p = 3) → Ar S 46 p 99 ∧ ca S 46 p < cn S 17)
def vNpt (S : Ms) : Prop := ∀ p, cn S 36 ≤ p → p < 16 → gA S 41 p = 0 ∧ gA S 42 p = 0 ∧ gA S 43 p = 0 ∧ gA S 44 p = 0
def vTab (S : Ms) : Prop := ∀ t l, t < 4 → l < 27 → Ar S 50 (27 * t + l) 26 ∧ (0 < l → 0 < ca S 50 (27 * t + l))
def vRea (S : Ms) : Prop := ∀ r, r < cn S 51 → Wd8 (gL S 52 r) ∧ Ar S 53 r 99 ∧ Ar S 54 r 99
def vSub (S : Ms) : Prop := ∀ s, s < 4 → Ar S 55 s (cn S 1)
def vOrd (S : Ms) : Prop := (∀ i, i < cn S 58 → Ar S 57 i 23 ∧ ca S 57 i < cn S 2) ∧ (∀ i j, i < j → j < cn S 58 → ca S 57 i ≠ ca S 57 j)
def INV (S : Ms) : Prop := vCnt S ∧ vFea S ∧ vNew S ∧ vNam S ∧ vLaw S ∧ vExc S ∧ vPet S ∧ vNpt S ∧ vTab S ∧ vRea S ∧ vSub S ∧ vOrd S
theorem Wd8.LW {w : Int64} (h : Wd8 w) : LW 12 (wr w) := LW.mono h.1 (by decide)
theorem INV.OkF {S : Ms} (h : INV S) : OkF S := by
  obtain ⟨⟨-, -, h17, h24, h31, -⟩, -, -, hn, hl, -⟩ := h
  refine ⟨⟨h17.1, h17.2, fun n q => ⟨(hn n q).2.2.2.1.LW, (hn n q).2.2.2.1.2.2⟩⟩, ⟨h24.1, h24.2, fun l q => ?_⟩, h31⟩
  have := hl l q
  exact ⟨this.2.1, this.2.2.1, this.2.2.2.1, this.2.2.2.2.1, this.2.2.2.2.2.1⟩
def opS (c : Int32) (S s : Ms) : Ms := if c = 0 then s else wi S 0 c
