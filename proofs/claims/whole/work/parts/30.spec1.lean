/-! ===== the state that both sides are held against: the model's fields by number ===== -/
abbrev Ms : Type := (Nat → Int32) × (Nat → Nat → Int32) × (Nat → Nat → Int64)
def gi (S : Ms) (k : Nat) : Int32 := S.1 k
def gA (S : Ms) (k : Nat) : Nat → Int32 := S.2.1 k
def gL (S : Ms) (k : Nat) : Nat → Int64 := S.2.2 k
def wi (S : Ms) (k : Nat) (v : Int32) : Ms := (up1 S.1 k v, S.2)
def wA (S : Ms) (k j : Nat) (v : Int32) : Ms := (S.1, up2 S.2.1 k j v, S.2.2)
def wL (S : Ms) (k j : Nat) (v : Int64) : Ms := (S.1, S.2.1, up2 S.2.2 k j v)
def cn (S : Ms) (k : Nat) : Nat := (gi S k).toNatClampNeg
def ca (S : Ms) (k j : Nat) : Nat := (gA S k j).toNatClampNeg
/-- how long the model's rows of numbers are, by their field; and its rows of longs -/
def szI (k : Nat) : Nat := ([0, 0, 0, 24, 24, 24, 960, 960, 960, 960, 24, 960, 960, 960, 24, 24, 24, 0, 100, 100, 0, 100, 100, 100, 0, 12, 12, 12, 12, 12, 12, 0, 40, 40, 40, 40, 0, 16, 16, 0, 16, 16, 16, 16, 16, 16, 16, 96, 24, 24, 108, 0, 0, 4, 4, 4, 0, 24, 0, 0, 24, 24, 0, 12, 0, 13, 16, 16])[k]?.getD 0
def szL (k : Nat) : Nat := if k = 20 then 100 else if k = 39 then 16 else if k = 52 then 4 else if k = 56 then 24 else 0
theorem szI_lt {k : Nat} (h : 0 < szI k) : k < 68 := by
  unfold szI at h
  rcases Nat.lt_or_ge k 68 with z | z
  · exact z
  · rw [List.getElem?_eq_none (by simpa using z)] at h; exact absurd h (by decide)
/-- the model's object at m, its rows at A, says S; letters, next, letterMany, other, otherMany, row, least and ways are not of it -/
def RM (A : Nat → Nat) (m : Nat) (S : Ms) (M : Mm) : Prop :=
  kd M m % 1000 = 12 ∧
  (∀ k, 0 < szI k → fR M m k = some (A k) ∧ kd M (A k) = 100 + k ∧ ln M (A k) = szI k) ∧
  (∀ k, 0 < szL k → fR M m k = some (A k) ∧ kd M (A k) = 200 + k ∧ ln M (A k) = szL k) ∧
  (∀ k, k ≠ 62 → k ≠ 64 → fI M m k = gi S k) ∧
  (∀ k, 0 < szI k → k < 60 → fI M (A k) = gA S k) ∧
  (∀ k, 0 < szL k → fL M (A k) = gL S k)
theorem RM.ref {A : Nat → Nat} {m : Nat} {S : Ms} {M : Mm} (h : RM A m S M) {k : Nat} (hk : 0 < szI k) : fR M m k = some (A k) := (h.2.1 k hk).1
theorem RM.kA {A : Nat → Nat} {m : Nat} {S : Ms} {M : Mm} (h : RM A m S M) {k : Nat} (hk : 0 < szI k) : kd M (A k) = 100 + k := (h.2.1 k hk).2.1
theorem RM.kA1 {A : Nat → Nat} {m : Nat} {S : Ms} {M : Mm} (h : RM A m S M) {k : Nat} (hk : 0 < szI k) : kd M (A k) % 1000 = 100 + k := by
  have := szI_lt hk
  rw [h.kA hk]; omega
theorem RM.lnI {A : Nat → Nat} {m : Nat} {S : Ms} {M : Mm} (h : RM A m S M) {k : Nat} (hk : 0 < szI k) : ln M (A k) = szI k := (h.2.1 k hk).2.2
theorem RM.row {A : Nat → Nat} {m : Nat} {S : Ms} {M : Mm} (h : RM A m S M) {k : Nat} (hk : 0 < szI k) (h6 : k < 60) : fI M (A k) = gA S k := h.2.2.2.2.1 k hk h6
theorem RM.refL {A : Nat → Nat} {m : Nat} {S : Ms} {M : Mm} (h : RM A m S M) {k : Nat} (hk : 0 < szL k) : fR M m k = some (A k) := (h.2.2.1 k hk).1
theorem RM.kL {A : Nat → Nat} {m : Nat} {S : Ms} {M : Mm} (h : RM A m S M) {k : Nat} (hk : 0 < szL k) : kd M (A k) = 200 + k := (h.2.2.1 k hk).2.1
theorem szL_lt {k : Nat} (h : 0 < szL k) : k < 68 := by
  unfold szL at h
  repeat' split at h
  all_goals omega
theorem RM.kL1 {A : Nat → Nat} {m : Nat} {S : Ms} {M : Mm} (h : RM A m S M) {k : Nat} (hk : 0 < szL k) : kd M (A k) % 1000 = 200 + k := by
  have := szL_lt hk
  rw [h.kL hk]; omega
theorem RM.lnL {A : Nat → Nat} {m : Nat} {S : Ms} {M : Mm} (h : RM A m S M) {k : Nat} (hk : 0 < szL k) : ln M (A k) = szL k := (h.2.2.1 k hk).2.2
theorem RM.rowL {A : Nat → Nat} {m : Nat} {S : Ms} {M : Mm} (h : RM A m S M) {k : Nat} (hk : 0 < szL k) : fL M (A k) = gL S k := h.2.2.2.2.2 k hk
theorem RM.sc {A : Nat → Nat} {m : Nat} {S : Ms} {M : Mm} (h : RM A m S M) {k : Nat} (h1 : k ≠ 62) (h2 : k ≠ 64) : fI M m k = gi S k := h.2.2.2.1 k h1 h2
theorem RM.k0 {A : Nat → Nat} {m : Nat} {S : Ms} {M : Mm} (h : RM A m S M) : kd M m % 1000 = 12 := h.1
/-- only the model's scratch has changed -/
def SE (A : Nat → Nat) (m : Nat) (M M' : Mm) : Prop := (∀ b, kd M' b = kd M b) ∧ (∀ b, ln M' b = ln M b) ∧ (∀ b, fR M' b = fR M b) ∧ (∀ b, fL M' b = fL M b) ∧
  (∀ b k, b ≠ A 60 → b ≠ A 61 → b ≠ A 63 → b ≠ A 65 → ¬ (b = m ∧ (k = 62 ∨ k = 64)) → fI M' b k = fI M b k)
theorem SE.rf {A : Nat → Nat} {m : Nat} {M : Mm} : SE A m M M := ⟨fun _ => rfl, fun _ => rfl, fun _ => rfl, fun _ => rfl, fun _ _ _ _ _ _ _ => rfl⟩
theorem SE.tr {A : Nat → Nat} {m : Nat} {M M1 M2 : Mm} (h : SE A m M M1) (g : SE A m M1 M2) : SE A m M M2 :=
  ⟨fun b => (g.1 b).trans (h.1 b), fun b => (g.2.1 b).trans (h.2.1 b), fun b => (g.2.2.1 b).trans (h.2.2.1 b), fun b => (g.2.2.2.1 b).trans (h.2.2.2.1 b), fun b k a1 a2 a3 a4 a7 => (g.2.2.2.2 b k a1 a2 a3 a4 a7).trans (h.2.2.2.2 b k a1 a2 a3 a4 a7)⟩
theorem RM.ne {A : Nat → Nat} {m : Nat} {S : Ms} {M : Mm} (h : RM A m S M) {k j : Nat} (hk : 0 < szI k) (hj : 0 < szI j) (hn : k ≠ j) : A k ≠ A j := fun z => by
  have h1 := h.kA hk
  have h2 := h.kA hj
  rw [z] at h1; omega
theorem RM.neL {A : Nat → Nat} {m : Nat} {S : Ms} {M : Mm} (h : RM A m S M) {k j : Nat} (hk : 0 < szL k) (hj : 0 < szI j) : A k ≠ A j := fun z => by
  have h1 := h.kL hk
  have h2 := h.kA hj
  have := szI_lt hj
  rw [z] at h1; omega
theorem RM.nem {A : Nat → Nat} {m : Nat} {S : Ms} {M : Mm} (h : RM A m S M) {k : Nat} (hk : 0 < szI k) : m ≠ A k := fun z => by
  have h1 := h.kA1 hk
  have h2 := h.1
  rw [← z] at h1; omega
theorem RM.SE {A : Nat → Nat} {m : Nat} {S : Ms} {M M' : Mm} (h : RM A m S M) (g : SE A m M M') : RM A m S M' := by
  refine ⟨by rw [g.1]; exact h.1, fun k hk => ?_, fun k hk => ?_, fun k h1 h2 => ?_, fun k hk h6 => ?_, fun k hk => ?_⟩
  · rw [g.1, g.2.1, g.2.2.1]; exact h.2.1 k hk
  · rw [g.1, g.2.1, g.2.2.1]; exact h.2.2.1 k hk
  · rw [g.2.2.2.2 m k (h.nem (by decide)) (h.nem (by decide)) (h.nem (by decide)) (h.nem (by decide)) (fun z => z.2.elim h1 h2)]
    exact h.sc h1 h2
  · rw [← h.row hk h6]
    funext j
    exact g.2.2.2.2 _ j (h.ne hk (by decide) (by omega)) (h.ne hk (by decide) (by omega)) (h.ne hk (by decide) (by omega)) (h.ne hk (by decide) (by omega)) (fun z => h.nem hk z.1.symm)
  · rw [g.2.2.2.1]; exact h.rowL hk
theorem SE.sI60 {A : Nat → Nat} {m : Nat} {M : Mm} {j k : Nat} {v : Int32} (hj : j = 60 ∨ j = 61 ∨ j = 63 ∨ j = 65) : SE A m M (sI M (A j) k v) := by
  refine ⟨fun _ => rfl, fun _ => rfl, fun _ => rfl, fun _ => rfl, fun b i a1 a2 a3 a4 a7 => ?_⟩
  rw [fI_sI, if_neg]
  rintro ⟨z, -⟩
  rcases hj with rfl | rfl | rfl | rfl <;> contradiction
theorem SE.sIm {A : Nat → Nat} {m : Nat} {M : Mm} {k : Nat} {v : Int32} (hk : k = 62 ∨ k = 64) : SE A m M (sI M m k v) := by
  refine ⟨fun _ => rfl, fun _ => rfl, fun _ => rfl, fun _ => rfl, fun b i a1 a2 a3 a4 a7 => ?_⟩
  rw [fI_sI, if_neg]
  rintro ⟨z, z2⟩
  exact a7 ⟨z, by rw [z2]; exact hk⟩
/-! what is found for the latest day, of several the last told -/
def nl (dy : Nat → Int32) (n : Nat) : Option Nat → Bool
  | none => true
  | some q => !decide (dy n < dy q)
def bst (p : Nat → Bool) (dy : Nat → Int32) : Nat → Option Nat
  | 0 => none
  | n + 1 => if p n = true ∧ nl dy n (bst p dy n) = true then some n else bst p dy n
theorem bst_mem {p : Nat → Bool} {dy : Nat → Int32} : ∀ {n q : Nat}, bst p dy n = some q → q < n ∧ p q = true
  | 0, q, h => nomatch h
  | n + 1, q, h => by
    unfold bst at h
    split at h
    · rename_i hc; cases h; exact ⟨by omega, hc.1⟩
    · have := bst_mem h; exact ⟨by omega, this.2⟩
def o2i (b : Nat) : Option Nat → Int32
  | none => -1
  | some n => nI (b + n)
def inB (v a b : Int32) : Bool := !decide (v < a) && !decide (b < v)
def pP (dy tl : Nat → Int32) (b : Nat) (d k : Int32) (n : Nat) : Bool := !decide (d < dy (b + n)) && !decide (k < tl (b + n))
/-- the place, the whole that hold, by their number among those of the feature -/
def plA (S : Ms) (f : Nat) (d k : Int32) : Option Nat := bst (pP (gA S 8) (gA S 9) (40 * f) d k) (fun n => gA S 8 (40 * f + n)) (ca S 5 f)
def whI (S : Ms) (f : Nat) (d k : Int32) : Option Nat := bst (pP (gA S 12) (gA S 13) (40 * f) d k) (fun n => gA S 12 (40 * f + n)) (ca S 10 f)
def whA (S : Ms) (f : Nat) (d k : Int32) : Int32 := match whI S f d k with
  | none => -1
  | some n => gA S 11 (40 * f + n)
def enA (S : Ms) (f : Nat) (d k : Int32) : Bool := !decide (gA S 14 f = -1) && (!decide (k < gA S 16 f) && !decide (d < gA S 14 f))
def thA (S : Ms) (f : Nat) (d k : Int32) : Bool := !decide (d < gA S 4 f) && (!decide (k < gA S 4 f) && !enA S f d k)
def nP (S : Ms) (f t d k : Int32) (n : Nat) : Bool := decide (gA S 18 n = f) && (decide (gA S 19 n = t) && (!decide (d < gA S 21 n) && (!decide (k < gA S 22 n) && (decide (gA S 23 n = -1) || !decide (gA S 23 n ≤ k)))))
def nmA (S : Ms) (f t d k : Int32) : Option Nat := bst (nP S f t d k) (gA S 21) (cn S 17)
def xP (S : Ms) (f t k : Int32) (n : Nat) : Bool := decide (gA S 32 n = f) && (decide (gA S 33 n = t) && !decide (k < gA S 35 n))
def exA (S : Ms) (f t k : Int32) : Nat → Int32
  | 0 => 10000
  | n + 1 => if xP S f t k n = true ∧ ¬ exA S f t k n ≤ gA S 34 n then gA S 34 n else exA S f t k n
