def dgs : Nat → Nat → List Nat
  | 0, _ => []
  | k + 1, m => if m = 0 then [] else m % 27 :: dgs k (m / 27)
theorem dgs_lv : ∀ {k : Nat} {r : List Nat}, LW k r → dgs k (lv r) = r
  | 0, r, h => (List.length_eq_zero_iff.mp (Nat.le_zero.mp h.1)).symm
  | k + 1, [], _ => rfl
  | k + 1, x :: r, h => by
    unfold dgs
    rw [if_neg (Nat.ne_of_gt (lv_pos h.hd.1)), lv_mod h.hd.2, lv_div h.hd.2, dgs_lv h.tl]
def wr (w : Int64) : List Nat := dgs 12 w.toInt.toNat
theorem wr_lN {r : List Nat} (h : LW 12 r) : wr (lN (lv r)) = r := by
  unfold wr
  rw [pk_lT (h.lt63 (Nat.le_refl _))]
  exact dgs_lv h
def sub1 (a b c x : Nat) : List Nat := if x = a then (if 0 < b then b :: (if 0 < c then [c] else []) else []) else [x]
def apl (a b c : Nat) (u : List Nat) : List Nat := (u.flatMap (sub1 a b c)).take 12
theorem sub1_m {a b c x : Nat} (hb : b ≤ 26) (hc : c ≤ 26) (hx : 1 ≤ x ∧ x ≤ 26) : ∀ y ∈ sub1 a b c x, 1 ≤ y ∧ y ≤ 26 := by
  intro y hy
  unfold sub1 at hy
  split at hy
  · split at hy
    · split at hy
      · simp at hy; omega
      · simp at hy; omega
    · simp at hy
  · simp at hy; omega
theorem apl_LW {a b c : Nat} (hb : b ≤ 26) (hc : c ≤ 26) {u : List Nat} (h : LW 12 u) : LW 12 (apl a b c u) := by
  refine ⟨by unfold apl; rw [List.length_take]; omega, fun y hy => ?_⟩
  have h1 := List.mem_of_mem_take hy
  obtain ⟨x, hx, hy2⟩ := List.mem_flatMap.mp h1
  exact sub1_m hb hc (h.2 x hx) y hy2
def lkey (S : Ms) (l : Nat) : Nat := ca S 26 l * 12 + l
def lawP (S : Ms) (t dn d k bf : Int32) (l : Nat) : Bool := decide (gA S 25 l = t) && (!decide (k < gA S 30 l) && (!decide (gA S 26 l ≤ dn) && (!decide (d < gA S 26 l) && !decide (bf ≤ gA S 26 l))))
def aplL (S : Ms) (l : Nat) (u : List Nat) : List Nat := apl (ca S 27 l) (ca S 28 l) (ca S 29 l) u
def prc (S : Ms) (p : Nat → Bool) (u : List Nat) : Nat → List Nat
  | 0 => u
  | K + 1 => if K % 12 < cn S 24 ∧ ca S 26 (K % 12) = K / 12 ∧ p (K % 12) = true then aplL S (K % 12) (prc S p u K) else prc S p u K
def LawOK (S : Ms) : Prop := gi S 24 = nI (cn S 24) ∧ cn S 24 ≤ 12 ∧ ∀ l, l < cn S 24 → (gA S 26 l = nI (ca S 26 l) ∧ ca S 26 l ≤ 9999) ∧ (gA S 27 l = nI (ca S 27 l) ∧ ca S 27 l ≤ 26) ∧ (gA S 28 l = nI (ca S 28 l) ∧ ca S 28 l ≤ 26) ∧ (gA S 29 l = nI (ca S 29 l) ∧ ca S 29 l ≤ 26) ∧ (ca S 28 l = 0 → ca S 29 l = 0)
theorem prc_skip {S : Ms} {p : Nat → Bool} {u : List Nat} (h12 : cn S 24 ≤ 12) {a : Nat} : ∀ {b : Nat}, a ≤ b → (∀ l, l < cn S 24 → p l = true → a ≤ lkey S l → lkey S l < b → False) → prc S p u b = prc S p u a
  | 0, h, _ => by rw [Nat.le_zero.mp h]
  | b + 1, h, hn => by
    rcases Nat.lt_or_ge a (b + 1) with z | z
    · rw [prc, if_neg]
      · exact prc_skip h12 (by omega) (fun l h1 h2 h3 h4 => hn l h1 h2 h3 (by omega))
      · rintro ⟨h1, h2, h3⟩
        exact hn (b % 12) h1 h3 (by unfold lkey; omega) (by unfold lkey; omega)
    · rw [show a = b + 1 by omega]
theorem prc_at {S : Ms} {p : Nat → Bool} {u : List Nat} {l : Nat} (h12 : cn S 24 ≤ 12) (hl : l < cn S 24) (hp : p l = true) : prc S p u (lkey S l + 1) = aplL S l (prc S p u (lkey S l)) := by
  have e1 : lkey S l % 12 = l := by unfold lkey; omega
  have e2 : lkey S l / 12 = ca S 26 l := by unfold lkey; omega
  rw [prc, e1, e2, if_pos ⟨hl, rfl, hp⟩]
theorem prc_LW {S : Ms} {p : Nat → Bool} {u : List Nat} (hL : LawOK S) (hu : LW 12 u) : ∀ K, LW 12 (prc S p u K)
  | 0 => hu
  | K + 1 => by
    rw [prc]
    split
    · rename_i h
      have hl := hL.2.2 _ h.1
      exact apl_LW hl.2.2.1.2 hl.2.2.2.1.2 (prc_LW hL hu K)
    · exact prc_LW hL hu K
def formA (S : Ms) (f t d k : Int32) : Int64 := match nmA S f t d k with
  | none => 0
  | some n => lN (lv (prc S (lawP S t (gA S 21 n) d k (exA S f t k (cn S 31))) (wr (gL S 20 n)).reverse 120000).reverse)
def bhd (S : Ms) (n : Nat) : Option Nat → Bool
  | none => true
  | some q => decide (gA S 26 q < gA S 26 n) || (decide (gA S 26 n = gA S 26 q) && decide (q < n))
def nles (S : Ms) (n : Nat) : Option Nat → Bool
  | none => true
  | some q => !decide (gA S 26 q ≤ gA S 26 n)
def nxt (S : Ms) (p : Nat → Bool) (la : Option Nat) : Nat → Option Nat
  | 0 => none
  | n + 1 => if p n = true ∧ bhd S n la = true ∧ nles S n (nxt S p la n) = true then some n else nxt S p la n
theorem lkey_lt {S : Ms} (hL : LawOK S) {l : Nat} (h : l < cn S 24) : lkey S l < 120000 := by
  have h1 := (hL.2.2 l h).1.2
  have h4 := hL.2.1
  unfold lkey; omega
