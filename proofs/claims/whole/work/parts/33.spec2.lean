/-! ===== laws on letters, FORMs ===== -/
def dgs : Nat → Nat → List Nat
  | 0, _ => []
  | k + 1, m => if m = 0 then [] else m % 27 :: dgs k (m / 27)
theorem dgs_lv : ∀ {k : Nat} {r : List Nat}, LW k r → dgs k (lv r) = r
  | 0, r, h => (List.length_eq_zero_iff.mp (Nat.le_zero.mp h.1)).symm
  | k + 1, [], _ => rfl
  | k + 1, x :: r, h => by
    unfold dgs
    rw [if_neg (Nat.ne_of_gt (lv_pos h.hd.1)), lv_mod h.hd.2, lv_div h.hd.2, dgs_lv h.tl]
/-- the letters of a word, the last one first -/
def wr (w : Int64) : List Nat := dgs 12 w.toInt.toNat
theorem wr_lN {r : List Nat} (h : LW 12 r) : wr (lN (lv r)) = r := by
  unfold wr
  rw [pk_lT (h.lt63 (Nat.le_refl _))]
  exact dgs_lv h
def sub1 (a b c x : Nat) : List Nat := if x = a then (if 0 < b then b :: (if 0 < c then [c] else []) else []) else [x]
def apl (a b c : Nat) (u : List Nat) : List Nat := (u.flatMap (sub1 a b c)).take 12
theorem sub1_le {a b c x : Nat} : (sub1 a b c x).length ≤ 2 := by
  unfold sub1
  split
  · split
    · split <;> simp
    · simp
  · simp
theorem fm_le {a b c : Nat} : ∀ u : List Nat, (u.flatMap (sub1 a b c)).length ≤ 2 * u.length
  | [] => by simp
  | x :: u => by
    have h1 := fm_le (a := a) (b := b) (c := c) u
    have h2 := sub1_le (a := a) (b := b) (c := c) (x := x)
    simp only [List.flatMap_cons, List.length_append, List.length_cons]
    omega
theorem sub1_m {a b c x : Nat} (hb : b ≤ 26) (hc : c ≤ 26) (hx : 1 ≤ x ∧ x ≤ 26) : ∀ y ∈ sub1 a b c x, 1 ≤ y ∧ y ≤ 26 := by
  intro y hy
  unfold sub1 at hy
  split at hy
  · split at hy
    · split at hy
      · simp at hy; omega
      · simp at hy; omega
    · simp at hy
  · simp at hy; omega
theorem apl_LW {a b c : Nat} (hb : b ≤ 26) (hc : c ≤ 26) {u : List Nat} (h : LW 12 u) : LW 12 (apl a b c u) := by
  refine ⟨by unfold apl; rw [List.length_take]; omega, fun y hy => ?_⟩
  have h1 := List.mem_of_mem_take hy
  obtain ⟨x, hx, hy2⟩ := List.mem_flatMap.mp h1
  exact sub1_m hb hc (h.2 x hx) y hy2
def lkey (S : Ms) (l : Nat) : Nat := ca S 26 l * 12 + l
def lawP (S : Ms) (t dn d k bf : Int32) (l : Nat) : Bool := decide (gA S 25 l = t) && (!decide (k < gA S 30 l) && (!decide (gA S 26 l ≤ dn) && (!decide (d < gA S 26 l) && !decide (bf ≤ gA S 26 l))))
def aplL (S : Ms) (l : Nat) (u : List Nat) : List Nat := apl (ca S 27 l) (ca S 28 l) (ca S 29 l) u
/-- all laws below a key, in the order of their keys -/
def prc (S : Ms) (p : Nat → Bool) (u : List Nat) : Nat → List Nat
  | 0 => u
  | K + 1 => if K % 12 < cn S 24 ∧ ca S 26 (K % 12) = K / 12 ∧ p (K % 12) = true then aplL S (K % 12) (prc S p u K) else prc S p u K
def LawOK (S : Ms) : Prop := gi S 24 = nI (cn S 24) ∧ cn S 24 ≤ 12 ∧ ∀ l, l < cn S 24 → (gA S 26 l = nI (ca S 26 l) ∧ ca S 26 l ≤ 9999) ∧ (gA S 27 l = nI (ca S 27 l) ∧ ca S 27 l ≤ 26) ∧ (gA S 28 l = nI (ca S 28 l) ∧ ca S 28 l ≤ 26) ∧ (gA S 29 l = nI (ca S 29 l) ∧ ca S 29 l ≤ 26) ∧ (ca S 28 l = 0 → ca S 29 l = 0)
theorem prc_skip {S : Ms} {p : Nat → Bool} {u : List Nat} (h12 : cn S 24 ≤ 12) {a : Nat} : ∀ {b : Nat}, a ≤ b → (∀ l, l < cn S 24 → p l = true → a ≤ lkey S l → lkey S l < b → False) → prc S p u b = prc S p u a
  | 0, h, _ => by rw [Nat.le_zero.mp h]
  | b + 1, h, hn => by
    rcases Nat.lt_or_ge a (b + 1) with z | z
    · rw [prc, if_neg]
      · exact prc_skip h12 (by omega) (fun l h1 h2 h3 h4 => hn l h1 h2 h3 (by omega))
      · rintro ⟨h1, h2, h3⟩
        exact hn (b % 12) h1 h3 (by unfold lkey; omega) (by unfold lkey; omega)
    · rw [show a = b + 1 by omega]
theorem prc_at {S : Ms} {p : Nat → Bool} {u : List Nat} {l : Nat} (h12 : cn S 24 ≤ 12) (hl : l < cn S 24) (hp : p l = true) : prc S p u (lkey S l + 1) = aplL S l (prc S p u (lkey S l)) := by
  have e1 : lkey S l % 12 = l := by unfold lkey; omega
  have e2 : lkey S l / 12 = ca S 26 l := by unfold lkey; omega
  rw [prc, e1, e2, if_pos ⟨hl, rfl, hp⟩]
theorem prc_LW {S : Ms} {p : Nat → Bool} {u : List Nat} (hL : LawOK S) (hu : LW 12 u) : ∀ K, LW 12 (prc S p u K)
  | 0 => hu
  | K + 1 => by
    rw [prc]
    split
    · rename_i h
      have hl := hL.2.2 _ h.1
      exact apl_LW hl.2.2.1.2 hl.2.2.2.1.2 (prc_LW hL hu K)
    · exact prc_LW hL hu K
def formA (S : Ms) (f t d k : Int32) : Int64 := match nmA S f t d k with
  | none => 0
  | some n => lN (lv (prc S (lawP S t (gA S 21 n) d k (exA S f t k (cn S 31))) (wr (gL S 20 n)).reverse 120000).reverse)
/-- the first of those that come behind -/
def bhd (S : Ms) (n : Nat) : Option Nat → Bool
  | none => true
  | some q => decide (gA S 26 q < gA S 26 n) || (decide (gA S 26 n = gA S 26 q) && decide (q < n))
def nles (S : Ms) (n : Nat) : Option Nat → Bool
  | none => true
  | some q => !decide (gA S 26 q ≤ gA S 26 n)
def nxt (S : Ms) (p : Nat → Bool) (la : Option Nat) : Nat → Option Nat
  | 0 => none
  | n + 1 => if p n = true ∧ bhd S n la = true ∧ nles S n (nxt S p la n) = true then some n else nxt S p la n
def lk1 (S : Ms) : Option Nat → Nat
  | none => 0
  | some q => lkey S q + 1
theorem bhd_iff {S : Ms} (hL : LawOK S) {n : Nat} {la : Option Nat} (hn : n < cn S 24) (hq : ∀ q, la = some q → q < cn S 24) : bhd S n la = true ↔ lk1 S la ≤ lkey S n := by
  cases la with
  | none => exact ⟨fun _ => Nat.zero_le _, fun _ => rfl⟩
  | some q =>
    have h1 := (hL.2.2 n hn).1
    have h2 := (hL.2.2 q (hq q rfl)).1
    have h3 := hq q rfl
    have h4 := hL.2.1
    show (decide (gA S 26 q < gA S 26 n) || (decide (gA S 26 n = gA S 26 q) && decide (q < n))) = true ↔ lkey S q + 1 ≤ lkey S n
    rw [Bool.or_eq_true, Bool.and_eq_true, decide_eq_true_iff, decide_eq_true_iff, decide_eq_true_iff, h1.1, h2.1, nI_ltI (by omega) (by omega), nI_eq (by omega) (by omega)]
    unfold lkey
    omega
theorem nles_iff {S : Ms} (hL : LawOK S) {n : Nat} {la : Option Nat} (hn : n < cn S 24) (hq : ∀ q, la = some q → q < n) : nles S n la = true ↔ ∀ q, la = some q → lkey S n < lkey S q := by
  cases la with
  | none => exact ⟨fun _ q h => (nomatch h), fun _ => rfl⟩
  | some q =>
    have h3 := hq q rfl
    have h1 := (hL.2.2 n hn).1
    have h2 := (hL.2.2 q (by omega)).1
    have h4 := hL.2.1
    show (!decide (gA S 26 q ≤ gA S 26 n)) = true ↔ _
    rw [Bool.not_eq_true', decide_eq_false_iff_not, h1.1, h2.1, nI_leI (by omega) (by omega)]
    constructor
    · intro h q2 h5
      cases h5
      unfold lkey; omega
    · intro h
      have := h q rfl
      unfold lkey at this; omega
theorem nxt_sp {S : Ms} {p : Nat → Bool} {la : Option Nat} (hL : LawOK S) (hq : ∀ q, la = some q → q < cn S 24) : ∀ {n : Nat}, n ≤ cn S 24 →
    (∀ l, nxt S p la n = some l → l < n ∧ p l = true ∧ lk1 S la ≤ lkey S l) ∧ (∀ l, l < n → p l = true → lk1 S la ≤ lkey S l → ∃ q, nxt S p la n = some q ∧ lkey S q ≤ lkey S l)
  | 0, _ => ⟨fun l h => (nomatch h), fun l h => absurd h (Nat.not_lt_zero l)⟩
  | n + 1, hn => by
    obtain ⟨i1, i2⟩ := nxt_sp (p := p) hL hq (n := n) (by omega)
    rw [nxt]
    by_cases hc : p n = true ∧ bhd S n la = true ∧ nles S n (nxt S p la n) = true
    · rw [if_pos hc]
      have e1 := (bhd_iff hL (by omega) hq).mp hc.2.1
      have e2 := (nles_iff hL (by omega) (fun q h => (i1 q h).1)).mp hc.2.2
      refine ⟨fun l h => ?_, fun l h1 h2 h3 => ⟨n, rfl, ?_⟩⟩
      · cases h; exact ⟨by omega, hc.1, e1⟩
      · rcases Nat.lt_or_ge l n with z | z
        · obtain ⟨q, h4, h5⟩ := i2 l z h2 h3
          have := e2 q h4; omega
        · rw [show l = n by omega]; exact Nat.le_refl _
    · rw [if_neg hc]
      refine ⟨fun l h => ⟨by have := (i1 l h).1; omega, (i1 l h).2⟩, fun l h1 h2 h3 => ?_⟩
      rcases Nat.lt_or_ge l n with z | z
      · exact i2 l z h2 h3
      · have e : l = n := by omega
        subst e
        have e1 := (bhd_iff hL (by omega) hq).mpr h3
        rcases ho : nxt S p la l with _ | q
        · exact absurd ⟨h2, e1, by rw [ho]; rfl⟩ hc
        · refine ⟨q, rfl, ?_⟩
          rcases Nat.lt_or_ge (lkey S l) (lkey S q) with z2 | z2
          · exact absurd ⟨h2, e1, (nles_iff hL (by omega) (fun q h => (i1 q h).1)).mpr (fun q2 h => by rw [ho] at h; cases h; exact z2)⟩ hc
          · exact z2
theorem lkey_lt {S : Ms} (hL : LawOK S) {l : Nat} (h : l < cn S 24) : lkey S l < 120000 := by
  have h1 := (hL.2.2 l h).1.2
  have h4 := hL.2.1
  unfold lkey; omega
theorem lkey_inj {S : Ms} (hL : LawOK S) {l q : Nat} (h : l < cn S 24) (h2 : q < cn S 24) (e : lkey S l = lkey S q) : l = q := by
  have h4 := hL.2.1
  unfold lkey at e; omega
/-- the letters at hand -/
def Lt (A : Nat → Nat) (m : Nat) (M : Mm) (u : List Nat) : Prop := fI M m 62 = nI u.length ∧ ∀ i x, u[i]? = some x → fI M (A 60) i = nI x
