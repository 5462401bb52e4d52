theorem bst_ex {p : Nat → Bool} {dy : Nat → Int32} {i : Nat} (hp : p i = true) : ∀ {n : Nat}, i < n → ∃ q, bst p dy n = some q
  | 0, h => absurd h (Nat.not_lt_zero i)
  | n + 1, h => by
    rw [bst]
    rcases ho : bst p dy n with _ | q
    · by_cases e : i = n
      · exact ⟨n, by rw [if_pos ⟨by rw [← e]; exact hp, rfl⟩]⟩
      · obtain ⟨q, hq⟩ := bst_ex (dy := dy) hp (n := n) (by omega)
        rw [ho] at hq; cases hq
    · by_cases c : p n = true ∧ nl dy n (some q) = true
      · exact ⟨n, if_pos c⟩
      · exact ⟨q, if_neg c⟩
theorem plA_ex {S : Ms} (hV : INV S) {f : Nat} (hf : f < cn S 2) : ∃ q, plA S f (gi S 1) (gi S 1) = some q ∧ q < ca S 5 f := by
  obtain ⟨⟨v1, -⟩, vF, -⟩ := hV
  obtain ⟨-, -, h5, h5p, -, hp, hd, -⟩ := vF f hf
  have h0 := hp 0 h5p
  have hb := v1.2
  have hp0 : pP (gA S 8) (gA S 9) (40 * f) (gi S 1) (gi S 1) 0 = true := by
    unfold pP
    rw [v1.1, h0.2.2.1.1, h0.2.2.2.1, decide_eq_false (fun z => by rw [nI_ltI (by omega) (by have := h0.2.2.1.2; omega)] at z; rw [Nat.add_zero] at z; omega), decide_eq_false (fun z => by rw [nI_ltI (by omega) (by have := h0.2.2.2.2; omega)] at z; have := h0.2.2.2.2; omega)]
    rfl
  obtain ⟨q, hq⟩ := bst_ex (dy := fun n => gA S 8 (40 * f + n)) hp0 h5p
  exact ⟨q, hq, (bst_mem hq).1⟩
def abI (x : Int32) : Int32 := if 0 ≤ x then x else -x
def awyA (S : Ms) (f : Nat) (x y : Int32) : Int32 := match plA S f (gi S 1) (gi S 1) with
  | none => 0
  | some q => abI (gA S 6 (40 * f + q) - x) + abI (gA S 7 (40 * f + q) - y)
def frL (S : Ms) (f : Nat) (w : Int64) : Nat → Bool
  | 0 => false
  | n + 1 => frL S f w n || decide (formA S (nI f) (nI n) (gi S 1) (gi S 1) = w)
def wtL (S : Ms) (f : Nat) (w : Int64) : Nat → Bool
  | 0 => false
  | n + 1 => wtL S f w n || (decide (gA S 18 n = nI f) && decide (gL S 20 n = w))
def rkA (S : Ms) (w : Int64) (x y : Int32) (f : Nat) : Int32 := if (frL S f w 4 || wtL S f w (cn S 17)) = true then ((if frL S f w 4 = true then 0 else 100000) + 100 * awyA S f x y) + nI f else -1
def mnA (rk : Nat → Int32) (la : Int32) : Nat → Int32
  | 0 => -1
  | n + 1 => if ¬ rk n ≤ la ∧ (mnA rk la n = -1 ∨ ¬ mnA rk la n ≤ rk n) then rk n else mnA rk la n
def fnA (rk : Nat → Int32) (nF : Nat) : Nat → Option Int32
  | 0 => some (-1)
  | n + 1 => match fnA rk nF n with
    | none => none
    | some la => if mnA rk la nF = -1 then none else some (mnA rk la nF)
def cFind (S : Ms) (w : Int64) (x y r : Int32) : Int32 := if ¬ 0 ≤ r then 1 else if (!isWd 12 w || !plB2 x y) = true then 2 else 0
def sFind (S : Ms) (w : Int64) (x y r : Int32) : Ms := wi S 0 0
def vFind (S : Ms) (w : Int64) (x y r : Int32) : Int32 := match fnA (rkA S w x y) (cn S 2) (r.toNatClampNeg + 1) with
  | none => -1
  | some la => la - la / 100 * 100
def cLe (rk : Nat → Int32) (la : Int32) : Nat → Nat
  | 0 => 0
  | n + 1 => cLe rk la n + if (-1 < rk n ∧ rk n ≤ la) then 1 else 0
theorem cLe_mono {rk : Nat → Int32} {la lb : Int32} (h : la ≤ lb) : ∀ n, cLe rk la n ≤ cLe rk lb n
  | 0 => Nat.le_refl _
  | n + 1 => by
    have ih := cLe_mono (rk := rk) h n
    rw [cLe, cLe]
    by_cases c : -1 < rk n ∧ rk n ≤ la
    · rw [if_pos c, if_pos ⟨c.1, Int32.le_trans c.2 h⟩]; omega
    · rw [if_neg c]; omega
theorem cLe_lt {rk : Nat → Int32} {la lb : Int32} (h : la ≤ lb) {k : Nat} (hk : rk k = lb) (h1 : ¬ lb ≤ la) (h2 : -1 < lb) : ∀ n, k < n → cLe rk la n + 1 ≤ cLe rk lb n
  | 0, hn => absurd hn (Nat.not_lt_zero k)
  | n + 1, hn => by
    rw [cLe, cLe]
    rcases Nat.lt_or_ge k n with z | z
    · have ih := cLe_lt h hk h1 h2 n z
      by_cases c : -1 < rk n ∧ rk n ≤ la
      · rw [if_pos c, if_pos ⟨c.1, Int32.le_trans c.2 h⟩]; omega
      · rw [if_neg c]; omega
    · have e : k = n := by omega
      subst e
      have := cLe_mono (rk := rk) h k
      rw [if_neg (fun c => h1 (by rw [← hk]; exact c.2)), if_pos ⟨by rw [hk]; exact h2, by rw [hk]; exact Int32.le_refl _⟩]; omega
theorem mnA_mem {rk : Nat → Int32} {la : Int32} : ∀ {n}, mnA rk la n ≠ -1 → ∃ k, k < n ∧ rk k = mnA rk la n ∧ ¬ rk k ≤ la
  | 0, h => absurd rfl h
  | n + 1, h => by
    rw [mnA] at h ⊢
    by_cases c : ¬ rk n ≤ la ∧ (mnA rk la n = -1 ∨ ¬ mnA rk la n ≤ rk n)
    · rw [if_pos c]; exact ⟨n, by omega, rfl, c.1⟩
    · rw [if_neg c] at h ⊢
      obtain ⟨k, h1, h2, h3⟩ := mnA_mem h
      exact ⟨k, by omega, h2, h3⟩
