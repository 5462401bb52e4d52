theorem tabLet {S : Ms} (hT : vTab S) {t x : Nat} (ht : t < 4) (h : 1 ≤ x ∧ x ≤ 26) : gA S 50 (27 * t + x) = nI (ca S 50 (27 * t + x)) ∧ 1 ≤ ca S 50 (27 * t + x) ∧ ca S 50 (27 * t + x) ≤ 26 := by
  have := hT t x ht (by omega)
  exact ⟨this.1.1, this.2 (by omega), this.1.2⟩
theorem lasB_le {g : Nat → Int32} {v : Int32} : ∀ n, lasB g v n ≤ n
  | 0 => Nat.le_refl _
  | n + 1 => by rw [lasB]; have := lasB_le (g := g) (v := v) n; split <;> omega
theorem lasB_pos {g : Nat → Int32} {v : Int32} : ∀ {n}, cntB g v n ≠ 0 → 0 < lasB g v n
  | 0, h => absurd rfl h
  | n + 1, h => by
    rw [cntB] at h
    rw [lasB]
    by_cases c : g (n + 1) = v
    · rw [if_pos c]; omega
    · rw [if_neg c] at h ⊢; exact lasB_pos h
theorem rbk_le (S : Ms) (t x : Nat) : rbk S t x ≤ 26 := by
  unfold rbk
  split
  · exact lasB_le 26
  · omega
theorem setB_nat {g : Nat → Int32} : ∀ {n : Nat}, (∀ l, 1 ≤ l → l ≤ n → ∃ x, x ≤ 26 ∧ g l = nI x) → ∃ s, s < 2 ^ 27 ∧ setB g n = nI s
  | 0, _ => ⟨0, by decide, rfl⟩
  | n + 1, h => by
    obtain ⟨s, h1, h2⟩ := setB_nat (g := g) (n := n) (fun l a b => h l a (by omega))
    obtain ⟨x, h3, h4⟩ := h (n + 1) (by omega) (Nat.le_refl _)
    refine ⟨s ||| 2 ^ x, Nat.or_lt_two_pow h1 (Nat.pow_lt_pow_right (by decide) (by omega)), ?_⟩
    rw [setB, h2, h4, sh1 x (by omega), nI_or]
