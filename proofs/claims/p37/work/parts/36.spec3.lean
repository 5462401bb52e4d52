theorem gi_wi {S : Ms} {k i : Nat} {v : Int32} : gi (wi S k v) i = if i = k then v else gi S i := rfl
theorem gA_wA {S : Ms} {k j i : Nat} {v : Int32} : gA (wA S k j v) i = if i = k then pu (gA S k) j v else gA S i := by
  by_cases h : i = k
  · subst h
    rw [if_pos rfl]
    funext q
    show (if i = i ∧ q = j then v else S.2.1 i q) = if q = j then v else S.2.1 i q
    by_cases h2 : q = j
    · rw [if_pos ⟨rfl, h2⟩, if_pos h2]
    · rw [if_neg (fun z => h2 z.2), if_neg h2]
  · rw [if_neg h]
    funext q
    exact if_neg (fun z => h z.1)
def pul (f : Nat → Int64) (k : Nat) (v : Int64) : Nat → Int64 := fun j => if j = k then v else f j
theorem gL_wL {S : Ms} {k j i : Nat} {v : Int64} : gL (wL S k j v) i = if i = k then pul (gL S k) j v else gL S i := by
  by_cases h : i = k
  · subst h
    rw [if_pos rfl]
    funext q
    show (if i = i ∧ q = j then v else S.2.2 i q) = if q = j then v else S.2.2 i q
    by_cases h2 : q = j
    · rw [if_pos ⟨rfl, h2⟩, if_pos h2]
    · rw [if_neg (fun z => h2 z.2), if_neg h2]
  · rw [if_neg h]
    funext q
    exact if_neg (fun z => h z.1)
theorem inN {n : Nat} (hn : n < 2 ^ 30) (f : Int32) : inB f 0 (nI n - 1) = false ∨ ∃ j, j < n ∧ f = nI j ∧ inB f 0 (nI n - 1) = true := by
  rcases pk_ix f (n := n) (by omega) with h | h | ⟨j, h1, h2⟩
  · left; unfold inB; rw [decide_eq_true h]; rfl
  · left
    unfold inB
    have : nI n - 1 < f := by
      rcases Nat.eq_zero_or_pos n with z | z
      · subst z
        exact Int32.lt_of_lt_of_le (by decide) h
      · rw [show nI n - 1 = nI (n - 1) from pk_sub (b := 1) z]
        exact Int32.lt_of_lt_of_le (nI_lt (by omega) (by omega)) h
    rw [decide_eq_true this]; cases (!decide (f < 0)) <;> rfl
  · right
    refine ⟨j, h1, h2, ?_⟩
    rw [show nI n - 1 = nI (n - 1) from pk_sub (b := 1) (by omega), h2]
    unfold inB
    rw [decide_eq_false (nI_pos (by omega)), decide_eq_false (fun z => absurd ((nI_ltI (by omega) (by omega)).mp z) (by omega))]; rfl
theorem inb {v : Int32} {a b : Nat} (hb : b < 2 ^ 30) (h : inB v (nI a) (nI b) = true) (ha : a < 2 ^ 31) : ∃ j, a ≤ j ∧ j ≤ b ∧ v = nI j := by
  unfold inB at h
  rw [Bool.and_eq_true, Bool.not_eq_true', Bool.not_eq_true', decide_eq_false_iff_not, decide_eq_false_iff_not] at h
  rcases pk_ix v (n := b + 1) (by omega) with z | z | ⟨j, h1, rfl⟩
  · rcases Nat.eq_zero_or_pos a with e | e
    · subst e; exact absurd z h.1
    · exact absurd (Int32.lt_trans z (nI_lt e ha)) h.1
  · exact absurd (Int32.lt_of_lt_of_le (nI_lt (show b < b + 1 by omega) (by omega)) z) h.2
  · refine ⟨j, ?_, by omega, rfl⟩
    rw [nI_ltI (by omega) (by omega)] at h; omega
