/-! ===== petitions, signs, pulls, as isInOrder asks of them (by hand) ===== -/
theorem sm_sign {S : Ms} (h : INV S) {k : Nat} (hk : k < 2 ^ 31) (hn : (g_sign (nI k) 0 0 0 S).1 ≠ -9999999) : k < cn S 2 := by
  unfold g_sign rz cSign at hn
  by_cases e : isF S (nI k) = true
  · obtain ⟨j, hj, ej⟩ := isF_ex h e
    rw [nI_eq hk (by have := h.c2; omega)] at ej
    omega
  · rw [if_neg e] at hn
    exact absurd rfl hn
theorem sm_pet {S : Ms} (h : INV S) {k : Nat} (hk : k < 2 ^ 31) (hn : (g_petOf (nI k) 0 0 0 S).1 ≠ -9999999) : k < cn S 36 ∧ (g_petOf (nI k) 0 0 0 S).1 = lN (ca S 41 k) := by
  have hc : k < cn S 36 := by
    unfold g_petOf rz cPetOf at hn
    by_cases e : isP S (nI k) = true
    · obtain ⟨j, hj, ej⟩ := isP_ex h e
      rw [nI_eq hk (by have := h.c36; omega)] at ej
      omega
    · rw [if_pos (show (!isP S (nI k)) = true by rw [Bool.not_eq_true', Bool.eq_false_iff]; exact e)] at hn
      exact absurd rfl hn
  refine ⟨hc, ?_⟩
  have e0 : cPetOf S (nI k) 0 = 0 := c_petOf0 (w := 0) h hc (by decide)
  have p41 := (h.2.2.2.2.2.2.1 k hc).2.2.2.2.2.1
  unfold g_petOf rz
  rw [if_pos e0]
  show (vPetOf S (nI k) 0).toInt64 = _
  unfold vPetOf
  rw [if_neg (by decide), if_pos rfl, nI_clamp hk, p41.1]
  exact i2l_n (by have := p41.2; omega)
theorem pop9 : ∀ x, x < 512 → pop x ≤ 9 := by decide +kernel
theorem sm_votes {S : Ms} (h : INV S) (J : JV S) {k : Nat} (hk : k < cn S 36) : pop (ca S 42 k) + pop (ca S 43 k) ≤ 9 := by
  obtain ⟨-, -, -, -, -, -, p42, p43, -⟩ := h.2.2.2.2.2.2.1 k hk
  rw [(J.2.2.2 k hk).1]
  exact pop9 _ (Nat.or_lt_two_pow (n := 9) (by have := p42.2; omega) (by have := p43.2; omega))
def ordS (S : Ms) : Ms := sPull (sPull S 0) 0
theorem c_pull0 (S : Ms) : cPull S 0 = 0 := by
  unfold cPull
  rw [if_pos (by decide)]
theorem sm_pull1 {S : Ms} (h : INV S) : ¬ vPull S 0 < 0 := by
  have h55 := h.2.2.2.2.2.2.2.2.2.2.1 0 (by decide)
  show ¬ gi S 1 - gA S 55 0 < 0
  rw [h55.1, h.1.1.1, nI_subN h55.2]
  exact nI_pos (by have := h.1.1.2; omega)
theorem sm_pull2 (S : Ms) : vPull (sPull S 0) 0 = 0 := by
  show gi S 1 - gA (sPull S 0) 55 0 = 0
  rw [show gA (sPull S 0) 55 0 = gi S 1 from gA_p (S := wi S 0 0) (k := 55) (j := 0) (i := 0) (v := gi S 1) |>.trans (if_pos rfl)]
  exact Int32.sub_self _
theorem ord_INV {S : Ms} (h : INV S) (J : JV S) : INV (ordS S) ∧ JV (ordS S) ∧ gi (ordS S) 1 = gi S 1 :=
  ⟨I_Pull (I_Pull h (c_pull0 S)) (c_pull0 _), J, rfl⟩
/-- the memory since some start, the land as it says -/
def OT (x : Nat) (S : Ms) (M0 M : Mm) : Prop := agr TC M0 M ∧ ∃ B, RX B x S M
theorem OT.k {x : Nat} {S : Ms} {M0 M : Mm} (h : OT x S M0 M) : kd M x % 1000 = 11 := by
  obtain ⟨-, B, hB⟩ := h
  rw [hB.1.1]
theorem OT.n {x : Nat} {S S' : Ms} {M0 M M' : Mm} (h : OT x S M0 M) (g : agr TC M M') (hB : ∃ B, RX B x S' M') : OT x S' M0 M' := ⟨h.1.tr g, hB⟩
