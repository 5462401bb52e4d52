theorem voted_eq : ∀ x, x < 512 → ∀ c, c < 9 → decide ((nI x &&& 1 <<< (nI c &&& 31)) = 0) = decide (nI x >>> (nI c &&& 31) &&& 1 = 0) := by decide +kernel
theorem prot_eq : ∀ x, x < 256 → ∀ c, c < 8 → (!decide ((nI x &&& 1 <<< (nI c &&& 31)) = 0)) = decide (nI x >>> (nI c &&& 31) &&& 1 = 1) := by decide +kernel
theorem S0_c (k : Nat) (h : k ≠ 59) : cn (S0n 108) k = 0 := by
  show (if k = 59 then (2 : Int32) else 0).toNatClampNeg = 0
  rw [if_neg h]; rfl
theorem INV_S0 : INV (S0n 108) := by
  have hc : ∀ k b, k ≠ 59 → Cnt (S0n 108) k b := fun k b h => ⟨by rw [S0_c k h]; exact if_neg h, by rw [S0_c k h]; omega⟩
  refine ⟨⟨hc 1 _ (by decide), hc 2 _ (by decide), hc 17 _ (by decide), hc 24 _ (by decide), hc 31 _ (by decide), hc 36 _ (by decide), hc 51 _ (by decide), hc 58 _ (by decide), ⟨by decide, by decide⟩⟩, ?_, ?_, ?_, ?_, ?_, ?_, ?_, ?_, ?_, ?_, ?_⟩
  · intro f hf; rw [S0_c 2 (by decide)] at hf; omega
  · intro f _ _; exact ⟨rfl, rfl, rfl, rfl, rfl, fun _ _ => rfl⟩
  · intro n hn; rw [S0_c 17 (by decide)] at hn; omega
  · intro n hn; rw [S0_c 24 (by decide)] at hn; omega
  · intro n hn; rw [S0_c 31 (by decide)] at hn; omega
  · intro n hn; rw [S0_c 36 (by decide)] at hn; omega
  · intro p _ _; exact ⟨rfl, rfl, rfl, rfl⟩
  · intro t l ht hl
    have e : gA (S0n 108) 50 (27 * t + l) = nI l := by
      show (if 50 = 50 ∧ 27 * t + l < 108 then nI ((27 * t + l) % 27) else 0) = nI l
      rw [if_pos ⟨rfl, by omega⟩, show (27 * t + l) % 27 = l by omega]
    have e2 : ca (S0n 108) 50 (27 * t + l) = l := by unfold ca; rw [e, nI_clamp (by omega)]
    exact ⟨⟨by rw [e2]; exact e, by rw [e2]; omega⟩, fun h => by rw [e2]; exact h⟩
  · intro r hr; rw [S0_c 51 (by decide)] at hr; omega
  · intro s hs; exact ⟨rfl, Nat.zero_le _⟩
  · exact ⟨fun i hi => by rw [S0_c 58 (by decide)] at hi; omega, fun i j _ hj => by rw [S0_c 58 (by decide)] at hj; omega⟩
