theorem Ar_w {S : Ms} {k j n b i : Nat} (hn : n ≤ b) (hb : b < 2 ^ 31) (h : i ≠ j → Ar S k i b) : Ar (wA S k j (nI n)) k i b := by
  unfold Ar ca
  rw [gA_wA, if_pos rfl]
  unfold pu
  by_cases e : i = j
  · rw [if_pos e, nI_clamp (by omega)]; exact ⟨rfl, hn⟩
  · rw [if_neg e]; exact h e
theorem ca_w {S : Ms} {k j n i : Nat} (hn : n < 2 ^ 31) : ca (wA S k j (nI n)) k i = if i = j then n else ca S k i := by
  unfold ca
  rw [gA_wA, if_pos rfl]
  unfold pu
  by_cases e : i = j
  · rw [if_pos e, if_pos e, nI_clamp hn]
  · rw [if_neg e, if_neg e]
theorem opS_INV {S s : Ms} {c : Int32} (h : INV S) (hs : c = 0 → INV s) : INV (opS c S s) := by
  unfold opS
  by_cases e : c = 0
  · rw [if_pos e]; exact hs e
  · rw [if_neg e]; exact h
theorem INV_pull {S : Ms} (h : INV S) {s : Nat} : INV (wA S 55 s (gi S 1)) := by
  obtain ⟨h1, h2, h3, h4, h5, h6, h7, h8, h9, h10, h11, h12⟩ := h
  refine ⟨h1, h2, h3, h4, h5, h6, h7, h8, h9, h10, ?_, h12⟩
  intro t ht
  have hb := h1.1.2
  rw [h1.1.1]
  exact Ar_w (Nat.le_refl _) (by show cn S 1 < 2 ^ 31; omega) (fun _ => h11 t ht)
theorem INV_budget {S : Ms} (h : INV S) {n : Nat} (hn : n ≤ 10) : INV (wi S 59 (nI n)) := by
  obtain ⟨⟨a1, a2, a3, a4, a5, a6, a7, a8, a9⟩, h2⟩ := h
  refine ⟨⟨a1, a2, a3, a4, a5, a6, a7, a8, ?_⟩, h2⟩
  have e : gi (wi S 59 (nI n)) 59 = nI n := by rw [gi_wi, if_pos rfl]
  have e2 : cn (wi S 59 (nI n)) 59 = n := by unfold cn; rw [e, nI_clamp (by omega)]
  exact ⟨by rw [e2]; exact e, by rw [e2]; exact hn⟩
theorem INV_table {S : Ms} (h : INV S) {t l o : Nat} (ho : 1 ≤ o ∧ o ≤ 26) : INV (wA S 50 (27 * t + l) (nI o)) := by
  obtain ⟨h1, h2, h3, h4, h5, h6, h7, h8, h9, h10, h11, h12⟩ := h
  refine ⟨h1, h2, h3, h4, h5, h6, h7, h8, ?_, h10, h11, h12⟩
  intro t2 l2 ht hl
  refine ⟨Ar_w ho.2 (by decide) (fun _ => (h9 t2 l2 ht hl).1), fun h0 => ?_⟩
  rw [ca_w (by omega)]
  split
  · omega
  · exact (h9 t2 l2 ht hl).2 h0
