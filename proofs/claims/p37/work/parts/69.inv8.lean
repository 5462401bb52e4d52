theorem INV_end {S : Ms} (h : INV S) {f d : Nat} {i : Int32} (hd : d ≤ 9999) (hi : i = -1 ∨ ∃ n, n ≤ 23 ∧ i = nI n) : INV (wA (wA (wA S 14 f (nI d)) 15 f i) 16 f (gi S 1)) := by
  obtain ⟨h1, h2, h3, h4, h5, h6, h7, h8, h9, h10, h11, h12⟩ := h
  have hb1 := h1.1.2
  refine ⟨h1, fun g hg => ?_, h3, h4, h5, h6, h7, h8, h9, h10, h11, h12⟩
  obtain ⟨a1, a2, a3, a4, a5, a6, a7, a8, a9, a10, a11, a12⟩ := h2 g hg
  refine ⟨a1, a2, a3, a4, a5, a6, a7, a8, ?_, a10, a11, a12⟩
  have f14 : gA (wA S 14 f (nI d)) 14 g = if g = f then nI d else gA S 14 g := by rw [gA_wA, if_pos rfl]; rfl
  have f15 : gA (wA (wA S 14 f (nI d)) 15 f i) 15 g = if g = f then i else gA S 15 g := by rw [gA_wA, if_pos rfl]; rfl
  have f16 : gA (wA (wA (wA S 14 f (nI d)) 15 f i) 16 f (gi S 1)) 16 g = if g = f then gi S 1 else gA S 16 g := by rw [gA_wA, if_pos rfl]; rfl
  have k14 : gA (wA (wA (wA S 14 f (nI d)) 15 f i) 16 f (gi S 1)) 14 g = if g = f then nI d else gA S 14 g := f14
  have k15 : gA (wA (wA (wA S 14 f (nI d)) 15 f i) 16 f (gi S 1)) 15 g = if g = f then i else gA S 15 g := f15
  have hcn : cn (wA (wA (wA S 14 f (nI d)) 15 f i) 16 f (gi S 1)) 1 = cn S 1 := rfl
  unfold Ar ca at a9 ⊢
  rw [k14, k15, f16, hcn]
  by_cases e : g = f
  · rw [if_pos e, if_pos e, if_pos e]
    refine Or.inr ⟨⟨by rw [nI_clamp (by omega)], by rw [nI_clamp (by omega)]; exact hd⟩, ⟨h1.1.1, Nat.le_refl _⟩, ?_⟩
    rcases hi with z | ⟨n, q1, q2⟩
    · exact Or.inl z
    · exact Or.inr ⟨by rw [q2, nI_clamp (by omega)], by rw [q2, nI_clamp (by omega)]; exact q1⟩
  · rw [if_neg e, if_neg e, if_neg e]; exact a9
