theorem gA_w0 {S : Ms} {k j i : Nat} {v : Int32} (h : i ≠ j) : gA (wA S k j v) k i = gA S k i := by
  rw [gA_wA, if_pos rfl]
  exact if_neg h
theorem INV_census {S : Ms} (h : INV S) {f t n : Nat} (hf : f < cn S 2) (ht : t < 4) (hn : n ≤ 100) : INV (wA S 47 (4 * f + t) (nI n)) := by
  obtain ⟨h1, h2, h3, h4, h5, h6, h7, h8, h9, h10, h11, h12⟩ := h
  refine ⟨h1, fun g hg => ?_, fun g hg hg2 => ?_, h4, h5, h6, h7, h8, h9, h10, h11, h12⟩
  · obtain ⟨a1, a2, a3, a4, a5, a6, a7, a8, a9, a10, a11, a12⟩ := h2 g hg
    exact ⟨a1, a2, a3, a4, a5, a6, a7, a8, a9, a10, a11, fun u hu => Ar_w hn (by decide) (fun _ => a12 u hu)⟩
  · obtain ⟨a1, a2, a3, a4, a5, a6⟩ := h3 g hg hg2
    have hg' : cn S 2 ≤ g := hg
    refine ⟨a1, a2, a3, a4, a5, fun u hu => ?_⟩
    rw [gA_w0 (by omega)]
    exact a6 u hu
theorem INV_dispute {S : Ms} (h : INV S) {f a b : Nat} (hf : f < cn S 2) (ha : a ≤ 3) (hb : b ≤ 3) : INV (wA (wA S 48 f (nI a)) 49 f (nI b)) := by
  obtain ⟨h1, h2, h3, h4, h5, h6, h7, h8, h9, h10, h11, h12⟩ := h
  refine ⟨h1, fun g hg => ?_, fun g hg hg2 => ?_, h4, h5, h6, h7, h8, h9, h10, h11, h12⟩
  · obtain ⟨a1, a2, a3, a4, a5, a6, a7, a8, a9, a10, a11, a12⟩ := h2 g hg
    exact ⟨a1, a2, a3, a4, a5, a6, a7, a8, a9, (Ar_w ha (by decide) (fun _ => a10) : Ar (wA S 48 f (nI a)) 48 g 3), Ar_w (S := wA S 48 f (nI a)) hb (by decide) (fun _ => a11), a12⟩
  · obtain ⟨a1, a2, a3, a4, a5, a6⟩ := h3 g hg hg2
    have hg' : cn S 2 ≤ g := hg
    exact ⟨a1, a2, (gA_w0 (S := S) (k := 48) (v := nI a) (show g ≠ f by omega)).trans a3, (gA_w0 (S := wA S 48 f (nI a)) (k := 49) (v := nI b) (show g ≠ f by omega)).trans a4, a5, a6⟩
theorem INV_protest {S : Ms} (h : INV S) {p n : Nat} (hp : p < cn S 36) (hn : n ≤ 255) : INV (wA S 44 p (nI n)) := by
  obtain ⟨h1, h2, h3, h4, h5, h6, h7, h8, h9, h10, h11, h12⟩ := h
  refine ⟨h1, h2, h3, h4, h5, h6, fun q hq => ?_, fun q hq hq2 => ?_, h9, h10, h11, h12⟩
  · obtain ⟨a1, a2, a3, a4, a5, a6, a7, a8, a9, a10, a11⟩ := h7 q hq
    exact ⟨a1, a2, a3, a4, a5, a6, a7, a8, Ar_w hn (by decide) (fun _ => a9), a10, a11⟩
  · obtain ⟨a1, a2, a3, a4⟩ := h8 q hq hq2
    have hq' : cn S 36 ≤ q := hq
    exact ⟨a1, a2, a3, (gA_w0 (S := S) (k := 44) (v := nI n) (show q ≠ p by omega)).trans a4⟩
theorem INV_vote {S : Ms} (h : INV S) {k p n : Nat} (hk : k = 42 ∨ k = 43) (hp : p < cn S 36) (hn : n ≤ 511) : INV (wA S k p (nI n)) := by
  obtain ⟨h1, h2, h3, h4, h5, h6, h7, h8, h9, h10, h11, h12⟩ := h
  rcases hk with rfl | rfl
  · refine ⟨h1, h2, h3, h4, h5, h6, fun q hq => ?_, fun q hq hq2 => ?_, h9, h10, h11, h12⟩
    · obtain ⟨a1, a2, a3, a4, a5, a6, a7, a8, a9, a10, a11⟩ := h7 q hq
      exact ⟨a1, a2, a3, a4, a5, a6, Ar_w hn (by decide) (fun _ => a7), a8, a9, a10, a11⟩
    · obtain ⟨a1, a2, a3, a4⟩ := h8 q hq hq2
      have hq' : cn S 36 ≤ q := hq
      exact ⟨a1, (gA_w0 (S := S) (k := 42) (v := nI n) (show q ≠ p by omega)).trans a2, a3, a4⟩
  · refine ⟨h1, h2, h3, h4, h5, h6, fun q hq => ?_, fun q hq hq2 => ?_, h9, h10, h11, h12⟩
    · obtain ⟨a1, a2, a3, a4, a5, a6, a7, a8, a9, a10, a11⟩ := h7 q hq
      exact ⟨a1, a2, a3, a4, a5, a6, a7, Ar_w hn (by decide) (fun _ => a8), a9, a10, a11⟩
    · obtain ⟨a1, a2, a3, a4⟩ := h8 q hq hq2
      have hq' : cn S 36 ≤ q := hq
      exact ⟨a1, a2, (gA_w0 (S := S) (k := 43) (v := nI n) (show q ≠ p by omega)).trans a3, a4⟩
