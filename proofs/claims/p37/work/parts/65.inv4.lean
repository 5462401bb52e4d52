theorem Ar_n {S S' : Ms} {k i b : Nat} (h : gA S' k = gA S k) (hA : Ar S k i b) : Ar S' k i b := by
  unfold Ar ca at *; rw [h]; exact hA
theorem INV_law {S : Ms} (h : INV S) {t d l a b : Nat} (ht : t ≤ 3) (hd : d ≤ 9999) (hl : l ≤ 26) (ha : a ≤ 26) (hb : b ≤ 26) (hab : a = 0 → b = 0) (hn : cn S 24 < 12) :
    INV (wi (wA (wA (wA (wA (wA (wA S 25 (cn S 24) (nI t)) 26 (cn S 24) (nI d)) 27 (cn S 24) (nI l)) 28 (cn S 24) (nI a)) 29 (cn S 24) (nI b)) 30 (cn S 24) (gi S 1)) 24 (nI (cn S 24 + 1))) := by
  obtain ⟨⟨a1, a2, a3, a4, a5, a6, a7, a8, a9⟩, h2, h3, h4, h5, h6, h7, h8, h9, h10, h11, h12⟩ := h
  obtain ⟨e1, e2⟩ := cn_w (S := wA (wA (wA (wA (wA (wA S 25 (cn S 24) (nI t)) 26 (cn S 24) (nI d)) 27 (cn S 24) (nI l)) 28 (cn S 24) (nI a)) 29 (cn S 24) (nI b)) 30 (cn S 24) (gi S 1)) (k := 24) (n := cn S 24 + 1) (by omega)
  have hb1 := a1.2
  refine ⟨⟨a1, a2, a3, ⟨by rw [e1]; exact e2, by rw [e1]; omega⟩, a5, a6, a7, a8, a9⟩, h2, h3, h4, fun q hq => ?_, h6, h7, h8, h9, h10, h11, h12⟩
  rw [e1] at hq
  have r : q ≠ cn S 24 → q < cn S 24 := fun z => by omega
  have f28 : ∀ i, ca (wA (wA (wA (wA S 25 (cn S 24) (nI t)) 26 (cn S 24) (nI d)) 27 (cn S 24) (nI l)) 28 (cn S 24) (nI a)) 28 i = if i = cn S 24 then a else ca S 28 i := fun i => ca_w (k := 28) (j := cn S 24) (by omega)
  have f29 : ∀ i, ca (wA (wA (wA (wA (wA S 25 (cn S 24) (nI t)) 26 (cn S 24) (nI d)) 27 (cn S 24) (nI l)) 28 (cn S 24) (nI a)) 29 (cn S 24) (nI b)) 29 i = if i = cn S 24 then b else ca S 29 i := fun i => ca_w (k := 29) (j := cn S 24) (by omega)
  refine ⟨(Ar_w (k := 25) (j := cn S 24) ht (by decide) (fun z => (h5 q (r z)).1) : Ar (wA S 25 (cn S 24) (nI t)) 25 q 3),
    (Ar_w (S := wA S 25 (cn S 24) (nI t)) (k := 26) (j := cn S 24) hd (by decide) (fun z => (h5 q (r z)).2.1) : Ar (wA (wA S 25 (cn S 24) (nI t)) 26 (cn S 24) (nI d)) 26 q 9999),
    (Ar_w (S := wA (wA S 25 (cn S 24) (nI t)) 26 (cn S 24) (nI d)) (k := 27) (j := cn S 24) hl (by decide) (fun z => (h5 q (r z)).2.2.1) : Ar (wA (wA (wA S 25 (cn S 24) (nI t)) 26 (cn S 24) (nI d)) 27 (cn S 24) (nI l)) 27 q 26),
    (Ar_w (S := wA (wA (wA S 25 (cn S 24) (nI t)) 26 (cn S 24) (nI d)) 27 (cn S 24) (nI l)) (k := 28) (j := cn S 24) ha (by decide) (fun z => (h5 q (r z)).2.2.2.1) : Ar (wA (wA (wA (wA S 25 (cn S 24) (nI t)) 26 (cn S 24) (nI d)) 27 (cn S 24) (nI l)) 28 (cn S 24) (nI a)) 28 q 26),
    (Ar_w (S := wA (wA (wA (wA S 25 (cn S 24) (nI t)) 26 (cn S 24) (nI d)) 27 (cn S 24) (nI l)) 28 (cn S 24) (nI a)) (k := 29) (j := cn S 24) hb (by decide) (fun z => (h5 q (r z)).2.2.2.2.1) : Ar (wA (wA (wA (wA (wA S 25 (cn S 24) (nI t)) 26 (cn S 24) (nI d)) 27 (cn S 24) (nI l)) 28 (cn S 24) (nI a)) 29 (cn S 24) (nI b)) 29 q 26), ?_, ?_⟩
  · intro h0
    have h0' := (f28 q).symm.trans h0
    refine (f29 q).trans ?_
    by_cases e : q = cn S 24
    · rw [if_pos e] at h0' ⊢; exact hab h0'
    · rw [if_neg e] at h0' ⊢; exact (h5 q (r e)).2.2.2.2.2.1 h0'
  · rw [a1.1]
    exact (Ar_w (S := wA (wA (wA (wA (wA S 25 (cn S 24) (nI t)) 26 (cn S 24) (nI d)) 27 (cn S 24) (nI l)) 28 (cn S 24) (nI a)) 29 (cn S 24) (nI b)) (k := 30) (j := cn S 24) (n := cn S 1) (b := cn S 1) (i := q) (Nat.le_refl _) (by omega) (fun z => (h5 q (r z)).2.2.2.2.2.2))
