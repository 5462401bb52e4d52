theorem INV_except {S : Ms} (h : INV S) {f t d : Nat} (hf : f < cn S 2) (ht : t ≤ 3) (hd : d ≤ 9999) (hn : cn S 31 < 40) :
    INV (wi (wA (wA (wA (wA S 32 (cn S 31) (nI f)) 33 (cn S 31) (nI t)) 34 (cn S 31) (nI d)) 35 (cn S 31) (gi S 1)) 31 (nI (cn S 31 + 1))) := by
  obtain ⟨⟨a1, a2, a3, a4, a5, a6, a7, a8, a9⟩, h2, h3, h4, h5, h6, h7, h8, h9, h10, h11, h12⟩ := h
  obtain ⟨e1, e2⟩ := cn_w (S := wA (wA (wA (wA S 32 (cn S 31) (nI f)) 33 (cn S 31) (nI t)) 34 (cn S 31) (nI d)) 35 (cn S 31) (gi S 1)) (k := 31) (n := cn S 31 + 1) (by omega)
  have hb1 := a1.2
  have hb2 := a2.2
  refine ⟨⟨a1, a2, a3, a4, ⟨by rw [e1]; exact e2, by rw [e1]; omega⟩, a6, a7, a8, a9⟩, h2, h3, h4, h5, fun q hq => ?_, h7, h8, h9, h10, h11, h12⟩
  rw [e1] at hq
  have r : q ≠ cn S 31 → q < cn S 31 := fun z => by omega
  have f32 : ∀ i, ca (wA S 32 (cn S 31) (nI f)) 32 i = if i = cn S 31 then f else ca S 32 i := fun i => ca_w (k := 32) (j := cn S 31) (by omega)
  refine ⟨(Ar_w (k := 32) (j := cn S 31) (n := f) (b := 23) (by omega) (by decide) (fun z => (h6 q (r z)).1) : Ar (wA S 32 (cn S 31) (nI f)) 32 q 23), ?_,
    (Ar_w (S := wA S 32 (cn S 31) (nI f)) (k := 33) (j := cn S 31) ht (by decide) (fun z => (h6 q (r z)).2.2.1) : Ar (wA (wA S 32 (cn S 31) (nI f)) 33 (cn S 31) (nI t)) 33 q 3),
    (Ar_w (S := wA (wA S 32 (cn S 31) (nI f)) 33 (cn S 31) (nI t)) (k := 34) (j := cn S 31) hd (by decide) (fun z => (h6 q (r z)).2.2.2.1) : Ar (wA (wA (wA S 32 (cn S 31) (nI f)) 33 (cn S 31) (nI t)) 34 (cn S 31) (nI d)) 34 q 9999), ?_⟩
  · refine Nat.lt_of_le_of_lt (Nat.le_of_eq (f32 q)) ?_
    by_cases e : q = cn S 31
    · rw [if_pos e]; exact hf
    · rw [if_neg e]; exact (h6 q (r e)).2.1
  · rw [a1.1]
    exact (Ar_w (S := wA (wA (wA S 32 (cn S 31) (nI f)) 33 (cn S 31) (nI t)) 34 (cn S 31) (nI d)) (k := 35) (j := cn S 31) (n := cn S 1) (b := cn S 1) (i := q) (Nat.le_refl _) (by omega) (fun z => (h6 q (r z)).2.2.2.2))
