theorem INV_tells {S : Ms} (h : INV S) {f t d : Nat} {w : Int64} (hf : f < cn S 2) (ht : t ≤ 3) (hw : Wd8 w) (hd : d ≤ 9999) (hn : cn S 17 < 100) : INV (sTells S (nI f) (nI t) w (nI d)) := by
  obtain ⟨⟨a1, a2, a3, a4, a5, a6, a7, a8, a9⟩, h2, h3, h4, h5, h6, h7, h8, h9, h10, h11, h12⟩ := h
  have hb1 := a1.2
  have hb2 := a2.2
  have e0 : gi S 17 + 1 = nI (cn S 17 + 1) := by rw [a3.1, nI_s]
  unfold sTells
  rw [e0]
  obtain ⟨e1, e2⟩ := cn_w (S := wA (wA (wA (wL (wA (wA S 18 (cn S 17) (nI f)) 19 (cn S 17) (nI t)) 20 (cn S 17) w) 21 (cn S 17) (nI d)) 22 (cn S 17) (gi S 1)) 23 (cn S 17) (-1)) (k := 17) (n := cn S 17 + 1) (by omega)
  refine ⟨⟨a1, a2, ⟨by rw [e1]; exact e2, by rw [e1]; omega⟩, a4, a5, a6, a7, a8, a9⟩, h2, h3, fun q hq => ?_, h5, h6, fun p hp => ?_, h8, h9, h10, h11, h12⟩
  · rw [e1] at hq
    have r : q ≠ cn S 17 → q < cn S 17 := fun z => by omega
    have f18 : ∀ i, ca (wA S 18 (cn S 17) (nI f)) 18 i = if i = cn S 17 then f else ca S 18 i := fun i => ca_w (k := 18) (j := cn S 17) (by omega)
    refine ⟨(Ar_w (k := 18) (j := cn S 17) (n := f) (b := 23) (by omega) (by decide) (fun z => (h4 q (r z)).1) : Ar (wA S 18 (cn S 17) (nI f)) 18 q 23), ?_,
      (Ar_w (S := wA S 18 (cn S 17) (nI f)) (k := 19) (j := cn S 17) ht (by decide) (fun z => (h4 q (r z)).2.2.1) : Ar (wA (wA S 18 (cn S 17) (nI f)) 19 (cn S 17) (nI t)) 19 q 3), ?_,
      (Ar_w (S := wL (wA (wA S 18 (cn S 17) (nI f)) 19 (cn S 17) (nI t)) 20 (cn S 17) w) (k := 21) (j := cn S 17) hd (by decide) (fun z => (h4 q (r z)).2.2.2.2.1) : Ar (wA (wL (wA (wA S 18 (cn S 17) (nI f)) 19 (cn S 17) (nI t)) 20 (cn S 17) w) 21 (cn S 17) (nI d)) 21 q 9999), ?_, ?_⟩
    · refine Nat.lt_of_le_of_lt (Nat.le_of_eq (f18 q)) ?_
      by_cases e : q = cn S 17
      · rw [if_pos e]; exact hf
      · rw [if_neg e]; exact (h4 q (r e)).2.1
    · show Wd8 (gL (wL (wA (wA S 18 (cn S 17) (nI f)) 19 (cn S 17) (nI t)) 20 (cn S 17) w) 20 q)
      rw [gL_w]
      by_cases e : q = cn S 17
      · rw [if_pos e]; exact hw
      · rw [if_neg e]; exact (h4 q (r e)).2.2.2.1
    · rw [a1.1]
      exact (Ar_w (S := wA (wL (wA (wA S 18 (cn S 17) (nI f)) 19 (cn S 17) (nI t)) 20 (cn S 17) w) 21 (cn S 17) (nI d)) (k := 22) (j := cn S 17) (n := cn S 1) (b := cn S 1) (i := q) (Nat.le_refl _) (by omega) (fun z => (h4 q (r z)).2.2.2.2.2.1))
    · have f23 : gA (wA (wA (wA (wL (wA (wA S 18 (cn S 17) (nI f)) 19 (cn S 17) (nI t)) 20 (cn S 17) w) 21 (cn S 17) (nI d)) 22 (cn S 17) (gi S 1)) 23 (cn S 17) (-1)) 23 q = if q = cn S 17 then -1 else gA S 23 q := by
        rw [gA_wA, if_pos rfl]; rfl
      by_cases e : q = cn S 17
      · rw [if_pos e] at f23; exact Or.inl f23
      · rw [if_neg e] at f23
        rcases (h4 q (r e)).2.2.2.2.2.2 with z | z
        · exact Or.inl (f23.trans z)
        · refine Or.inr ?_
          unfold Ar ca
          refine ⟨?_, ?_⟩
          · exact (f23.trans z.1).trans (by unfold ca; rw [show gA (wi (wA (wA (wA (wL (wA (wA S 18 (cn S 17) (nI f)) 19 (cn S 17) (nI t)) 20 (cn S 17) w) 21 (cn S 17) (nI d)) 22 (cn S 17) (gi S 1)) 23 (cn S 17) (-1)) 17 (nI (cn S 17 + 1))) 23 q = gA S 23 q from f23])
          · rw [show gA (wi (wA (wA (wA (wL (wA (wA S 18 (cn S 17) (nI f)) 19 (cn S 17) (nI t)) 20 (cn S 17) w) 21 (cn S 17) (nI d)) 22 (cn S 17) (gi S 1)) 23 (cn S 17) (-1)) 17 (nI (cn S 17 + 1))) 23 q = gA S 23 q from f23]; exact z.2
  · obtain ⟨b1, b2, b3, b4, b5, b6, b7, b8, b9, b10, b11⟩ := h7 p hp
    refine ⟨b1, b2, b3, b4, b5, b6, b7, b8, b9, b10, fun hs => ?_⟩
    have := b11 hs
    exact ⟨this.1, Nat.lt_of_lt_of_le this.2 (by rw [e1]; omega)⟩
