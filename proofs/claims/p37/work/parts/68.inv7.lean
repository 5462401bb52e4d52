theorem Ar_0 {S : Ms} {k i b : Nat} (h : gA S k i = 0) : Ar S k i b := by
  unfold Ar ca
  rw [h]
  exact ⟨rfl, Nat.zero_le _⟩
theorem INV_petition {S : Ms} (h : INV S) {f t d : Nat} {w : Int64} (hf : f < cn S 2) (ht : t ≤ 3) (hw : Wd8 w) (hd : d ≤ 9999) (hn : cn S 36 < 16) :
    INV (wi (wA (wA (wL (wA (wA S 37 (cn S 36) (nI f)) 38 (cn S 36) (nI t)) 39 (cn S 36) w) 40 (cn S 36) (nI d)) 45 (cn S 36) (-1)) 36 (nI (cn S 36 + 1))) := by
  obtain ⟨⟨a1, a2, a3, a4, a5, a6, a7, a8, a9⟩, h2, h3, h4, h5, h6, h7, h8, h9, h10, h11, h12⟩ := h
  have hb2 := a2.2
  obtain ⟨e1, e2⟩ := cn_w (S := wA (wA (wL (wA (wA S 37 (cn S 36) (nI f)) 38 (cn S 36) (nI t)) 39 (cn S 36) w) 40 (cn S 36) (nI d)) 45 (cn S 36) (-1)) (k := 36) (n := cn S 36 + 1) (by omega)
  refine ⟨⟨a1, a2, a3, a4, a5, ⟨by rw [e1]; exact e2, by rw [e1]; omega⟩, a7, a8, a9⟩, h2, h3, h4, h5, h6, fun q hq => ?_, fun q hq hq2 => ?_, h9, h10, h11, h12⟩
  · rw [e1] at hq
    have r : q ≠ cn S 36 → q < cn S 36 := fun z => by omega
    have z8 := h8 (cn S 36) (Nat.le_refl _) hn
    have f37 : ∀ i, ca (wA S 37 (cn S 36) (nI f)) 37 i = if i = cn S 36 then f else ca S 37 i := fun i => ca_w (k := 37) (j := cn S 36) (by omega)
    have k37 : Ar (wA S 37 (cn S 36) (nI f)) 37 q 23 := Ar_w (k := 37) (j := cn S 36) (n := f) (b := 23) (by omega) (by decide) (fun z => (h7 q (r z)).1)
    have k38 : Ar (wA (wA S 37 (cn S 36) (nI f)) 38 (cn S 36) (nI t)) 38 q 3 := Ar_w (S := wA S 37 (cn S 36) (nI f)) (k := 38) (j := cn S 36) ht (by decide) (fun z => (h7 q (r z)).2.2.1)
    have k40 : Ar (wA (wL (wA (wA S 37 (cn S 36) (nI f)) 38 (cn S 36) (nI t)) 39 (cn S 36) w) 40 (cn S 36) (nI d)) 40 q 9999 := Ar_w (S := wL (wA (wA S 37 (cn S 36) (nI f)) 38 (cn S 36) (nI t)) 39 (cn S 36) w) (k := 40) (j := cn S 36) hd (by decide) (fun z => (h7 q (r z)).2.2.2.2.1)
    have k39 : Wd8 (gL (wL (wA (wA S 37 (cn S 36) (nI f)) 38 (cn S 36) (nI t)) 39 (cn S 36) w) 39 q) := by
      rw [gL_w]
      by_cases e : q = cn S 36
      · rw [if_pos e]; exact hw
      · rw [if_neg e]; exact (h7 q (r e)).2.2.2.1
    have k37b : ca (wA S 37 (cn S 36) (nI f)) 37 q < cn S 2 := by
      rw [f37]
      by_cases e : q = cn S 36
      · rw [if_pos e]; exact hf
      · rw [if_neg e]; exact (h7 q (r e)).2.1
    have f45 : gA (wA (wA (wL (wA (wA S 37 (cn S 36) (nI f)) 38 (cn S 36) (nI t)) 39 (cn S 36) w) 40 (cn S 36) (nI d)) 45 (cn S 36) (-1)) 45 q = if q = cn S 36 then -1 else gA S 45 q := by
      rw [gA_wA, if_pos rfl]; rfl
    by_cases e : q = cn S 36
    · rw [if_pos e] at f45
      refine ⟨k37, k37b, k38, k39, k40, ?_, ?_, ?_, ?_, Or.inl f45, fun hs => ?_⟩
      · exact (Ar_0 (S := S) (by rw [e]; exact z8.1) : Ar S 41 q 3)
      · exact (Ar_0 (S := S) (by rw [e]; exact z8.2.1) : Ar S 42 q 511)
      · exact (Ar_0 (S := S) (by rw [e]; exact z8.2.2.1) : Ar S 43 q 511)
      · exact (Ar_0 (S := S) (by rw [e]; exact z8.2.2.2) : Ar S 44 q 255)
      · exfalso
        have h0 : ca S 41 q = 0 := by unfold ca; rw [e, z8.1]; rfl
        have hs' : ca S 41 q = 1 ∨ ca S 41 q = 3 := hs
        omega
    · rw [if_neg e] at f45
      obtain ⟨b1, b2, b3, b4, b5, b6, b7, b8, b9, b10, b11⟩ := h7 q (r e)
      refine ⟨k37, k37b, k38, k39, k40, b6, b7, b8, b9, ?_, b11⟩
      rcases b10 with z | z
      · exact Or.inl (f45.trans z)
      · exact Or.inr (Ar_n (S := S) (S' := wi S 0 0) rfl z |> fun y => by
          unfold Ar ca at z ⊢
          have g45 : gA (wi (wA (wA (wL (wA (wA S 37 (cn S 36) (nI f)) 38 (cn S 36) (nI t)) 39 (cn S 36) w) 40 (cn S 36) (nI d)) 45 (cn S 36) (-1)) 36 (nI (cn S 36 + 1))) 45 q = gA S 45 q := f45
          rw [g45]; exact z)
  · rw [e1] at hq
    exact h8 q (by omega) hq2
