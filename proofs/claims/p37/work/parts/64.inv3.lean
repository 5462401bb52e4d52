theorem cn_w {S : Ms} {k n : Nat} (hn : n < 2 ^ 31) : cn (wi S k (nI n)) k = n ∧ gi (wi S k (nI n)) k = nI n := by
  have e : gi (wi S k (nI n)) k = nI n := by rw [gi_wi, if_pos rfl]
  exact ⟨by unfold cn; rw [e, nI_clamp hn], e⟩
theorem INV_order {S : Ms} (h : INV S) {j : Nat} (hj : j < cn S 2) (hn : cn S 58 < 24) (hw : ∀ i, i < cn S 58 → ca S 57 i ≠ j) : INV (wi (wA S 57 (cn S 58) (nI j)) 58 (nI (cn S 58 + 1))) := by
  obtain ⟨⟨a1, a2, a3, a4, a5, a6, a7, a8, a9⟩, h2, h3, h4, h5, h6, h7, h8, h9, h10, h11, h12⟩ := h
  have hj24 := a2.2
  obtain ⟨e1, e2⟩ := cn_w (S := wA S 57 (cn S 58) (nI j)) (k := 58) (n := cn S 58 + 1) (by omega)
  have e3 : ∀ i, ca (wi (wA S 57 (cn S 58) (nI j)) 58 (nI (cn S 58 + 1))) 57 i = if i = cn S 58 then j else ca S 57 i := fun i => ca_w (S := S) (k := 57) (j := cn S 58) (by omega)
  refine ⟨⟨a1, a2, a3, a4, a5, a6, a7, ⟨by rw [e1]; exact e2, by rw [e1]; omega⟩, a9⟩, h2, h3, h4, h5, h6, h7, h8, h9, h10, h11, fun i hi => ?_, fun i i2 hi hi2 => ?_⟩
  · rw [e1] at hi
    refine ⟨(Ar_w (S := S) (k := 57) (j := cn S 58) (n := j) (b := 23) (i := i) (by omega) (by decide) (fun hne => (h12.1 i (by omega)).1) : Ar (wA S 57 (cn S 58) (nI j)) 57 i 23), ?_⟩
    rw [e3]
    by_cases e : i = cn S 58
    · rw [if_pos e]; exact hj
    · rw [if_neg e]; exact (h12.1 i (by omega)).2
  · rw [e1] at hi2
    rw [e3, e3, if_neg (show i ≠ cn S 58 by omega)]
    by_cases e : i2 = cn S 58
    · rw [if_pos e]; exact hw i (by omega)
    · rw [if_neg e]; exact h12.2 i i2 hi (by omega)
theorem gL_w {S : Ms} {k j i : Nat} {v : Int64} : gL (wL S k j v) k i = if i = j then v else gL S k i := by
  rw [gL_wL, if_pos rfl]; rfl
theorem INV_reading {S : Ms} (h : INV S) {w : Int64} {x y : Nat} (hw : Wd8 w) (hx : x ≤ 99) (hy : y ≤ 99) (hn : cn S 51 < 4) : INV (wi (wA (wA (wL S 52 (cn S 51) w) 53 (cn S 51) (nI x)) 54 (cn S 51) (nI y)) 51 (nI (cn S 51 + 1))) := by
  obtain ⟨⟨a1, a2, a3, a4, a5, a6, a7, a8, a9⟩, h2, h3, h4, h5, h6, h7, h8, h9, h10, h11, h12⟩ := h
  obtain ⟨e1, e2⟩ := cn_w (S := wA (wA (wL S 52 (cn S 51) w) 53 (cn S 51) (nI x)) 54 (cn S 51) (nI y)) (k := 51) (n := cn S 51 + 1) (by omega)
  refine ⟨⟨a1, a2, a3, a4, a5, a6, ⟨by rw [e1]; exact e2, by rw [e1]; omega⟩, a8, a9⟩, h2, h3, h4, h5, h6, h7, h8, h9, fun r hr => ?_, h11, h12⟩
  rw [e1] at hr
  refine ⟨?_, (Ar_w (S := wL S 52 (cn S 51) w) (k := 53) (j := cn S 51) (n := x) (b := 99) (i := r) hx (by decide) (fun hne => (h10 r (by omega)).2.1) : Ar (wA (wL S 52 (cn S 51) w) 53 (cn S 51) (nI x)) 53 r 99), (Ar_w (S := wA (wL S 52 (cn S 51) w) 53 (cn S 51) (nI x)) (k := 54) (j := cn S 51) (n := y) (b := 99) (i := r) hy (by decide) (fun hne => (h10 r (by omega)).2.2) : Ar (wA (wA (wL S 52 (cn S 51) w) 53 (cn S 51) (nI x)) 54 (cn S 51) (nI y)) 54 r 99)⟩
  show Wd8 (gL (wL S 52 (cn S 51) w) 52 r)
  rw [gL_w]
  by_cases e : r = cn S 51
  · rw [if_pos e]; exact hw
  · rw [if_neg e]; exact (h10 r (by omega)).1
