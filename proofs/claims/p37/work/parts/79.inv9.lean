theorem gA_p {S : Ms} {k j i : Nat} {v : Int32} : gA (wA S k j v) k i = if i = j then v else gA S k i := by
  rw [gA_wA, if_pos rfl]; rfl
theorem Ar_e {S S' : Ms} {k i b : Nat} (h : gA S' k i = gA S k i) (z : Ar S k i b) : Ar S' k i b := by
  unfold Ar ca at z ⊢; rw [h]; exact z
theorem Ar_v {S : Ms} {k i b n : Nat} (h : gA S k i = nI n) (hn : n ≤ b) (hb : b < 2 ^ 31) : Ar S k i b := by
  unfold Ar ca; rw [h, nI_clamp (by omega)]; exact ⟨rfl, hn⟩
theorem ca_v {S : Ms} {k i n : Nat} (h : gA S k i = nI n) (hn : n < 2 ^ 31) : ca S k i = n := by unfold ca; rw [h, nI_clamp hn]
theorem ca_e {S S' : Ms} {k i : Nat} (h : gA S' k i = gA S k i) : ca S' k i = ca S k i := by unfold ca; rw [h]
theorem INV_part {S : Ms} (h : INV S) {f d : Nat} {w : Int32} (hf : f < cn S 2) (hc : ca S 10 f < 40) (hw : w = -1 ∨ ∃ n, n ≤ 23 ∧ w = nI n) (hd : d ≤ 9999) :
    INV (wA (wA (wA (wA S 11 (40 * f + ca S 10 f) w) 12 (40 * f + ca S 10 f) (nI d)) 13 (40 * f + ca S 10 f) (gi S 1)) 10 f (gA S 10 f + 1)) := by
  obtain ⟨h1, h2, h3, h4, h5, h6, h7, h8, h9, h10, h11, h12⟩ := h
  have hb1 := h1.1.2
  have e10 : gA S 10 f + 1 = nI (ca S 10 f + 1) := by rw [(h2 f hf).2.2.2.2.1.1, nI_s]
  rw [e10]
  obtain ⟨c, hcc⟩ : ∃ c, c = ca S 10 f := ⟨_, rfl⟩
  rw [← hcc] at hc ⊢
  refine ⟨h1, fun g hg => ?_, fun g hg hg2 => ?_, h4, h5, h6, h7, h8, h9, h10, h11, h12⟩
  · obtain ⟨a1, a2, a3, a4, a5, a6, a7, a8, a9, a10, a11, a12⟩ := h2 g hg
    have g10 : gA (wA (wA (wA (wA S 11 (40 * f + c) w) 12 (40 * f + c) (nI d)) 13 (40 * f + c) (gi S 1)) 10 f (nI (c + 1))) 10 g = if g = f then nI (c + 1) else gA S 10 g := gA_p
    have g11 : ∀ i, gA (wA (wA (wA (wA S 11 (40 * f + c) w) 12 (40 * f + c) (nI d)) 13 (40 * f + c) (gi S 1)) 10 f (nI (c + 1))) 11 i = if i = 40 * f + c then w else gA S 11 i := fun i => gA_p (S := S) (k := 11)
    have g12 : ∀ i, gA (wA (wA (wA (wA S 11 (40 * f + c) w) 12 (40 * f + c) (nI d)) 13 (40 * f + c) (gi S 1)) 10 f (nI (c + 1))) 12 i = if i = 40 * f + c then nI d else gA S 12 i := fun i => gA_p (S := wA S 11 (40 * f + c) w) (k := 12)
    have g13 : ∀ i, gA (wA (wA (wA (wA S 11 (40 * f + c) w) 12 (40 * f + c) (nI d)) 13 (40 * f + c) (gi S 1)) 10 f (nI (c + 1))) 13 i = if i = 40 * f + c then gi S 1 else gA S 13 i := fun i => gA_p (S := wA (wA S 11 (40 * f + c) w) 12 (40 * f + c) (nI d)) (k := 13)
    refine ⟨a1, a2, a3, a4, ?_, a6, a7, fun i hi => ?_, a9, a10, a11, a12⟩
    · by_cases e : g = f
      · exact Ar_v (n := c + 1) (by rw [g10, if_pos e]) (by omega) (by decide)
      · exact Ar_e (by rw [g10, if_neg e]) a5
    · by_cases e2 : 40 * g + i = 40 * f + c
      · have x11 := g11 (40 * g + i)
        rw [if_pos e2] at x11
        refine ⟨?_, Ar_v (n := d) (by rw [g12, if_pos e2]) hd (by decide), Ar_v (n := cn S 1) (by rw [g13, if_pos e2]; exact h1.1.1) (Nat.le_refl _) (by show cn S 1 < _; omega)⟩
        rcases hw with z | ⟨n, q1, q2⟩
        · exact Or.inl (x11.trans z)
        · exact Or.inr (Ar_v (x11.trans q2) q1 (by decide))
      · have hi2 : i < ca S 10 g := by
          by_cases e : g = f
          · subst e
            rw [ca_v (by rw [g10, if_pos rfl]) (by omega)] at hi
            omega
          · rw [ca_e (S := S) (by rw [g10, if_neg e])] at hi; exact hi
        obtain ⟨q1, q2, q3⟩ := a8 i hi2
        refine ⟨?_, Ar_e (by rw [g12, if_neg e2]) q2, Ar_e (by rw [g13, if_neg e2]) q3⟩
        rcases q1 with z | z
        · exact Or.inl (by rw [g11, if_neg e2]; exact z)
        · exact Or.inr (Ar_e (by rw [g11, if_neg e2]) z)
  · obtain ⟨a1, a2, a3⟩ := h3 g hg hg2
    have hg' : cn S 2 ≤ g := hg
    exact ⟨a1, (gA_w0 (S := wA (wA (wA S 11 (40 * f + c) w) 12 (40 * f + c) (nI d)) 13 (40 * f + c) (gi S 1)) (k := 10) (j := f) (v := nI (c + 1)) (by omega)).trans a2, a3⟩
theorem INV_sPla {S : Ms} (h : INV S) {f x y d : Nat} (hf : f < cn S 2) (hc : ca S 5 f < 40) (hx : x ≤ 99) (hy : y ≤ 99) (hd : d ≤ 9999) : INV (sPla S f (nI x) (nI y) (nI d)) := by
  obtain ⟨h1, h2, h3, h4, h5, h6, h7, h8, h9, h10, h11, h12⟩ := h
  have hb1 := h1.1.2
  have hc0 := (h2 f hf).2.2.2.1
  unfold sPla
  have e10 : gA S 5 f + 1 = nI (ca S 5 f + 1) := by rw [(h2 f hf).2.2.1.1, nI_s]
  rw [e10]
  obtain ⟨c, hcc⟩ : ∃ c, c = ca S 5 f := ⟨_, rfl⟩
  rw [← hcc] at hc hc0 ⊢
  refine ⟨h1, fun g hg => ?_, fun g hg hg2 => ?_, h4, h5, h6, h7, h8, h9, h10, h11, h12⟩
  · obtain ⟨a1, a2, a3, a4, a5, a6, a7, a8, a9, a10, a11, a12⟩ := h2 g hg
    have g5 : gA (wA (wA (wA (wA (wA S 6 (40 * f + c) (nI x)) 7 (40 * f + c) (nI y)) 8 (40 * f + c) (nI d)) 9 (40 * f + c) (gi S 1)) 5 f (nI (c + 1))) 5 g = if g = f then nI (c + 1) else gA S 5 g := gA_p
    have g6 : ∀ i, gA (wA (wA (wA (wA (wA S 6 (40 * f + c) (nI x)) 7 (40 * f + c) (nI y)) 8 (40 * f + c) (nI d)) 9 (40 * f + c) (gi S 1)) 5 f (nI (c + 1))) 6 i = if i = 40 * f + c then nI x else gA S 6 i := fun i => gA_p (S := S) (k := 6)
    have g7 : ∀ i, gA (wA (wA (wA (wA (wA S 6 (40 * f + c) (nI x)) 7 (40 * f + c) (nI y)) 8 (40 * f + c) (nI d)) 9 (40 * f + c) (gi S 1)) 5 f (nI (c + 1))) 7 i = if i = 40 * f + c then nI y else gA S 7 i := fun i => gA_p (S := wA S 6 (40 * f + c) (nI x)) (k := 7)
    have g8 : ∀ i, gA (wA (wA (wA (wA (wA S 6 (40 * f + c) (nI x)) 7 (40 * f + c) (nI y)) 8 (40 * f + c) (nI d)) 9 (40 * f + c) (gi S 1)) 5 f (nI (c + 1))) 8 i = if i = 40 * f + c then nI d else gA S 8 i := fun i => gA_p (S := wA (wA S 6 (40 * f + c) (nI x)) 7 (40 * f + c) (nI y)) (k := 8)
    have g9 : ∀ i, gA (wA (wA (wA (wA (wA S 6 (40 * f + c) (nI x)) 7 (40 * f + c) (nI y)) 8 (40 * f + c) (nI d)) 9 (40 * f + c) (gi S 1)) 5 f (nI (c + 1))) 9 i = if i = 40 * f + c then gi S 1 else gA S 9 i := fun i => gA_p (S := wA (wA (wA S 6 (40 * f + c) (nI x)) 7 (40 * f + c) (nI y)) 8 (40 * f + c) (nI d)) (k := 9)
    refine ⟨a1, a2, ?_, ?_, a5, fun i hi => ?_, ?_, a8, a9, a10, a11, a12⟩
    · by_cases e : g = f
      · exact Ar_v (n := c + 1) (by rw [g5, if_pos e]) (by omega) (by decide)
      · exact Ar_e (by rw [g5, if_neg e]) a3
    · by_cases e : g = f
      · exact Nat.lt_of_lt_of_eq (Nat.succ_pos c) (ca_v (n := c + 1) (by rw [g5, if_pos e]) (by omega)).symm
      · exact Nat.lt_of_lt_of_eq a4 (ca_e (S := S) (by rw [g5, if_neg e])).symm
    · by_cases e2 : 40 * g + i = 40 * f + c
      · exact ⟨Ar_v (n := x) (by rw [g6, if_pos e2]) hx (by decide), Ar_v (n := y) (by rw [g7, if_pos e2]) hy (by decide), Ar_v (n := d) (by rw [g8, if_pos e2]) hd (by decide), Ar_v (n := cn S 1) (by rw [g9, if_pos e2]; exact h1.1.1) (Nat.le_refl _) (by show cn S 1 < _; omega)⟩
      · have hi2 : i < ca S 5 g := by
          by_cases e : g = f
          · subst e
            rw [ca_v (by rw [g5, if_pos rfl]) (by omega)] at hi
            omega
          · rw [ca_e (S := S) (by rw [g5, if_neg e])] at hi; exact hi
        obtain ⟨q1, q2, q3, q4⟩ := a6 i hi2
        exact ⟨Ar_e (by rw [g6, if_neg e2]) q1, Ar_e (by rw [g7, if_neg e2]) q2, Ar_e (by rw [g8, if_neg e2]) q3, Ar_e (by rw [g9, if_neg e2]) q4⟩
    · exact Nat.le_trans (Nat.le_of_eq (ca_e (S := S) (by rw [g8, if_neg (by omega)]))) a7
  · obtain ⟨a1, a2⟩ := h3 g hg hg2
    have hg' : cn S 2 ≤ g := hg
    exact ⟨(gA_w0 (S := wA (wA (wA (wA S 6 (40 * f + c) (nI x)) 7 (40 * f + c) (nI y)) 8 (40 * f + c) (nI d)) 9 (40 * f + c) (gi S 1)) (k := 5) (j := f) (v := nI (c + 1)) (by omega)).trans a1, a2⟩
