theorem INV_d45 {S : Ms} (h : INV S) {j : Nat} : INV (wA S 45 j (gi S 1)) := by
  obtain ⟨h1, h2, h3, h4, h5, h6, h7, h8, h9, h10, h11, h12⟩ := h
  refine ⟨h1, h2, h3, h4, h5, h6, fun p hp => ?_, h8, h9, h10, h11, h12⟩
  obtain ⟨b1, b2, b3, b4, b5, b6, b7, b8, b9, b10, b11⟩ := h7 p hp
  have g45 : gA (wA S 45 j (gi S 1)) 45 p = if p = j then gi S 1 else gA S 45 p := gA_p
  have hb := h1.1.2
  refine ⟨b1, b2, b3, b4, b5, b6, b7, b8, b9, ?_, b11⟩
  by_cases e : p = j
  · exact Or.inr (Ar_v (n := cn S 1) (by rw [g45, if_pos e]; exact h1.1.1) (Nat.le_refl _) (by show cn S 1 < _; omega))
  · rcases b10 with z | z
    · exact Or.inl (by rw [g45, if_neg e]; exact z)
    · exact Or.inr (Ar_e (S := S) (by rw [g45, if_neg e]) z)
theorem refA_e {S S1 : Ms} (h : eqF S S1) (h1 : gi S1 1 = gi S 1) (h2 : gi S1 2 = gi S 2) (a3 : gA S1 3 = gA S 3) (a4 : gA S1 4 = gA S 4) (a10 : gA S1 10 = gA S 10) (a11 : gA S1 11 = gA S 11) (a12 : gA S1 12 = gA S 12) (a13 : gA S1 13 = gA S 13) (a14 : gA S1 14 = gA S 14) (a16 : gA S1 16 = gA S 16) : refA S1 = refA S := by
  have e1 : thA S1 = thA S := by
    funext f d k
    unfold thA enA
    rw [a4, a14, a16]
  have e2 : whA S1 = whA S := by
    funext f d k
    unfold whA whI ca
    rw [a10, a11, a12, a13]
  have e3 : ∀ f t w d n, refL S1 f t w d n = refL S f t w d n := by
    intro f t w d n
    induction n with
    | zero => rfl
    | succ n ih => rw [refL, refL, ih, formA_eq h, h1, a3, e1, e2]
  funext f t w d
  unfold refA cn
  rw [e3, h1, h2, a3, e2]
theorem refA_45 {S : Ms} {j : Nat} {v : Int32} : refA (wA (wi S 0 0) 45 j v) = refA S :=
  refA_e ⟨rfl, rfl, rfl, rfl, ⟨rfl, rfl, rfl, rfl, rfl⟩, ⟨rfl, rfl, rfl, rfl, rfl, rfl⟩, rfl, rfl, rfl, rfl⟩ rfl rfl rfl rfl rfl rfl rfl rfl rfl rfl
