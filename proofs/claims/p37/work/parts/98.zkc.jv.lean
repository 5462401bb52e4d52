/-! ===== what else always holds: signs are words, the first place, wholes are older, petitions go together (by hand) ===== -/
def JW (w : Int64) : Prop := ∃ r, LW 12 r ∧ w = lN (lv r)
def JP (S : Ms) (p : Nat) : Prop := pop (ca S 42 p) + pop (ca S 43 p) = pop (ca S 42 p ||| ca S 43 p) ∧ ((ca S 41 p = 0 ∧ gA S 45 p = -1) ∨ (0 < ca S 41 p ∧ Ar S 45 p (cn S 1) ∧ 5 ≤ pop (ca S 42 p ||| ca S 43 p) ∧ ca S 44 p = 0 ∧ (ca S 41 p ≠ 2 → pop (ca S 43 p) < pop (ca S 42 p))))
def JV (S : Ms) : Prop := (∀ f, f < cn S 2 → JW (gL S 56 f)) ∧ (∀ f, f < cn S 2 → ca S 8 (40 * f) ≤ ca S 4 f ∧ ca S 9 (40 * f) ≤ ca S 4 f) ∧ (∀ f, f < cn S 2 → ∀ i, i < ca S 10 f → gA S 11 (40 * f + i) = -1 ∨ ca S 11 (40 * f + i) < f) ∧ ∀ p, p < cn S 36 → JP S p
theorem JW_0 : JW 0 := ⟨[], ⟨by decide, fun x hx => nomatch hx⟩, by decide⟩
theorem JV_S0 : JV (S0n 108) := by
  refine ⟨fun f hf => ?_, fun f hf => ?_, fun f hf => ?_, fun p hp => ?_⟩
  · rw [S0_c 2 (by decide)] at hf; omega
  · rw [S0_c 2 (by decide)] at hf; omega
  · rw [S0_c 2 (by decide)] at hf; omega
  · rw [S0_c 36 (by decide)] at hp; omega
theorem formA_w {S : Ms} (h : OkF S) (f t d k : Int32) : JW (formA S f t d k) := by
  obtain ⟨⟨h1, h2, h3⟩, hL, hE⟩ := h
  unfold formA
  rcases hn : nmA S f t d k with _ | n
  · exact JW_0
  · have hb := (bst_mem hn).1
    exact ⟨_, (prc_LW hL ((h3 n hb).1.rev) 120000).rev, rfl⟩
theorem snL_w {S : Ms} (h : OkF S) {f : Nat} {x : Int64} (hx : JW x) : ∀ k, JW (snL S f x k)
  | 0 => hx
  | k + 1 => by
    rw [snL]
    split
    · exact formA_w h _ _ _ _
    · exact snL_w h hx k
theorem sneA_w {S : Ms} (h : OkF S) (f : Nat) (t : Int32) : JW (sneA S f t) := by
  unfold sneA
  split
  · exact snL_w h (formA_w h _ _ _ _) 4
  · exact formA_w h _ _ _ _
theorem J_Move {S : Ms} (h : INV S) (J : JV S) {f x y d : Int32} (hc : cMove S f x y d = 0) : JV (sMove S f x y d) := by
  unfold cMove at hc
  split at hc
  · exact absurd hc (by decide)
  rename_i q1
  split at hc
  · exact absurd hc (by decide)
  split at hc
  · exact absurd hc (by decide)
  rename_i q3
  obtain ⟨j, hj, rfl⟩ := isF_ex h (nt q1)
  have hcl : (nI j).toNatClampNeg = j := nI_clamp (by have := h.1.2.1.2; omega)
  rw [hcl] at q3
  obtain ⟨-, -, a5, a50, -⟩ := h.2.1 j hj
  have h40 := cnt_lt' (N := 40) a5.1 a5.2 q3
  unfold sMove
  rw [hcl]
  obtain ⟨j1, j2, j3, j4⟩ := J
  refine ⟨j1, fun f hf => ?_, j3, j4⟩
  have g8 : ∀ i, gA (sPla (wi S 0 0) j x y d) 8 i = if i = 40 * j + ca S 5 j then d else gA S 8 i := fun i => gA_p (S := wA (wA (wi S 0 0) 6 (40 * j + ca S 5 j) x) 7 (40 * j + ca S 5 j) y) (k := 8)
  have g9 : ∀ i, gA (sPla (wi S 0 0) j x y d) 9 i = if i = 40 * j + ca S 5 j then gi S 1 else gA S 9 i := fun i => gA_p (S := wA (wA (wA (wi S 0 0) 6 (40 * j + ca S 5 j) x) 7 (40 * j + ca S 5 j) y) 8 (40 * j + ca S 5 j) d) (k := 9)
  rw [show ca (sPla (wi S 0 0) j x y d) 8 (40 * f) = ca S 8 (40 * f) from ca_e (by rw [g8, if_neg (by omega)]), show ca (sPla (wi S 0 0) j x y d) 9 (40 * f) = ca S 9 (40 * f) from ca_e (by rw [g9, if_neg (by omega)])]
  exact j2 f hf
theorem J_Part {S : Ms} (h : INV S) (J : JV S) {f w d : Int32} (hc : cPart S f w d = 0) : JV (sPart S f w d) := by
  unfold cPart at hc
  split at hc
  · exact absurd hc (by decide)
  rename_i q1
  split at hc
  · exact absurd hc (by decide)
  rename_i q2
  split at hc
  · exact absurd hc (by decide)
  rename_i q3
  have q1 := nt q1
  rw [Bool.and_eq_true] at q1
  obtain ⟨j, hj, rfl⟩ := isF_ex h q1.1
  have hj24 := h.1.2.1.2
  have hcl : (nI j).toNatClampNeg = j := nI_clamp (by omega)
  rw [hcl] at q3
  obtain ⟨-, -, -, -, a10, -⟩ := h.2.1 j hj
  have h40 := cnt_lt' (N := 40) a10.1 a10.2 q3
  have hw : w = -1 ∨ ∃ n, n < j ∧ w = nI n := by
    rcases Bool.or_eq_true _ _ |>.mp q1.2 with z | z
    · exact Or.inl (of_decide_eq_true z)
    · obtain ⟨n, hn, rfl⟩ := isF_ex h z
      refine Or.inr ⟨n, ?_, rfl⟩
      have q4 := (Bool.or_eq_false_iff.mp (Bool.not_eq_true _ ▸ q2)).1
      have q5 := of_decide_eq_false q4
      rw [nI_leI (by omega) (by omega)] at q5
      omega
  unfold sPart
  rw [hcl]
  obtain ⟨j1, j2, j3, j4⟩ := J
  obtain ⟨c, hcc⟩ : ∃ c, c = ca S 10 j := ⟨_, rfl⟩
  have e10 : gA S 10 j + 1 = nI (c + 1) := by rw [a10.1, nI_s, hcc]
  rw [← hcc, e10]
  rw [← hcc] at h40
  refine ⟨j1, j2, fun f hf i hi => ?_, j4⟩
  have g10 : gA (wA (wA (wA (wA (wi S 0 0) 11 (40 * j + c) w) 12 (40 * j + c) d) 13 (40 * j + c) (gi S 1)) 10 j (nI (c + 1))) 10 f = if f = j then nI (c + 1) else gA S 10 f := gA_p
  have g11 : ∀ i, gA (wA (wA (wA (wA (wi S 0 0) 11 (40 * j + c) w) 12 (40 * j + c) d) 13 (40 * j + c) (gi S 1)) 10 j (nI (c + 1))) 11 i = if i = 40 * j + c then w else gA S 11 i := fun i => gA_p (S := wi S 0 0) (k := 11)
  by_cases e2 : 40 * f + i = 40 * j + c
  · have hi40 : i < 41 := by
      by_cases e : f = j
      · subst e
        rw [ca_v (by rw [g10, if_pos rfl]) (by omega)] at hi; omega
      · rw [ca_e (S := S) (by rw [g10, if_neg e])] at hi
        have := (h.2.1 f hf).2.2.2.2.1.2; omega
    have x11 := g11 (40 * f + i)
    rw [if_pos e2] at x11
    rcases hw with z | ⟨n, q4, q5⟩
    · exact Or.inl (x11.trans z)
    · refine Or.inr (Nat.lt_of_le_of_lt (Nat.le_of_eq (ca_v (x11.trans q5) (by omega))) ?_)
      by_cases e : f = j
      · omega
      · rw [ca_e (S := S) (by rw [g10, if_neg e])] at hi
        have := (h.2.1 f hf).2.2.2.2.1.2; omega
  · have hi2 : i < ca S 10 f := by
      by_cases e : f = j
      · subst e
        rw [ca_v (by rw [g10, if_pos rfl]) (by omega)] at hi
        omega
      · rw [ca_e (S := S) (by rw [g10, if_neg e])] at hi; exact hi
    rcases j3 f hf i hi2 with z | z
    · exact Or.inl (by rw [g11, if_neg e2]; exact z)
    · exact Or.inr (Nat.lt_of_le_of_lt (Nat.le_of_eq (ca_e (S := S) (by rw [g11, if_neg e2]))) z)
theorem pop_b : ∀ x, x < 512 → ∀ n, n < 9 → nI x >>> (nI n &&& 31) &&& 1 = 0 → pop (x ||| 2 ^ n) = pop x + 1 := by decide +kernel
theorem bit_f : ∀ x, x < 512 → ∀ n, n < 9 → (nI x >>> (nI n &&& 31) &&& 1 = 0 ↔ x.testBit n = false) := by decide +kernel
theorem or_w : ∀ u, u < 512 → ∀ n, n < 9 → nI u ||| 1 <<< (nI n &&& 31) = nI (u ||| 2 ^ n) := by decide +kernel
theorem J_Vote {S : Ms} (h : INV S) (J : JV S) {p c b : Int32} (hc : cVote S p c b = 0) : JV (sVote S p c b) := by
  unfold cVote at hc
  split at hc
  · exact absurd hc (by decide)
  rename_i q1
  split at hc
  rotate_left
  · exact absurd hc (by decide)
  rename_i q2
  have q1 := nt q1
  rw [Bool.and_eq_true] at q1
  obtain ⟨j, hj, rfl⟩ := isP_ex h q1.1
  obtain ⟨n, hn, rfl⟩ := in_ex (b := 8) (by decide) q1.2
  have hcl : (nI j).toNatClampNeg = j := nI_clamp (by have := h.c36; omega)
  rw [hcl] at q2
  obtain ⟨-, -, -, -, -, p41, p42, p43, -⟩ := h.2.2.2.2.2.2.1 j hj
  obtain ⟨j1, j2, j3, j4⟩ := J
  have hu : ca S 42 j < 512 := by have := p42.2; omega
  have hv : ca S 43 j < 512 := by have := p43.2; omega
  have huv : ca S 42 j ||| ca S 43 j < 512 := Nat.or_lt_two_pow (n := 9) hu hv
  have q3 := q2.2
  rw [p42.1, p43.1, nI_or] at q3
  have t3 := (bit_f _ huv n (by omega)).mp q3
  rw [Nat.testBit_or] at t3
  obtain ⟨tu, tv⟩ := Bool.or_eq_false_iff.mp t3
  have su := (bit_f _ hu n (by omega)).mpr tu
  have sv := (bit_f _ hv n (by omega)).mpr tv
  have z41 : ca S 41 j = 0 := by unfold ca; rw [q2.1]; rfl
  have eu := or_w _ hu n (by omega)
  have ev := or_w _ hv n (by omega)
  obtain ⟨k1, k2⟩ := j4 j hj
  have k45 : gA S 45 j = -1 := by
    rcases k2 with z | z
    · exact z.2
    · omega
  unfold sVote
  rw [hcl]
  split
  · refine ⟨j1, j2, j3, fun p hp => ?_⟩
    by_cases e : p = j
    · subst e
      have g43 : ca (wA (wi S 0 0) 43 p (gA S 43 p ||| 1 <<< (nI n &&& 31))) 43 p = ca S 43 p ||| 2 ^ n := by
        rw [p43.1, ev]
        have hb : ca S 43 p ||| 2 ^ n < 512 := Nat.or_lt_two_pow (n := 9) hv (Nat.pow_lt_pow_right (by decide) (by omega))
        exact ca_v (by rw [gA_p, if_pos rfl]) (by omega)
      refine ⟨?_, Or.inl ⟨z41, k45⟩⟩
      rw [g43]
      show pop (ca S 42 p) + pop (ca S 43 p ||| 2 ^ n) = pop (ca S 42 p ||| (ca S 43 p ||| 2 ^ n))
      rw [pop_b _ hv n (by omega) sv, ← Nat.or_assoc, pop_b _ huv n (by omega) q3]; omega
    · have e43 : ca (wA (wi S 0 0) 43 j (gA S 43 j ||| 1 <<< (nI n &&& 31))) 43 p = ca S 43 p := ca_e (by rw [gA_p, if_neg e]; rfl)
      have := j4 p hp
      unfold JP at this ⊢
      rw [e43]; exact this
  · refine ⟨j1, j2, j3, fun p hp => ?_⟩
    by_cases e : p = j
    · subst e
      have g42 : ca (wA (wi S 0 0) 42 p (gA S 42 p ||| 1 <<< (nI n &&& 31))) 42 p = ca S 42 p ||| 2 ^ n := by
        rw [p42.1, eu]
        have hb : ca S 42 p ||| 2 ^ n < 512 := Nat.or_lt_two_pow (n := 9) hu (Nat.pow_lt_pow_right (by decide) (by omega))
        exact ca_v (by rw [gA_p, if_pos rfl]) (by omega)
      refine ⟨?_, Or.inl ⟨z41, k45⟩⟩
      rw [g42]
      show pop (ca S 42 p ||| 2 ^ n) + pop (ca S 43 p) = pop (ca S 42 p ||| 2 ^ n ||| ca S 43 p)
      rw [pop_b _ hu n (by omega) su, Nat.or_assoc, Nat.or_comm (2 ^ n), ← Nat.or_assoc, pop_b _ huv n (by omega) q3]; omega
    · have e42 : ca (wA (wi S 0 0) 42 j (gA S 42 j ||| 1 <<< (nI n &&& 31))) 42 p = ca S 42 p := ca_e (by rw [gA_p, if_neg e]; rfl)
      have := j4 p hp
      unfold JP at this ⊢
      rw [e42]; exact this
theorem J_Protest {S : Ms} (h : INV S) (J : JV S) {p c : Int32} (hc : cProtest S p c = 0) : JV (sProtest S p c) := by
  unfold cProtest at hc
  split at hc
  · exact absurd hc (by decide)
  rename_i q1
  split at hc
  rotate_left
  · exact absurd hc (by decide)
  rename_i q2
  have q1 := nt q1
  rw [Bool.and_eq_true] at q1
  obtain ⟨j, hj, rfl⟩ := isP_ex h q1.1
  have hcl : (nI j).toNatClampNeg = j := nI_clamp (by have := h.c36; omega)
  rw [hcl] at q2
  have z41 : ca S 41 j = 0 := by unfold ca; rw [q2]; rfl
  unfold sProtest
  rw [hcl]
  obtain ⟨j1, j2, j3, j4⟩ := J
  refine ⟨j1, j2, j3, fun p hp => ?_⟩
  obtain ⟨k1, k2⟩ := j4 p hp
  refine ⟨k1, ?_⟩
  rcases k2 with z | ⟨z1, z2, z3, z4, z5⟩
  · exact Or.inl z
  · have e : p ≠ j := fun e => by rw [e] at z1; omega
    exact Or.inr ⟨z1, z2, z3, by rw [show ca (wA (wi S 0 0) 44 j (gA S 44 j ^^^ 1 <<< (c &&& 31))) 44 p = ca S 44 p from ca_e (by rw [gA_p, if_neg e]; rfl)]; exact z4, z5⟩
theorem J_Petition {S : Ms} (h : INV S) (J : JV S) {f t : Int32} {w : Int64} {d : Int32} (hc : cPetition S f t w d = 0) : JV (sPetition S f t w d) := by
  unfold cPetition at hc
  split at hc
  · exact absurd hc (by decide)
  split at hc
  · exact absurd hc (by decide)
  split at hc
  · exact absurd hc (by decide)
  rename_i q3
  have hA := h.1.2.2.2.2.2.1
  have hn := cnt_lt' (N := 16) hA.1 hA.2 q3
  obtain ⟨j1, j2, j3, j4⟩ := J
  have c36 : cn (sPetition S f t w d) 36 = cn S 36 + 1 := by
    show (gi S 36 + 1).toNatClampNeg = _
    rw [hA.1, nI_s, nI_clamp (by omega)]
  refine ⟨j1, j2, j3, fun p hp => ?_⟩
  rw [c36] at hp
  have g45 : gA (sPetition S f t w d) 45 p = if p = cn S 36 then -1 else gA S 45 p := gA_p (S := wA (wL (wA (wA (wi S 0 0) 37 (cn S 36) f) 38 (cn S 36) t) 39 (cn S 36) w) 40 (cn S 36) d) (k := 45)
  by_cases e : p = cn S 36
  · obtain ⟨v1, v2, v3, v4⟩ := h.2.2.2.2.2.2.2.1 p (by omega) (by omega)
    have c2 : ca (sPetition S f t w d) 42 p = 0 := by show (gA S 42 p).toNatClampNeg = 0; rw [v2]; rfl
    have c3 : ca (sPetition S f t w d) 43 p = 0 := by show (gA S 43 p).toNatClampNeg = 0; rw [v3]; rfl
    have c1 : ca (sPetition S f t w d) 41 p = 0 := by show (gA S 41 p).toNatClampNeg = 0; rw [v1]; rfl
    refine ⟨?_, Or.inl ⟨c1, by rw [g45, if_pos e]⟩⟩
    rw [c2, c3]; decide
  · obtain ⟨k1, k2⟩ := j4 p (by omega)
    rw [if_neg e] at g45
    refine ⟨k1, ?_⟩
    rcases k2 with z | ⟨z1, z2, z3, z4, z5⟩
    · exact Or.inl ⟨z.1, g45.trans z.2⟩
    · exact Or.inr ⟨z1, Ar_e (S := S) g45 z2, z3, z4, z5⟩
theorem J_Decide {S : Ms} (h : INV S) (J : JV S) {p : Int32} (hc : cDecide S p = 0) : JV (sDecide S p) := by
  unfold cDecide at hc
  split at hc
  · exact absurd hc (by decide)
  rename_i q1
  split at hc
  rotate_left
  · exact absurd hc (by decide)
  rename_i q2
  obtain ⟨j, hj, rfl⟩ := isP_ex h (nt q1)
  have hcl : (nI j).toNatClampNeg = j := nI_clamp (by have := h.c36; omega)
  rw [hcl] at q2
  obtain ⟨p37, p37b, p38, p39, p40, p41, p42, p43, p44, p45, p46⟩ := h.2.2.2.2.2.2.1 j hj
  unfold cnD at q2
  simp only [Bool.and_eq_true, Bool.not_eq_true', decide_eq_true_eq, decide_eq_false_iff_not] at q2
  obtain ⟨u1, u2, u3, u4, u5⟩ := q2
  have huv : ca S 42 j ||| ca S 43 j < 512 := Nat.or_lt_two_pow (n := 9) (by have := p42.2; omega) (by have := p43.2; omega)
  have hp5 : 5 ≤ pop (ca S 42 j ||| ca S 43 j) := by
    have hb := pop_le (x := ca S 42 j ||| ca S 43 j) (by omega)
    rw [show (5 : Int32) = nI 5 from rfl, nI_ltI (by omega) (by decide)] at u3
    omega
  have z44 : ca S 44 j = 0 := by unfold ca; rw [u4]; rfl
  obtain ⟨j1, j2, j3, j4⟩ := J
  obtain ⟨k1, k2⟩ := j4 j hj
  have hb1 := h.1.1.2
  have e1 := h.1.1.1
  unfold sDecide
  rw [hcl]
  split
  · rename_i ht
    have hmore : pop (ca S 43 j) < pop (ca S 42 j) := by
      unfold takA at ht
      rw [Bool.and_eq_true, Bool.not_eq_true', decide_eq_false_iff_not] at ht
      have hb := pop_le (x := ca S 42 j) (by have := p42.2; omega)
      have hb2 := pop_le (x := ca S 43 j) (by have := p43.2; omega)
      rw [nI_leI (by omega) (by omega)] at ht
      omega
    refine ⟨j1, j2, j3, fun p hp => ?_⟩
    by_cases e : p = j
    · subst e
      refine ⟨k1, Or.inr ⟨?_, ?_, hp5, z44, fun _ => hmore⟩⟩
      · exact Nat.lt_of_lt_of_eq Nat.one_pos (ca_v (k := 41) (n := 1) (gA_p (S := wi S 0 0) (k := 41) (j := p) (i := p) (v := 1) |>.trans (if_pos rfl)) (by decide)).symm
      · exact Ar_v (k := 45) (n := cn S 1) ((gA_p (S := wA (wi S 0 0) 41 p 1) (k := 45) (j := p) (i := p) (v := gi S 1) |>.trans (if_pos rfl)).trans e1) (Nat.le_refl _) (by show cn S 1 < _; omega)
    · obtain ⟨m1, m2⟩ := j4 p hp
      refine ⟨m1, ?_⟩
      have x41 : gA (wA (wi S 0 0) 41 j 1) 41 p = gA S 41 p := gA_p.trans (if_neg e)
      have x45 : gA (wA (wA (wi S 0 0) 41 j 1) 45 j (gi S 1)) 45 p = gA S 45 p := gA_p.trans (if_neg e)
      have c41 : ca (wA (wi S 0 0) 41 j 1) 41 p = ca S 41 p := ca_e x41
      rcases m2 with z | ⟨z1, z2, z3, z4, z5⟩
      · exact Or.inl ⟨c41.trans z.1, x45.trans z.2⟩
      · exact Or.inr ⟨Nat.lt_of_lt_of_eq z1 c41.symm, Ar_e (S := S) x45 z2, z3, z4, fun y => z5 (fun q => y (c41.trans q))⟩
  · refine ⟨j1, j2, j3, fun p hp => ?_⟩
    by_cases e : p = j
    · subst e
      have c41 : ca (wA (wA (wi S 0 0) 41 p 2) 45 p (gi S 1)) 41 p = 2 := ca_v (k := 41) (n := 2) (gA_p (S := wi S 0 0) (k := 41) (j := p) (i := p) (v := 2) |>.trans (if_pos rfl)) (by decide)
      refine ⟨k1, Or.inr ⟨by rw [c41]; decide, ?_, hp5, z44, fun y => absurd c41 y⟩⟩
      exact Ar_v (k := 45) (n := cn S 1) ((gA_p (S := wA (wi S 0 0) 41 p 2) (k := 45) (j := p) (i := p) (v := gi S 1) |>.trans (if_pos rfl)).trans e1) (Nat.le_refl _) (by show cn S 1 < _; omega)
    · obtain ⟨m1, m2⟩ := j4 p hp
      refine ⟨m1, ?_⟩
      have x41 : gA (wA (wi S 0 0) 41 j 2) 41 p = gA S 41 p := gA_p.trans (if_neg e)
      have x45 : gA (wA (wA (wi S 0 0) 41 j 2) 45 j (gi S 1)) 45 p = gA S 45 p := gA_p.trans (if_neg e)
      have c41 : ca (wA (wi S 0 0) 41 j 2) 41 p = ca S 41 p := ca_e x41
      rcases m2 with z | ⟨z1, z2, z3, z4, z5⟩
      · exact Or.inl ⟨c41.trans z.1, x45.trans z.2⟩
      · exact Or.inr ⟨Nat.lt_of_lt_of_eq z1 c41.symm, Ar_e (S := S) x45 z2, z3, z4, fun y => z5 (fun q => y (c41.trans q))⟩
theorem J_Appeal {S : Ms} (h : INV S) (J : JV S) {p : Int32} (hc : cAppeal S p = 0) : JV (sAppeal S p) := by
  unfold cAppeal at hc
  split at hc
  · exact absurd hc (by decide)
  rename_i q1
  split at hc
  · exact absurd hc (by decide)
  rename_i q2
  obtain ⟨j, hj, rfl⟩ := isP_ex h (nt q1)
  have hcl : (nI j).toNatClampNeg = j := nI_clamp (by have := h.c36; omega)
  rw [hcl] at q2
  have q2 := Decidable.not_not.mp q2
  have z41 : ca S 41 j = 1 := by unfold ca; rw [q2]; rfl
  unfold sAppeal
  rw [hcl]
  obtain ⟨j1, j2, j3, j4⟩ := J
  refine ⟨j1, j2, j3, fun p hp => ?_⟩
  obtain ⟨k1, k2⟩ := j4 p hp
  refine ⟨k1, ?_⟩
  have x41 : gA (wA (wi S 0 0) 41 j 3) 41 p = if p = j then 3 else gA S 41 p := gA_p
  by_cases e : p = j
  · rw [if_pos e] at x41
    have c41 : ca (wA (wi S 0 0) 41 j 3) 41 p = 3 := ca_v (n := 3) x41 (by decide)
    rcases k2 with z | ⟨z1, z2, z3, z4, z5⟩
    · rw [e] at z; omega
    · exact Or.inr ⟨Nat.lt_of_lt_of_eq (by decide) c41.symm, z2, z3, z4, fun _ => z5 (by rw [e]; omega)⟩
  · rw [if_neg e] at x41
    have c41 : ca (wA (wi S 0 0) 41 j 3) 41 p = ca S 41 p := ca_e x41
    rcases k2 with z | ⟨z1, z2, z3, z4, z5⟩
    · exact Or.inl ⟨c41.trans z.1, z.2⟩
    · exact Or.inr ⟨Nat.lt_of_lt_of_eq z1 c41.symm, z2, z3, z4, fun y => z5 (fun q => y (c41.trans q))⟩
theorem sgL_J {S : Ms} (h : INV S) (J : JV S) : ∀ k f, f < cn S 2 → JW (gL (sgL S k) 56 f)
  | 0, f, hf => J.1 f hf
  | k + 1, f, hf => by
    rw [sgL, gL_w]
    split
    · exact sneA_w h.OkF _ _
    · exact sgL_J h J k f hf
theorem osL_o (S : Ms) (many : Nat) : ∀ k, gL (osL S many k) = gL S ∧ ∀ i, i ≠ 57 → gA (osL S many k) i = gA S i
  | 0 => ⟨rfl, fun _ _ => rfl⟩
  | k + 1 => by
    obtain ⟨h1, h2⟩ := osL_o S many k
    refine ⟨h1, fun i hi => ?_⟩
    rw [osL, gA_wA, if_neg hi]; exact h2 i hi
theorem psA_J {S : Ms} (h : INV S) (J : JV S) (h9 : cn S 1 < 9999) : JV (psA S) := by
  obtain ⟨o1, o2⟩ := osL_o (wi (sgL S (manyA S)) 58 (gi S 58 - nI (manyA S))) (manyA S) (cn S 58 - manyA S)
  have o3 := (osL_f (wi (sgL S (manyA S)) 58 (gi S 58 - nI (manyA S))) (manyA S) (cn S 58 - manyA S)).1
  obtain ⟨-, s2, s3⟩ := sgL_f S (manyA S)
  have eA : ∀ i, i ≠ 57 → gA (psA S) i = gA S i := fun i hi => (o2 i hi).trans (congrFun s3 i)
  have eL : ∀ f, gL (psA S) 56 f = gL (sgL S (manyA S)) 56 f := fun f => congrFun (congrFun o1 56) f
  have eg : ∀ i, i ≠ 1 → i ≠ 58 → gi (psA S) i = gi S i := by
    intro i h1 h2
    unfold psA
    rw [gi_wi, if_neg h1, o3, gi_wi, if_neg h2, s2]
  have e1 : cn (psA S) 1 = cn S 1 + 1 := by
    show (gi (psA S) 1).toNatClampNeg = cn S 1 + 1
    unfold psA
    rw [gi_wi, if_pos rfl, h.1.1.1, nI_s, nI_clamp (by omega)]
  have ec : ∀ i j, i ≠ 57 → ca (psA S) i j = ca S i j := fun i j hi => ca_e (by rw [eA i hi])
  have n2 : cn (psA S) 2 = cn S 2 := by unfold cn; rw [eg 2 (by decide) (by decide)]
  have n36 : cn (psA S) 36 = cn S 36 := by unfold cn; rw [eg 36 (by decide) (by decide)]
  refine ⟨fun f hf => ?_, fun f hf => ?_, fun f hf i hi => ?_, fun p hp => ?_⟩
  · rw [n2] at hf; rw [eL]; exact sgL_J h J _ f hf
  · rw [n2] at hf; rw [ec 8 _ (by decide), ec 9 _ (by decide), ec 4 _ (by decide)]; exact J.2.1 f hf
  · rw [n2] at hf; rw [ec 10 _ (by decide)] at hi; rw [eA 11 (by decide), ec 11 _ (by decide)]; exact J.2.2.1 f hf i hi
  · rw [n36] at hp
    obtain ⟨k1, k2⟩ := J.2.2.2 p hp
    unfold JP
    rw [ec 42 _ (by decide), ec 43 _ (by decide), ec 41 _ (by decide), ec 44 _ (by decide), eA 45 (by decide), e1]
    refine ⟨k1, ?_⟩
    rcases k2 with z | ⟨z1, z2, z3, z4, z5⟩
    · exact Or.inl z
    · refine Or.inr ⟨z1, ?_, z3, z4, z5⟩
      have z2b := Ar_e (S := S) (S' := psA S) (by rw [eA 45 (by decide)]) z2
      exact ⟨z2b.1, by have := z2b.2; omega⟩
theorem psN_J {S : Ms} (h : INV S) (J : JV S) : ∀ j, cn S 1 + j ≤ 9999 → JV (psN (wi S 0 0) j)
  | 0, _ => J
  | j + 1, hj => by
    obtain ⟨h1, h2⟩ := INV_psN h j (by omega)
    exact psA_J h1 (psN_J h J j (by omega)) (by omega)
theorem J_Pass {S : Ms} (h : INV S) (J : JV S) {d : Int32} (hc : cPass S d = 0) : JV (sPass S d) := by
  unfold cPass at hc
  split at hc
  · exact absurd hc (by decide)
  rename_i q1
  split at hc
  · exact absurd hc (by decide)
  rename_i q2
  obtain ⟨n, hn1, hn4, rfl⟩ := in1_ex (b := 400) (by decide) (nt q1)
  have q2 := Decidable.not_not.mp q2
  rw [h.1.1.1, nI_add, show (9999 : Int32) = nI 9999 from rfl, nI_leI (by have := h.1.1.2; omega) (by decide)] at q2
  unfold sPass
  rw [nI_clamp (by omega)]
  exact psN_J h J n q2
theorem J_Feature {S : Ms} (h : INV S) (J : JV S) {k p q : Int32} (hc : cFeature S k p q = 0) : JV (sFeature S k p q) := by
  unfold cFeature at hc
  split at hc
  · exact absurd hc (by decide)
  split at hc
  · exact absurd hc (by decide)
  rename_i q2
  have hA := h.1.2.1
  have hn := cnt_lt' (N := 24) hA.1 hA.2 q2
  obtain ⟨v5, v10, v48, v49, v56, v47⟩ := h.2.2.1 (cn S 2) (Nat.le_refl _) hn
  have c5 : ca S 5 (cn S 2) = 0 := by unfold ca; rw [v5]; rfl
  have s2 : cn (sFeature S k p q) 2 = cn S 2 + 1 := by
    show (gi S 2 + 1).toNatClampNeg = _
    rw [h.1.2.1.1, nI_s, nI_clamp (by omega)]
  have g4 : ∀ i, gA (sFeature S k p q) 4 i = if i = cn S 2 then gi S 1 else gA S 4 i := fun i => gA_p (S := (wA (wi S 0 0) 3 (cn S 2) k)) (k := 4)
  have g8 : ∀ i, gA (sFeature S k p q) 8 i = if i = 40 * cn S 2 then gi S 1 else gA S 8 i := fun i => by
    have h9 : gA (sFeature S k p q) 8 i = if i = (40 * cn S 2 + ca S 5 (cn S 2)) then gi S 1 else gA S 8 i := gA_p (S := (wA (wA (wi (wA (wA (wA (wi S 0 0) 3 (cn S 2) k) 4 (cn S 2) (gi S 1)) 14 (cn S 2) (-1)) 2 (gi S 2 + 1)) 6 (40 * cn S 2 + ca S 5 (cn S 2)) p) 7 (40 * cn S 2 + ca S 5 (cn S 2)) q)) (k := 8)
    rw [h9, c5, Nat.add_zero]
  have g9 : ∀ i, gA (sFeature S k p q) 9 i = if i = 40 * cn S 2 then gi S 1 else gA S 9 i := fun i => by
    have h9 : gA (sFeature S k p q) 9 i = if i = (40 * cn S 2 + ca S 5 (cn S 2)) then gi S 1 else gA S 9 i := gA_p (S := (wA (wA (wA (wi (wA (wA (wA (wi S 0 0) 3 (cn S 2) k) 4 (cn S 2) (gi S 1)) 14 (cn S 2) (-1)) 2 (gi S 2 + 1)) 6 (40 * cn S 2 + ca S 5 (cn S 2)) p) 7 (40 * cn S 2 + ca S 5 (cn S 2)) q) 8 (40 * cn S 2 + ca S 5 (cn S 2)) (gi S 1))) (k := 9)
    rw [h9, c5, Nat.add_zero]
  obtain ⟨j1, j2, j3, j4⟩ := J
  refine ⟨fun f hf => ?_, fun f hf => ?_, fun f hf i hi => ?_, j4⟩
  · rw [s2] at hf
    by_cases e : f = cn S 2
    · have e9 : gL (sFeature S k p q) 56 f = 0 := by rw [e]; exact v56
      rw [e9]; exact JW_0
    · exact j1 f (by omega)
  · rw [s2] at hf
    by_cases e : f = cn S 2
    · rw [e]
      have e8 : ca (sFeature S k p q) 8 (40 * cn S 2) = cn S 1 := by unfold ca; rw [g8, if_pos rfl]; rfl
      have e9 : ca (sFeature S k p q) 9 (40 * cn S 2) = cn S 1 := by unfold ca; rw [g9, if_pos rfl]; rfl
      have e4 : ca (sFeature S k p q) 4 (cn S 2) = cn S 1 := by unfold ca; rw [g4, if_pos rfl]; rfl
      rw [e8, e9, e4]; exact ⟨Nat.le_refl _, Nat.le_refl _⟩
    · have e8 : ca (sFeature S k p q) 8 (40 * f) = ca S 8 (40 * f) := ca_e (by rw [g8, if_neg (by omega)])
      have e9 : ca (sFeature S k p q) 9 (40 * f) = ca S 9 (40 * f) := ca_e (by rw [g9, if_neg (by omega)])
      have e4 : ca (sFeature S k p q) 4 f = ca S 4 f := ca_e (by rw [g4, if_neg e])
      rw [e8, e9, e4]
      exact j2 f (by omega)
  · rw [s2] at hf
    have hi' : i < ca S 10 f := hi
    by_cases e : f = cn S 2
    · have : ca S 10 f = 0 := by rw [e]; unfold ca; rw [v10]; rfl
      omega
    · exact j3 f (by omega) i hi'
