theorem INV_41 {U : Ms} (h : INV U) {j s : Nat} (hs : s ≤ 3) (hq : (s = 1 ∨ s = 3) → Ar U 46 j 99 ∧ ca U 46 j < cn U 17) (hj : j < cn U 36) : INV (wA U 41 j (nI s)) := by
  obtain ⟨h1, h2, h3, h4, h5, h6, h7, h8, h9, h10, h11, h12⟩ := h
  have g41 : ∀ p, gA (wA U 41 j (nI s)) 41 p = if p = j then nI s else gA U 41 p := fun p => gA_p
  refine ⟨h1, h2, h3, h4, h5, h6, fun p hp => ?_, fun p hp1 hp2 => ?_, h9, h10, h11, h12⟩
  · obtain ⟨b1, b2, b3, b4, b5, b6, b7, b8, b9, b10, b11⟩ := h7 p hp
    by_cases e : p = j
    · have hc : ca (wA U 41 j (nI s)) 41 p = s := ca_v (by rw [g41, if_pos e]) (by omega)
      refine ⟨b1, b2, b3, b4, b5, Ar_v (n := s) (by rw [g41, if_pos e]) hs (by omega), b7, b8, b9, b10, fun z => ?_⟩
      rw [hc] at z
      rw [e]; exact hq z
    · refine ⟨b1, b2, b3, b4, b5, Ar_e (S := U) (by rw [g41, if_neg e]) b6, b7, b8, b9, b10, fun z => b11 ?_⟩
      rw [show ca (wA U 41 j (nI s)) 41 p = ca U 41 p from ca_e (by rw [g41, if_neg e])] at z
      exact z
  · obtain ⟨b1, b2, b3, b4⟩ := h8 p hp1 hp2
    have hp1 : cn U 36 ≤ p := hp1
    exact ⟨by rw [g41, if_neg (by omega)]; exact b1, b2, b3, b4⟩
theorem INV_46 {U : Ms} (h : INV U) {j q : Nat} (hq : q ≤ 99) (hq2 : q < cn U 17) : INV (wA U 46 j (nI q)) := by
  obtain ⟨h1, h2, h3, h4, h5, h6, h7, h8, h9, h10, h11, h12⟩ := h
  have g46 : ∀ p, gA (wA U 46 j (nI q)) 46 p = if p = j then nI q else gA U 46 p := fun p => gA_p
  refine ⟨h1, h2, h3, h4, h5, h6, fun p hp => ?_, h8, h9, h10, h11, h12⟩
  obtain ⟨b1, b2, b3, b4, b5, b6, b7, b8, b9, b10, b11⟩ := h7 p hp
  refine ⟨b1, b2, b3, b4, b5, b6, b7, b8, b9, b10, fun z => ?_⟩
  by_cases e : p = j
  · have hc : ca (wA U 46 j (nI q)) 46 p = q := ca_v (by rw [g46, if_pos e]) (by omega)
    exact ⟨Ar_v (n := q) (by rw [g46, if_pos e]) hq (by omega), by rw [hc]; exact hq2⟩
  · have hc : ca (wA U 46 j (nI q)) 46 p = ca U 46 p := ca_e (by rw [g46, if_neg e])
    exact ⟨Ar_e (S := U) (by rw [g46, if_neg e]) (b11 z).1, by rw [hc]; exact (b11 z).2⟩
theorem INV_23 {U : Ms} (h : INV U) {j : Nat} : INV (wA U 23 j (gi U 1)) := by
  obtain ⟨h1, h2, h3, h4, h5, h6, h7, h8, h9, h10, h11, h12⟩ := h
  have g23 : ∀ p, gA (wA U 23 j (gi U 1)) 23 p = if p = j then gi U 1 else gA U 23 p := fun p => gA_p
  have hb := h1.1.2
  refine ⟨h1, h2, h3, fun n hn => ?_, h5, h6, h7, h8, h9, h10, h11, h12⟩
  obtain ⟨b1, b2, b3, b4, b5, b6, b7⟩ := h4 n hn
  refine ⟨b1, b2, b3, b4, b5, b6, ?_⟩
  by_cases e : n = j
  · exact Or.inr (Ar_v (n := cn U 1) (by rw [g23, if_pos e]; exact h1.1.1) (Nat.le_refl _) (by show cn U 1 < _; omega))
  · rcases b7 with z | z
    · exact Or.inl (by rw [g23, if_neg e]; exact z)
    · exact Or.inr (Ar_e (S := U) (by rw [g23, if_neg e]) z)
theorem wA_comm {S : Ms} {a b i j : Nat} {u v : Int32} (h : a ≠ b) : wA (wA S a i u) b j v = wA (wA S b j v) a i u := by
  refine Ms_ext (fun _ => rfl) (fun k => ?_) rfl
  rw [gA_wA, gA_wA, gA_wA, gA_wA, gA_wA, gA_wA]
  by_cases c1 : k = b
  · have c2 : ¬ k = a := fun z => h (z.symm.trans c1)
    rw [if_pos c1, if_neg (fun z => h z.symm), if_neg c2, if_pos c1]
  · rw [if_neg c1]
    by_cases c2 : k = a
    · rw [if_pos c2, if_pos c2, if_neg h]
    · rw [if_neg c2, if_neg c2, if_neg c1]
theorem tells_w {S : Ms} {k j : Nat} {v f t d : Int32} {w : Int64} (hk : k = 41 ∨ k = 45) : sTells (wA S k j v) f t w d = wA (sTells S f t w d) k j v := by
  have n : ∀ i, i < 24 → k ≠ i := fun i hi => by omega
  show wi (wA (wA (wA (wL (wA (wA (wA S k j v) 18 (cn S 17) f) 19 (cn S 17) t) 20 (cn S 17) w) 21 (cn S 17) d) 22 (cn S 17) (gi S 1)) 23 (cn S 17) (-1)) 17 (gi S 17 + 1) = wA (wi (wA (wA (wA (wL (wA (wA S 18 (cn S 17) f) 19 (cn S 17) t) 20 (cn S 17) w) 21 (cn S 17) d) 22 (cn S 17) (gi S 1)) 23 (cn S 17) (-1)) 17 (gi S 17 + 1)) k j v
  have cL : ∀ (T : Ms) (m : Nat), wL (wA T k j v) 20 m w = wA (wL T 20 m w) k j v := fun _ _ => rfl
  have cI : ∀ (T : Ms) (u : Int32), wi (wA T k j v) 17 u = wA (wi T 17 u) k j v := fun _ _ => rfl
  rw [wA_comm (n 18 (by decide)), wA_comm (n 19 (by decide)), cL, wA_comm (n 21 (by decide)), wA_comm (n 22 (by decide)), wA_comm (n 23 (by decide)), cI]
theorem INV_dec1 {U : Ms} (h : INV U) {j q : Nat} {v : Int32} (hj : j < cn U 36) (hq : q ≤ 99) (hq2 : q < cn U 17) (hv : v = gi U 1) : INV (wA (wA (wA U 41 j 1) 45 j v) 46 j (nI q)) := by
  have e2 := INV_46 h (j := j) hq hq2
  have e3 := INV_d45 e2 (j := j)
  have g46 : gA (wA U 46 j (nI q)) 46 j = nI q := gA_p.trans (if_pos rfl)
  have e4 := INV_41 e3 (j := j) (s := 1) (by decide) (fun _ => ⟨(Ar_v (n := q) g46 hq (by omega) : Ar (wA U 46 j (nI q)) 46 j 99), by
    show ca (wA U 46 j (nI q)) 46 j < cn U 17
    rw [ca_v g46 (by omega)]; exact hq2⟩) hj
  rw [wA_comm (a := 45) (b := 46) (by decide), wA_comm (a := 41) (b := 46) (by decide), wA_comm (a := 41) (b := 45) (by decide), hv]
  exact e4
theorem isF_ex {S : Ms} (h : INV S) {f : Int32} (hf : isF S f = true) : ∃ j, j < cn S 2 ∧ f = nI j := by
  unfold isF at hf
  rw [h.1.2.1.1] at hf
  rcases inN (n := cn S 2) (by have := h.c2; omega) f with z | ⟨j, h1, h2, -⟩
  · rw [z] at hf; cases hf
  · exact ⟨j, h1, h2⟩
theorem isP_ex {S : Ms} (h : INV S) {f : Int32} (hf : isP S f = true) : ∃ j, j < cn S 36 ∧ f = nI j := by
  unfold isP at hf
  rw [h.1.2.2.2.2.2.1.1] at hf
  rcases inN (n := cn S 36) (by have := h.c36; omega) f with z | ⟨j, h1, h2, -⟩
  · rw [z] at hf; cases hf
  · exact ⟨j, h1, h2⟩
theorem in_ex {v : Int32} {b : Nat} (hb : b < 2 ^ 30) (h : inB v 0 (nI b) = true) : ∃ j, j ≤ b ∧ v = nI j := by
  obtain ⟨j, -, h1, h2⟩ := inb (a := 0) (b := b) (v := v) hb h (by decide)
  exact ⟨j, h1, h2⟩
theorem in1_ex {v : Int32} {b : Nat} (hb : b < 2 ^ 30) (h : inB v 1 (nI b) = true) : ∃ j, 1 ≤ j ∧ j ≤ b ∧ v = nI j := by
  obtain ⟨j, h0, h1, h2⟩ := inb (a := 1) (b := b) (v := v) hb h (by decide)
  exact ⟨j, h0, h1, h2⟩
theorem Wd8_of {w : Int64} (h : isWd 8 w = true) : Wd8 w := by
  obtain ⟨r, h1, h2, rfl⟩ := isWd_of h
  unfold Wd8
  rw [wr_lN (LW.mono h1 (by decide))]
  exact ⟨h1, h2, rfl⟩
theorem nf {b : Bool} (h : (!b) = false) : b = true := by cases b <;> simp at h ⊢
theorem nt {b : Bool} (h : ¬ (!b) = true) : b = true := by cases b <;> simp at h ⊢
theorem fw_ex {S : Ms} (h : INV S) {w : Int32} (hw : (decide (w = -1) || isF S w) = true) : w = -1 ∨ ∃ n, n ≤ 23 ∧ w = nI n := by
  rcases Bool.or_eq_true _ _ ▸ hw with z | z
  · exact Or.inl (of_decide_eq_true z)
  · obtain ⟨j, h1, h2⟩ := isF_ex h z
    exact Or.inr ⟨j, by have := h.c2; omega, h2⟩
theorem cnt_lt' {v : Int32} {c N : Nat} (h : v = nI c) (hc : c ≤ N) (hn : ¬ v = nI N) : c < N := by
  rcases Nat.lt_or_ge c N with z | z
  · exact z
  · exact absurd (by rw [h, show c = N by omega]) hn
theorem wz_f {o : Nat → Int32} {f : Int32} : ∀ {n}, wzL o f n = false → ∀ i, i < n → o i ≠ f
  | 0, _, i, hi => absurd hi (Nat.not_lt_zero i)
  | n + 1, h, i, hi => by
    rw [wzL, Bool.or_eq_false_iff] at h
    by_cases e : i = n
    · rw [e]; exact of_decide_eq_false h.2
    · exact wz_f h.1 i (by omega)
theorem I_Move {S : Ms} (h : INV S) {f x y d : Int32} (hc : cMove S f x y d = 0) : INV (sMove S f x y d) := by
  unfold cMove at hc
  split at hc
  · exact absurd hc (by decide)
  rename_i q1
  split at hc
  · exact absurd hc (by decide)
  rename_i q2
  split at hc
  · exact absurd hc (by decide)
  rename_i q3
  obtain ⟨j, hj, rfl⟩ := isF_ex h (nt q1)
  have q2 := (Bool.or_eq_false_iff.mp (Bool.not_eq_true _ ▸ q2))
  have p1 := nf q2.1
  have p2 := nf q2.2
  obtain ⟨a, b, ha, hb, rfl, rfl⟩ := pl_ex p1
  obtain ⟨e, he, rfl⟩ := in_ex (b := 9999) (by decide) p2
  have hcl : (nI j).toNatClampNeg = j := nI_clamp (by have := h.c2; omega)
  unfold sMove
  rw [hcl] at q3 ⊢
  have hA := (h.2.1 j hj).2.2.1
  exact INV_sPla (S := wi S 0 0) (INV_wi0 0 h) hj (cnt_lt' (N := 40) hA.1 hA.2 q3) ha hb he
theorem I_Part {S : Ms} (h : INV S) {f w d : Int32} (hc : cPart S f w d = 0) : INV (sPart S f w d) := by
  unfold cPart at hc
  split at hc
  · exact absurd hc (by decide)
  rename_i q1
  split at hc
  · exact absurd hc (by decide)
  rename_i q2
  split at hc
  · exact absurd hc (by decide)
  rename_i q3
  have q1 := nt q1
  rw [Bool.and_eq_true] at q1
  obtain ⟨j, hj, rfl⟩ := isF_ex h q1.1
  have q2 := (Bool.or_eq_false_iff.mp (Bool.not_eq_true _ ▸ q2))
  have p2 := nf q2.2
  obtain ⟨e, he, rfl⟩ := in_ex (b := 9999) (by decide) p2
  have hcl : (nI j).toNatClampNeg = j := nI_clamp (by have := h.c2; omega)
  unfold sPart
  rw [hcl] at q3 ⊢
  have hA := (h.2.1 j hj).2.2.2.2.1
  exact INV_part (S := wi S 0 0) (INV_wi0 0 h) hj (cnt_lt' (N := 40) hA.1 hA.2 q3) (fw_ex h q1.2) he
theorem I_End {S : Ms} (h : INV S) {f i d : Int32} (hc : cEnd S f i d = 0) : INV (sEnd S f i d) := by
  unfold cEnd at hc
  split at hc
  · exact absurd hc (by decide)
  rename_i q1
  split at hc
  · exact absurd hc (by decide)
  rename_i q2
  split at hc
  · exact absurd hc (by decide)
  rename_i q3
  have q1 := nt q1
  rw [Bool.and_eq_true] at q1
  obtain ⟨j, hj, rfl⟩ := isF_ex h q1.1
  have q2 := (Bool.or_eq_false_iff.mp (Bool.not_eq_true _ ▸ q2))
  have p2 := nf q2.2
  obtain ⟨e, he, rfl⟩ := in_ex (b := 9999) (by decide) p2
  have hcl : (nI j).toNatClampNeg = j := nI_clamp (by have := h.c2; omega)
  unfold sEnd
  rw [hcl]
  exact INV_end (S := wi S 0 0) (INV_wi0 0 h) he (fw_ex h q1.2)
theorem I_Lawc {S : Ms} (h : INV S) {t d l a b : Int32} (hc : cLawc S t d l a b = 0) : INV (sLawc S t d l a b) := by
  unfold cLawc at hc
  split at hc
  · exact absurd hc (by decide)
  rename_i q1
  split at hc
  · exact absurd hc (by decide)
  rename_i q2
  split at hc
  · exact absurd hc (by decide)
  rename_i q3
  have q2 := nt q2
  rw [Bool.and_eq_true] at q2
  obtain ⟨u1, q20r⟩ := q2
  rw [Bool.and_eq_true] at q20r
  obtain ⟨u2, q21r⟩ := q20r
  rw [Bool.and_eq_true] at q21r
  obtain ⟨u3, q22r⟩ := q21r
  rw [Bool.and_eq_true] at q22r
  obtain ⟨u4, u5⟩ := q22r
  obtain ⟨t, ht, rfl⟩ := in_ex (b := 3) (by decide) (nt q1)
  obtain ⟨d, hd, rfl⟩ := in_ex (b := 9999) (by decide) u1
  obtain ⟨l, hl0, hl, rfl⟩ := in1_ex (b := 26) (by decide) u2
  obtain ⟨a, ha, rfl⟩ := in_ex (b := 26) (by decide) u3
  obtain ⟨b, hb, rfl⟩ := in_ex (b := 26) (by decide) u4
  have hab : a = 0 → b = 0 := by
    intro z
    subst z
    rcases Bool.or_eq_true _ _ ▸ u5 with z | z
    · exact absurd (of_decide_eq_true z) (by decide)
    · exact (nI_eq (a := b) (b := 0) (by omega) (by decide)).mp (of_decide_eq_true z)
  have hA := h.1.2.2.2.1
  have hn := cnt_lt' (N := 12) hA.1 hA.2 q3
  have h9 := INV_law (S := wi S 0 0) (INV_wi0 0 h) ht hd hl ha hb hab hn
  unfold sLawc
  rw [hA.1, nI_s]
  exact h9
theorem I_Except {S : Ms} (h : INV S) {f t d : Int32} (hc : cExcept S f t d = 0) : INV (sExcept S f t d) := by
  unfold cExcept at hc
  split at hc
  · exact absurd hc (by decide)
  rename_i q1
  split at hc
  · exact absurd hc (by decide)
  rename_i q2
  split at hc
  · exact absurd hc (by decide)
  rename_i q3
  have q1 := nt q1
  rw [Bool.and_eq_true] at q1
  obtain ⟨j, hj, rfl⟩ := isF_ex h q1.1
  obtain ⟨t, ht, rfl⟩ := in_ex (b := 3) (by decide) q1.2
  obtain ⟨d, hd, rfl⟩ := in_ex (b := 9999) (by decide) (nt q2)
  have hA := h.1.2.2.2.2.1
  have hn := cnt_lt' (N := 40) hA.1 hA.2 q3
  have h9 := INV_except (S := wi S 0 0) (INV_wi0 0 h) hj ht hd hn
  unfold sExcept
  rw [hA.1, nI_s]
  exact h9
theorem I_Name {S : Ms} (h : INV S) {f t : Int32} {w : Int64} {d : Int32} (hc : cName S f t w d = 0) : INV (sName S f t w d) := by
  unfold cName at hc
  split at hc
  · exact absurd hc (by decide)
  rename_i q1
  split at hc
  · exact absurd hc (by decide)
  rename_i q2
  split at hc
  · exact absurd hc (by decide)
  rename_i q3
  have q1 := nt q1
  rw [Bool.and_eq_true] at q1
  obtain ⟨j, hj, rfl⟩ := isF_ex h q1.1
  obtain ⟨t, ht, rfl⟩ := in_ex (b := 3) (by decide) q1.2
  have q2 := nt q2
  rw [Bool.and_eq_true] at q2
  obtain ⟨d, hd, rfl⟩ := in_ex (b := 9999) (by decide) q2.2
  have q3 := (Bool.or_eq_false_iff.mp (Bool.not_eq_true _ ▸ q3)).1
  have hA := h.1.2.2.1
  exact INV_tells (S := wi S 0 0) (INV_wi0 0 h) hj ht (Wd8_of q2.1) hd (cnt_lt' (N := 100) hA.1 hA.2 (of_decide_eq_false q3))
theorem I_Petition {S : Ms} (h : INV S) {f t : Int32} {w : Int64} {d : Int32} (hc : cPetition S f t w d = 0) : INV (sPetition S f t w d) := by
  unfold cPetition at hc
  split at hc
  · exact absurd hc (by decide)
  rename_i q1
  split at hc
  · exact absurd hc (by decide)
  rename_i q2
  split at hc
  · exact absurd hc (by decide)
  rename_i q3
  have q1 := nt q1
  rw [Bool.and_eq_true] at q1
  obtain ⟨j, hj, rfl⟩ := isF_ex h q1.1
  obtain ⟨t, ht, rfl⟩ := in_ex (b := 3) (by decide) q1.2
  have q2 := nt q2
  rw [Bool.and_eq_true] at q2
  obtain ⟨u1, q20r⟩ := q2
  rw [Bool.and_eq_true] at q20r
  obtain ⟨u2, u3⟩ := q20r
  obtain ⟨d, hd, rfl⟩ := in_ex (b := 9999) (by decide) u2
  have hA := h.1.2.2.2.2.2.1
  have hn := cnt_lt' (N := 16) hA.1 hA.2 q3
  have h9 := INV_petition (S := wi S 0 0) (INV_wi0 0 h) hj ht (Wd8_of u1) hd hn
  unfold sPetition
  rw [hA.1, nI_s]
  exact h9
theorem or511 : ∀ u, u < 512 → ∀ n, n < 9 → ∃ v, v < 512 ∧ nI u ||| 1 <<< (nI n &&& 31) = nI v := by
  intro u hu n hn
  refine ⟨u ||| 2 ^ n, Nat.or_lt_two_pow (n := 9) hu (by have : 2 ^ n ≤ 2 ^ 8 := Nat.pow_le_pow_right (by decide) (by omega); omega), ?_⟩
  rw [sh1 n (by omega), nI_or]
theorem xor255 : ∀ u, u < 256 → ∀ n, n < 8 → ∃ v, v < 256 ∧ nI u ^^^ 1 <<< (nI n &&& 31) = nI v := by
  intro u hu n hn
  refine ⟨u ^^^ 2 ^ n, Nat.xor_lt_two_pow (n := 8) hu (by have : 2 ^ n ≤ 2 ^ 7 := Nat.pow_le_pow_right (by decide) (by omega); omega), ?_⟩
  rw [sh1 n (by omega), nI_xor]
theorem I_Vote {S : Ms} (h : INV S) {p c b : Int32} (hc : cVote S p c b = 0) : INV (sVote S p c b) := by
  unfold cVote at hc
  split at hc
  · exact absurd hc (by decide)
  rename_i q1
  split at hc
  rotate_left
  · exact absurd hc (by decide)
  rename_i q2
  have q1 := nt q1
  rw [Bool.and_eq_true] at q1
  obtain ⟨j, hj, rfl⟩ := isP_ex h q1.1
  obtain ⟨n, hn, rfl⟩ := in_ex (b := 8) (by decide) q1.2
  have hcl : (nI j).toNatClampNeg = j := nI_clamp (by have := h.c36; omega)
  have hP := h.2.2.2.2.2.2.1 j hj
  obtain ⟨-, -, -, -, -, -, p42, p43, -⟩ := hP
  obtain ⟨u, hu, eu⟩ := or511 (ca S 42 j) (by have := p42.2; omega) n (by omega)
  obtain ⟨v, hv, ev⟩ := or511 (ca S 43 j) (by have := p43.2; omega) n (by omega)
  unfold sVote
  rw [hcl]
  split
  · rw [p43.1, ev]; exact INV_vote (S := wi S 0 0) (INV_wi0 0 h) (Or.inr rfl) hj (by omega)
  · rw [p42.1, eu]; exact INV_vote (S := wi S 0 0) (INV_wi0 0 h) (Or.inl rfl) hj (by omega)
theorem I_Protest {S : Ms} (h : INV S) {p c : Int32} (hc : cProtest S p c = 0) : INV (sProtest S p c) := by
  unfold cProtest at hc
  split at hc
  · exact absurd hc (by decide)
  rename_i q1
  split at hc
  rotate_left
  · exact absurd hc (by decide)
  rename_i q2
  have q1 := nt q1
  rw [Bool.and_eq_true] at q1
  obtain ⟨j, hj, rfl⟩ := isP_ex h q1.1
  obtain ⟨n, hn, rfl⟩ := in_ex (b := 7) (by decide) q1.2
  have hcl : (nI j).toNatClampNeg = j := nI_clamp (by have := h.c36; omega)
  have hP := h.2.2.2.2.2.2.1 j hj
  obtain ⟨-, -, -, -, -, -, -, -, p44, -⟩ := hP
  obtain ⟨u, hu, eu⟩ := xor255 (ca S 44 j) (by have := p44.2; omega) n (by omega)
  unfold sProtest
  rw [hcl, p44.1, eu]
  exact INV_protest (S := wi S 0 0) (INV_wi0 0 h) hj (by omega)
theorem I_Decide {S : Ms} (h : INV S) {p : Int32} (hc : cDecide S p = 0) : INV (sDecide S p) := by
  unfold cDecide at hc
  split at hc
  · exact absurd hc (by decide)
  rename_i q1
  split at hc
  rotate_left
  · exact absurd hc (by decide)
  rename_i q2
  obtain ⟨j, hj, rfl⟩ := isP_ex h (nt q1)
  have hcl : (nI j).toNatClampNeg = j := nI_clamp (by have := h.c36; omega)
  rw [hcl] at q2
  unfold sDecide
  rw [hcl]
  obtain ⟨p37, p37b, p38, p39, p40, p41, p42, p43, p44, p45, p46⟩ := h.2.2.2.2.2.2.1 j hj
  have hA := h.1.2.2.1
  have h17 : cn S 17 < 100 := by
    unfold cnD at q2
    simp only [Bool.and_eq_true] at q2
    have z := q2.2.2.2.2
    rcases Nat.lt_or_ge (cn S 17) 100 with y | y
    · exact y
    · have h9 : gi S 17 = 100 := by rw [hA.1, show cn S 17 = 100 by have := hA.2; omega]; rfl
      rw [h9] at z; exact absurd z (by decide)
  split
  · rw [nI_pred, p37.1, p38.1, p40.1, tells_w (Or.inr rfl), tells_w (Or.inl rfl)]
    have e1 := INV_tells (S := wi S 0 0) (INV_wi0 0 h) p37b p38.2 p39 p40.2 h17
    have c17 : cn (sTells (wi S 0 0) (nI (ca S 37 j)) (nI (ca S 38 j)) (gL S 39 j) (nI (ca S 40 j))) 17 = cn S 17 + 1 := (td_tells h (j := ca S 37 j) (t := nI (ca S 38 j)) (w := gL S 39 j) (d := nI (ca S 40 j))).2.1
    exact INV_dec1 e1 hj (by omega) (by rw [c17]; omega) rfl
  · have e1 := INV_41 (U := wi S 0 0) (INV_wi0 0 h) (j := j) (s := 2) (by decide) (fun z => by omega) hj
    exact INV_d45 e1
theorem I_Appeal {S : Ms} (h : INV S) {p : Int32} (hc : cAppeal S p = 0) : INV (sAppeal S p) := by
  unfold cAppeal at hc
  split at hc
  · exact absurd hc (by decide)
  rename_i q1
  split at hc
  · exact absurd hc (by decide)
  rename_i q2
  split at hc
  rotate_left
  · exact absurd hc (by decide)
  rename_i q3
  obtain ⟨j, hj, rfl⟩ := isP_ex h (nt q1)
  have hcl : (nI j).toNatClampNeg = j := nI_clamp (by have := h.c36; omega)
  rw [hcl] at q2
  have q2 := Decidable.not_not.mp q2
  unfold sAppeal
  rw [hcl]
  have h9 := (h.2.2.2.2.2.2.1 j hj).2.2.2.2.2.2.2.2.2.2 (Or.inl (by unfold ca; rw [q2]; rfl))
  have e1 := INV_41 (U := wi S 0 0) (INV_wi0 0 h) (j := j) (s := 3) (by decide) (fun _ => h9) hj
  exact INV_23 e1
theorem I_Census {S : Ms} (h : INV S) {f t v : Int32} (hc : cCensus S f t v = 0) : INV (sCensus S f t v) := by
  unfold cCensus at hc
  split at hc
  · exact absurd hc (by decide)
  rename_i q1
  split at hc
  rotate_left
  · exact absurd hc (by decide)
  rename_i q2
  have q1 := nt q1
  rw [Bool.and_eq_true] at q1
  obtain ⟨j, hj, rfl⟩ := isF_ex h q1.1
  obtain ⟨t, ht, rfl⟩ := in_ex (b := 3) (by decide) q1.2
  obtain ⟨v, hv, rfl⟩ := in_ex (b := 100) (by decide) q2
  have hcl : (nI j).toNatClampNeg = j := nI_clamp (by have := h.c2; omega)
  unfold sCensus
  rw [hcl, nI_clamp (show t < 2 ^ 31 by omega)]
  exact INV_census (S := wi S 0 0) (INV_wi0 0 h) hj (by omega) hv
theorem I_Dispute {S : Ms} (h : INV S) {f a b : Int32} (hc : cDispute S f a b = 0) : INV (sDispute S f a b) := by
  unfold cDispute at hc
  split at hc
  rotate_left
  · exact absurd hc (by decide)
  rename_i q1
  rw [Bool.and_eq_true] at q1
  obtain ⟨u1, q10r⟩ := q1
  rw [Bool.and_eq_true] at q10r
  obtain ⟨u2, u3⟩ := q10r
  obtain ⟨j, hj, rfl⟩ := isF_ex h u1
  obtain ⟨a, ha, rfl⟩ := in_ex (b := 3) (by decide) u2
  obtain ⟨b, hb, rfl⟩ := in_ex (b := 3) (by decide) u3
  have hcl : (nI j).toNatClampNeg = j := nI_clamp (by have := h.c2; omega)
  unfold sDispute
  rw [hcl]
  exact INV_dispute (S := wi S 0 0) (INV_wi0 0 h) hj ha hb
theorem I_Table {S : Ms} (h : INV S) {t l o : Int32} (hc : cTable S t l o = 0) : INV (sTable S t l o) := by
  unfold cTable at hc
  split at hc
  · exact absurd hc (by decide)
  rename_i q1
  split at hc
  rotate_left
  · exact absurd hc (by decide)
  rename_i q2
  rw [Bool.and_eq_true] at q2
  obtain ⟨t, ht, rfl⟩ := in_ex (b := 3) (by decide) (nt q1)
  obtain ⟨l, hl0, hl, rfl⟩ := in1_ex (b := 26) (by decide) q2.1
  obtain ⟨o, ho0, ho, rfl⟩ := in1_ex (b := 26) (by decide) q2.2
  unfold sTable
  rw [nI_clamp (show t < 2 ^ 31 by omega), nI_clamp (show l < 2 ^ 31 by omega)]
  exact INV_table (S := wi S 0 0) (INV_wi0 0 h) ⟨ho0, ho⟩
theorem I_Reading {S : Ms} (h : INV S) {w : Int64} {x y : Int32} (hc : cReading S w x y = 0) : INV (sReading S w x y) := by
  unfold cReading at hc
  split at hc
  · exact absurd hc (by decide)
  rename_i q1
  split at hc
  · exact absurd hc (by decide)
  rename_i q2
  have q1 := (Bool.or_eq_false_iff.mp (Bool.not_eq_true _ ▸ q1))
  obtain ⟨a, b, ha, hb, rfl, rfl⟩ := pl_ex (nf q1.2)
  have hA := h.1.2.2.2.2.2.2.1
  have h9 := INV_reading (S := wi S 0 0) (INV_wi0 0 h) (Wd8_of (nf q1.1)) ha hb (cnt_lt' (N := 4) hA.1 hA.2 q2)
  unfold sReading
  rw [hA.1, nI_s]
  exact h9
theorem I_Pull {S : Ms} (h : INV S) {s : Int32} (hc : cPull S s = 0) : INV (sPull S s) := by
  unfold cPull at hc
  split at hc
  rotate_left
  · exact absurd hc (by decide)
  rename_i q1
  exact INV_pull (S := wi S 0 0) (INV_wi0 0 h)
theorem I_Order {S : Ms} (h : INV S) {f : Int32} (hc : cOrder S f = 0) : INV (sOrder S f) := by
  unfold cOrder at hc
  split at hc
  · exact absurd hc (by decide)
  rename_i q1
  split at hc
  · exact absurd hc (by decide)
  rename_i q2
  obtain ⟨j, hj, rfl⟩ := isF_ex h (nt q1)
  have q2 := Bool.not_eq_true _ ▸ q2
  have hA := h.1.2.2.2.2.2.2.2.1
  have hw : ∀ i, i < cn S 58 → ca S 57 i ≠ j := fun i hi z => by
    have hi9 := (h.2.2.2.2.2.2.2.2.2.2.2.1 i hi).1.1
    rw [waiL_wz] at q2
    exact wz_f (n := cn S 58) q2 i hi (by rw [hi9, z])
  have hlt := ordLt h hj q2
  have h9 := INV_order (S := wi S 0 0) (INV_wi0 0 h) hj hlt hw
  unfold sOrder
  rw [hA.1, nI_s]
  exact h9
theorem I_Budget {S : Ms} (h : INV S) {b : Int32} (hc : cBudget S b = 0) : INV (sBudget S b) := by
  unfold cBudget at hc
  split at hc
  rotate_left
  · exact absurd hc (by decide)
  rename_i q1
  obtain ⟨b, hb, rfl⟩ := in_ex (b := 10) (by decide) q1
  exact INV_budget (S := wi S 0 0) (INV_wi0 0 h) hb
theorem I_Pass {S : Ms} (h : INV S) {d : Int32} (hc : cPass S d = 0) : INV (sPass S d) := by
  unfold cPass at hc
  split at hc
  · exact absurd hc (by decide)
  rename_i q1
  split at hc
  · exact absurd hc (by decide)
  rename_i q2
  obtain ⟨n, hn1, hn4, rfl⟩ := in1_ex (b := 400) (by decide) (nt q1)
  have q2 := Decidable.not_not.mp q2
  rw [h.1.1.1, nI_add, show (9999 : Int32) = nI 9999 from rfl, nI_leI (by have := h.1.1.2; omega) (by decide)] at q2
  unfold sPass
  rw [nI_clamp (by omega)]
  exact (INV_psN h n q2).1
theorem I_Feature {S : Ms} (h : INV S) {k p q : Int32} (hc : cFeature S k p q = 0) : INV (sFeature S k p q) := by
  unfold cFeature at hc
  split at hc
  · exact absurd hc (by decide)
  rename_i q1
  split at hc
  · exact absurd hc (by decide)
  rename_i q2
  have q1 := (Bool.or_eq_false_iff.mp (Bool.not_eq_true _ ▸ q1))
  have hA := h.1.2.1
  have hn := cnt_lt' (N := 24) hA.1 hA.2 q2
  obtain ⟨kn, hkn, ek⟩ := in_ex (b := 5) (by decide) (nf q1.1)
  obtain ⟨pn, qn, hpn, hqn, ep, eq⟩ := pl_ex (nf q1.2)
  obtain ⟨v5, v10, v48, v49, v56, v47⟩ := h.2.2.1 (cn S 2) (Nat.le_refl _) hn
  have c5 : ca S 5 (cn S 2) = 0 := by unfold ca; rw [v5]; rfl
  have s2 : cn (sFeature S k p q) 2 = cn S 2 + 1 := by
    show (gi S 2 + 1).toNatClampNeg = _
    rw [h.1.2.1.1, nI_s, nI_clamp (by omega)]
  have s2g : gi (sFeature S k p q) 2 = nI (cn S 2 + 1) := by
    show gi S 2 + 1 = _
    rw [h.1.2.1.1, nI_s]
  have g3 : ∀ i, gA (sFeature S k p q) 3 i = if i = cn S 2 then k else gA S 3 i := fun i => gA_p (S := (wi S 0 0)) (k := 3)
  have g4 : ∀ i, gA (sFeature S k p q) 4 i = if i = cn S 2 then gi S 1 else gA S 4 i := fun i => gA_p (S := (wA (wi S 0 0) 3 (cn S 2) k)) (k := 4)
  have g14 : ∀ i, gA (sFeature S k p q) 14 i = if i = cn S 2 then -1 else gA S 14 i := fun i => gA_p (S := (wA (wA (wi S 0 0) 3 (cn S 2) k) 4 (cn S 2) (gi S 1))) (k := 14)
  have g5 : ∀ i, gA (sFeature S k p q) 5 i = if i = cn S 2 then 1 else gA S 5 i := fun i => by
    have h9 : gA (sFeature S k p q) 5 i = if i = cn S 2 then gA S 5 (cn S 2) + 1 else gA S 5 i := gA_p (S := (wA (wA (wA (wA (wi (wA (wA (wA (wi S 0 0) 3 (cn S 2) k) 4 (cn S 2) (gi S 1)) 14 (cn S 2) (-1)) 2 (gi S 2 + 1)) 6 (40 * cn S 2 + ca S 5 (cn S 2)) p) 7 (40 * cn S 2 + ca S 5 (cn S 2)) q) 8 (40 * cn S 2 + ca S 5 (cn S 2)) (gi S 1)) 9 (40 * cn S 2 + ca S 5 (cn S 2)) (gi S 1))) (k := 5)
    rw [h9, v5]; rfl
  have g6 : ∀ i, gA (sFeature S k p q) 6 i = if i = 40 * cn S 2 then p else gA S 6 i := fun i => by
    have h9 : gA (sFeature S k p q) 6 i = if i = (40 * cn S 2 + ca S 5 (cn S 2)) then p else gA S 6 i := gA_p (S := (wi (wA (wA (wA (wi S 0 0) 3 (cn S 2) k) 4 (cn S 2) (gi S 1)) 14 (cn S 2) (-1)) 2 (gi S 2 + 1))) (k := 6)
    rw [h9, c5, Nat.add_zero]
  have g7 : ∀ i, gA (sFeature S k p q) 7 i = if i = 40 * cn S 2 then q else gA S 7 i := fun i => by
    have h9 : gA (sFeature S k p q) 7 i = if i = (40 * cn S 2 + ca S 5 (cn S 2)) then q else gA S 7 i := gA_p (S := (wA (wi (wA (wA (wA (wi S 0 0) 3 (cn S 2) k) 4 (cn S 2) (gi S 1)) 14 (cn S 2) (-1)) 2 (gi S 2 + 1)) 6 (40 * cn S 2 + ca S 5 (cn S 2)) p)) (k := 7)
    rw [h9, c5, Nat.add_zero]
  have g8 : ∀ i, gA (sFeature S k p q) 8 i = if i = 40 * cn S 2 then gi S 1 else gA S 8 i := fun i => by
    have h9 : gA (sFeature S k p q) 8 i = if i = (40 * cn S 2 + ca S 5 (cn S 2)) then gi S 1 else gA S 8 i := gA_p (S := (wA (wA (wi (wA (wA (wA (wi S 0 0) 3 (cn S 2) k) 4 (cn S 2) (gi S 1)) 14 (cn S 2) (-1)) 2 (gi S 2 + 1)) 6 (40 * cn S 2 + ca S 5 (cn S 2)) p) 7 (40 * cn S 2 + ca S 5 (cn S 2)) q)) (k := 8)
    rw [h9, c5, Nat.add_zero]
  have g9 : ∀ i, gA (sFeature S k p q) 9 i = if i = 40 * cn S 2 then gi S 1 else gA S 9 i := fun i => by
    have h9 : gA (sFeature S k p q) 9 i = if i = (40 * cn S 2 + ca S 5 (cn S 2)) then gi S 1 else gA S 9 i := gA_p (S := (wA (wA (wA (wi (wA (wA (wA (wi S 0 0) 3 (cn S 2) k) 4 (cn S 2) (gi S 1)) 14 (cn S 2) (-1)) 2 (gi S 2 + 1)) 6 (40 * cn S 2 + ca S 5 (cn S 2)) p) 7 (40 * cn S 2 + ca S 5 (cn S 2)) q) 8 (40 * cn S 2 + ca S 5 (cn S 2)) (gi S 1))) (k := 9)
    rw [h9, c5, Nat.add_zero]
  obtain ⟨⟨a1, a2, a3, a4, a5, a6, a7, a8, a9⟩, h2, h3, h4, h5, h6, h7, h8, h9, h10, h11, h12⟩ := h
  have e1 : gi S 1 = nI (cn S 1) := a1.1
  have hb1 := a1.2
  have e5 : ca (sFeature S k p q) 5 (cn S 2) = 1 := ca_v (by rw [g5, if_pos rfl]; rfl) (by decide)
  have e10 : ca (sFeature S k p q) 10 (cn S 2) = 0 := by show (gA S 10 (cn S 2)).toNatClampNeg = 0; rw [v10]; rfl
  refine ⟨⟨a1, ⟨by rw [s2]; exact s2g, by rw [s2]; omega⟩, a3, a4, a5, a6, a7, a8, a9⟩, fun f hf => ?_, fun f hf1 hf2 => ?_, fun n hn9 => ?_, h5, fun n hn9 => ?_, fun n hn9 => ?_, h8, h9, h10, h11, fun i hi => ?_, h12.2⟩
  · rw [s2] at hf
    by_cases e : f = cn S 2
    · rw [e]
      refine ⟨Ar_v (n := kn) (by rw [g3, if_pos rfl]; exact ek) hkn (by omega), Ar_v (n := cn S 1) (by rw [g4, if_pos rfl]; exact e1) (Nat.le_refl _) (by show cn S 1 < _; omega), Ar_v (n := 1) (by rw [g5, if_pos rfl]; rfl) (by decide) (by decide), by rw [e5]; decide, Ar_0 v10, fun i hi => ?_, ?_, fun i hi => ?_, Or.inl (by rw [g14, if_pos rfl]), Ar_0 v48, Ar_0 v49, fun t ht => Ar_0 (v47 t ht)⟩
      · rw [e5] at hi
        rw [show i = 0 by omega, Nat.add_zero]
        exact ⟨Ar_v (n := pn) (by rw [g6, if_pos rfl]; exact ep) hpn (by omega), Ar_v (n := qn) (by rw [g7, if_pos rfl]; exact eq) hqn (by omega), Ar_v (n := cn S 1) (by rw [g8, if_pos rfl]; exact e1) hb1 (by omega), Ar_v (n := cn S 1) (by rw [g9, if_pos rfl]; exact e1) (Nat.le_refl _) (by show cn S 1 < _; omega)⟩
      · rw [show ca (sFeature S k p q) 8 (40 * cn S 2) = cn S 1 from ca_v (by rw [g8, if_pos rfl]; exact e1) (by omega)]
        exact Nat.le_refl _
      · rw [e10] at hi; exact absurd hi (Nat.not_lt_zero i)
    · obtain ⟨b1, b2, b3, b4, b5, b6, b7, b8, b9, c1, c2, c3⟩ := h2 f (by omega)
      have cf : ca (sFeature S k p q) 5 f = ca S 5 f := ca_e (by rw [g5, if_neg e])
      have hn40 : ∀ i, i < 40 → ¬ 40 * f + i = 40 * cn S 2 := fun i hi => by omega
      refine ⟨Ar_e (S := S) (by rw [g3, if_neg e]) b1, Ar_e (S := S) (by rw [g4, if_neg e]) b2, Ar_e (S := S) (by rw [g5, if_neg e]) b3, by rw [cf]; exact b4, b5, fun i hi => ?_, ?_, b8, ?_, c1, c2, c3⟩
      · rw [cf] at hi
        have hi40 := hn40 i (by have := b3.2; omega)
        obtain ⟨d1, d2, d3, d4⟩ := b6 i hi
        exact ⟨Ar_e (S := S) (by rw [g6, if_neg hi40]) d1, Ar_e (S := S) (by rw [g7, if_neg hi40]) d2, Ar_e (S := S) (by rw [g8, if_neg hi40]) d3, Ar_e (S := S) (by rw [g9, if_neg hi40]) d4⟩
      · rw [show ca (sFeature S k p q) 8 (40 * f) = ca S 8 (40 * f) from ca_e (by rw [g8, if_neg (show ¬ 40 * f = 40 * cn S 2 by omega)])]; exact b7
      · rcases b9 with z | ⟨z1, z2, z3⟩
        · exact Or.inl (by rw [g14, if_neg e]; exact z)
        · exact Or.inr ⟨Ar_e (S := S) (by rw [g14, if_neg e]) z1, z2, z3⟩
  · rw [s2] at hf1
    obtain ⟨b1, b2⟩ := h3 f (by omega) hf2
    exact ⟨by rw [g5, if_neg (by omega)]; exact b1, b2⟩
  · obtain ⟨b1, b2, b3⟩ := h4 n hn9
    exact ⟨b1, by rw [s2]; exact Nat.lt_succ_of_lt b2, b3⟩
  · obtain ⟨b1, b2, b3⟩ := h6 n hn9
    exact ⟨b1, by rw [s2]; exact Nat.lt_succ_of_lt b2, b3⟩
  · obtain ⟨b1, b2, b3⟩ := h7 n hn9
    exact ⟨b1, by rw [s2]; exact Nat.lt_succ_of_lt b2, b3⟩
  · obtain ⟨b1, b2⟩ := h12.1 i hi
    exact ⟨b1, by rw [s2]; exact Nat.lt_succ_of_lt b2⟩
