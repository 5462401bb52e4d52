/-! ===== what a call does keeps all that holds; an exception's number is no answer (by hand) ===== -/
def OK (S : Ms) (q : Int64 × Ms) : Prop := INV q.2 ∧ JV q.2 ∧ gi q.2 1 = gi S 1 ∧ (q.1 = -9999999 → q.2 = S)
theorem ok_w {S s : Ms} {c : Int32} {v : Int64} (h : INV S) (J : JV S) (hi : c = 0 → INV s) (hj : c = 0 → JV s) (hg : gi s 1 = gi S 1) (hv : c = 0 → v ≠ -9999999) : OK S (rz c v S s) := by
  unfold rz OK
  by_cases e : c = 0
  · rw [if_pos e]; exact ⟨hi e, hj e, hg, fun z => absurd z (hv e)⟩
  · rw [if_neg e]; exact ⟨h, J, rfl, fun _ => rfl⟩
theorem ok_r {S : Ms} {c : Int32} {v : Int64} (h : INV S) (J : JV S) : OK S (rz c v S S) := by
  unfold rz OK
  by_cases e : c = 0
  · rw [if_pos e]; exact ⟨h, J, rfl, fun _ => rfl⟩
  · rw [if_neg e]; exact ⟨h, J, rfl, fun _ => rfl⟩
theorem rz_S {c : Int32} {v : Int64} {S : Ms} : (rz c v S S).2 = S := by unfold rz; split <;> rfl
theorem l0n : (0 : Int64) ≠ -9999999 := by decide
theorem nn {n : Nat} (h : n < 2 ^ 31) : (nI n).toInt64 ≠ -9999999 := by
  intro e
  rw [i2l_n h] at e
  have h9 := congrArg Int64.toInt e
  rw [pk_lT (by omega), show ((-9999999 : Int64)).toInt = -9999999 by decide] at h9
  omega
theorem nv {v : Int32} {n : Nat} (h : v = nI n) (hn : n < 2 ^ 31) : v.toInt64 ≠ -9999999 := by rw [h]; exact nn hn
theorem ok_feature {S : Ms} (h : INV S) (J : JV S) (a b c : Int32) (w : Int64) : OK S (g_feature a b c w S) :=
  ok_w h J (I_Feature h) (J_Feature h J) rfl (fun _ => nn (by have := h.1.2.1.2; omega))
theorem ok_move {S : Ms} (h : INV S) (J : JV S) (a b c : Int32) (w : Int64) : OK S (g_move a b c w S) :=
  ok_w h J (I_Move h) (J_Move h J) rfl (fun _ => l0n)
theorem ok_part {S : Ms} (h : INV S) (J : JV S) (a b c : Int32) (w : Int64) : OK S (g_part a b c w S) :=
  ok_w h J (I_Part h) (J_Part h J) rfl (fun _ => l0n)
theorem ok_end {S : Ms} (h : INV S) (J : JV S) (a b c : Int32) (w : Int64) : OK S (g_end a b c w S) :=
  ok_w h J (I_End h) (fun _ => J) rfl (fun _ => l0n)
theorem ok_name {S : Ms} (h : INV S) (J : JV S) (a b c : Int32) (w : Int64) : OK S (g_name a b c w S) :=
  ok_w h J (I_Name h) (fun _ => J) rfl (fun _ => nn (by have := h.1.2.2.1.2; omega))
theorem ok_law {S : Ms} (h : INV S) (J : JV S) (a b c : Int32) (w : Int64) : OK S (g_law a b c w S) :=
  ok_w h J (I_Lawc h) (fun _ => J) rfl (fun _ => nn (by have := h.1.2.2.2.1.2; omega))
theorem ok_except {S : Ms} (h : INV S) (J : JV S) (a b c : Int32) (w : Int64) : OK S (g_except a b c w S) :=
  ok_w h J (I_Except h) (fun _ => J) rfl (fun _ => l0n)
theorem ok_petition {S : Ms} (h : INV S) (J : JV S) (a b c : Int32) (w : Int64) : OK S (g_petition a b c w S) :=
  ok_w h J (I_Petition h) (J_Petition h J) rfl (fun _ => nn (by have := h.c36; omega))
theorem ok_vote {S : Ms} (h : INV S) (J : JV S) (a b c : Int32) (w : Int64) : OK S (g_vote a b c w S) := by
  refine ok_w h J (I_Vote h) (J_Vote h J) (by unfold sVote; split <;> rfl) (fun hc => ?_)
  unfold cVote at hc
  split at hc
  · exact absurd hc (by decide)
  rename_i q1
  have q1 := nt q1
  rw [Bool.and_eq_true] at q1
  obtain ⟨j, hj, rfl⟩ := isP_ex h q1.1
  obtain ⟨n, hn, rfl⟩ := in_ex (b := 8) (by decide) q1.2
  have hcl : (nI j).toNatClampNeg = j := nI_clamp (by have := h.c36; omega)
  obtain ⟨-, -, -, -, -, -, p42, p43, -⟩ := h.2.2.2.2.2.2.1 j hj
  refine nv rfl ?_
  rw [hcl, nI_clamp (show n < 2 ^ 31 by omega)]
  have hu : ca S 42 j < 512 := by have := p42.2; omega
  have hv : ca S 43 j < 512 := by have := p43.2; omega
  have hb : ca S 42 j ||| ca S 43 j ||| 2 ^ n < 512 := Nat.or_lt_two_pow (n := 9) (Nat.or_lt_two_pow (n := 9) hu hv) (Nat.pow_lt_pow_right (by decide) (by omega))
  have := pop_le (x := ca S 42 j ||| ca S 43 j ||| 2 ^ n) (by omega)
  omega
theorem ok_protest {S : Ms} (h : INV S) (J : JV S) (a b c : Int32) (w : Int64) : OK S (g_protest a b c w S) :=
  ok_w h J (I_Protest h) (J_Protest h J) rfl (fun _ => by split <;> decide)
theorem ok_decide {S : Ms} (h : INV S) (J : JV S) (a b c : Int32) (w : Int64) : OK S (g_decide a b c w S) :=
  ok_w h J (I_Decide h) (J_Decide h J) (by unfold sDecide; split <;> rfl) (fun _ => by unfold vDecide; split <;> decide)
theorem ok_appeal {S : Ms} (h : INV S) (J : JV S) (a b c : Int32) (w : Int64) : OK S (g_appeal a b c w S) := by
  refine ok_w h J (I_Appeal h) (J_Appeal h J) rfl (fun hc => ?_)
  unfold cAppeal at hc
  split at hc
  · exact absurd hc (by decide)
  rename_i q1
  split at hc
  · exact absurd hc (by decide)
  rename_i q2
  obtain ⟨j, hj, rfl⟩ := isP_ex h (nt q1)
  have hcl : (nI j).toNatClampNeg = j := nI_clamp (by have := h.c36; omega)
  rw [hcl] at q2
  have q2 := Decidable.not_not.mp q2
  have z41 : ca S 41 j = 1 := by unfold ca; rw [q2]; rfl
  rcases (J.2.2.2 j hj).2 with z | ⟨-, z2, -⟩
  · omega
  · unfold vAppeal
    rw [hcl, z2.1, h.1.1.1, nI_subN z2.2]
    exact nn (by have := h.1.1.2; omega)
theorem ok_census {S : Ms} (h : INV S) (J : JV S) (a b c : Int32) (w : Int64) : OK S (g_census a b c w S) := by
  refine ok_w h J (I_Census h) (fun _ => J) rfl (fun hc => ?_)
  unfold cCensus at hc
  split at hc
  · exact absurd hc (by decide)
  rename_i q1
  have q1 := nt q1
  rw [Bool.and_eq_true] at q1
  obtain ⟨j, hj, rfl⟩ := isF_ex h q1.1
  obtain ⟨t, ht, rfl⟩ := in_ex (b := 3) (by decide) q1.2
  have hcl : (nI j).toNatClampNeg = j := nI_clamp (by have := h.1.2.1.2; omega)
  have h47 := (h.2.1 j hj).2.2.2.2.2.2.2.2.2.2.2 t (by omega)
  unfold vCensus
  rw [hcl, nI_clamp (show t < 2 ^ 31 by omega), h47.1]
  exact nn (by have := h47.2; omega)
theorem ok_dispute {S : Ms} (h : INV S) (J : JV S) (a b c : Int32) (w : Int64) : OK S (g_dispute a b c w S) :=
  ok_w h J (I_Dispute h) (fun _ => J) rfl (fun _ => l0n)
theorem ok_table {S : Ms} (h : INV S) (J : JV S) (a b c : Int32) (w : Int64) : OK S (g_table a b c w S) := by
  refine ok_w h J (I_Table h) (fun _ => J) rfl (fun hc => ?_)
  unfold cTable at hc
  split at hc
  · exact absurd hc (by decide)
  rename_i q1
  split at hc
  rotate_left
  · exact absurd hc (by decide)
  rename_i q2
  obtain ⟨t, ht, rfl⟩ := in_ex (b := 3) (by decide) (nt q1)
  rw [Bool.and_eq_true] at q2
  obtain ⟨l, hl1, hl2, rfl⟩ := in1_ex (b := 26) (by decide) q2.1
  have h50 := (h.2.2.2.2.2.2.2.2.1 t l (by omega) (by omega)).1
  unfold vTable
  rw [nI_clamp (show t < 2 ^ 31 by omega), nI_clamp (show l < 2 ^ 31 by omega), h50.1]
  exact nn (by have := h50.2; omega)
theorem ok_write {S : Ms} (h : INV S) (J : JV S) (a b c : Int32) (w : Int64) : OK S (g_write a b c w S) := ok_r h J
theorem ok_back {S : Ms} (h : INV S) (J : JV S) (a b c : Int32) (w : Int64) : OK S (g_back a b c w S) := ok_r h J
theorem ok_find {S : Ms} (h : INV S) (J : JV S) (a b c : Int32) (w : Int64) : OK S (g_find a b c w S) := ok_r h J
theorem ok_reading {S : Ms} (h : INV S) (J : JV S) (a b c : Int32) (w : Int64) : OK S (g_reading a b c w S) :=
  ok_w h J (I_Reading h) (fun _ => J) rfl (fun _ => nn (by have := h.1.2.2.2.2.2.2.1.2; omega))
theorem ok_pull {S : Ms} (h : INV S) (J : JV S) (a b c : Int32) (w : Int64) : OK S (g_pull a b c w S) := by
  refine ok_w h J (I_Pull h) (fun _ => J) rfl (fun hc => ?_)
  unfold cPull at hc
  split at hc
  rotate_left
  · exact absurd hc (by decide)
  rename_i q1
  obtain ⟨s, hs, rfl⟩ := in_ex (b := 3) (by decide) q1
  have h55 := h.2.2.2.2.2.2.2.2.2.2.1 s (by omega)
  unfold vPull
  rw [nI_clamp (show s < 2 ^ 31 by omega), h55.1, h.1.1.1, nI_subN h55.2]
  exact nn (by have := h.1.1.2; omega)
theorem ok_order {S : Ms} (h : INV S) (J : JV S) (a b c : Int32) (w : Int64) : OK S (g_order a b c w S) :=
  ok_w h J (I_Order h) (fun _ => J) rfl (fun _ => nn (by have := h.1.2.2.2.2.2.2.2.1.2; omega))
theorem ok_budget {S : Ms} (h : INV S) (J : JV S) (a b c : Int32) (w : Int64) : OK S (g_budget a b c w S) := by
  refine ok_w h J (I_Budget h) (fun _ => J) rfl (fun _ => ?_)
  have h59 := h.1.2.2.2.2.2.2.2.2
  unfold vBudget
  rw [h59.1]
  exact nn (by have := h59.2; omega)
