def m57 (S : Ms) (o : Nat → Int32) : Ms := (S.1, fun k i => if k = 57 then o i else S.2.1 k i, S.2.2)
theorem wzL_eq {o o' : Nat → Int32} {f : Int32} : ∀ {n}, (∀ i, i < n → o i = o' i) → wzL o f n = wzL o' f n
  | 0, _ => rfl
  | n + 1, h => by rw [wzL, wzL, wzL_eq (fun i hi => h i (by omega)), h n (by omega)]
theorem wzL_sh {o : Nat → Int32} {f : Int32} : ∀ {n}, wzL o f (n + 1) = (decide (o 0 = f) || wzL (fun i => o (i + 1)) f n)
  | 0 => by rw [wzL, wzL, wzL, Bool.false_or, Bool.or_false]
  | n + 1 => by rw [wzL, wzL_sh (n := n), wzL, Bool.or_assoc]
theorem RX_57 {B : Nat → Nat → Nat} {x : Nat} {S : Ms} {M : Mm} (hX : RX B x S M) {o : Nat → Int32} (ho : ∀ i, i < cn S 58 → o i = gA S 57 i) : RX B x (m57 S o) M := by
  obtain ⟨qx, qs, qf, qd, qg, qh, qp, qw, qm, qe, ql, qq, qt, qr, qc, qo, qi⟩ := hX
  refine ⟨qx, qs, qf, qd, qg, qh, qp, qw, qm, qe, ql, qq, qt, qr, qc, ⟨qo.1, fun i hi => ?_, fun f hf => ?_⟩, qi⟩
  · have hi : i < cn S 58 := hi
    rw [show ca (m57 S o) 57 i = ca S 57 i from ca_e (ho i hi)]
    exact qo.2.1 i hi
  · exact (qo.2.2 f hf).trans (congrArg b2i (wzL_eq (fun i hi => (ho i hi).symm)))
theorem INV_57 {S : Ms} (h : INV S) {o : Nat → Int32} (ho : ∀ i, i < cn S 58 → o i = gA S 57 i) : INV (m57 S o) := by
  obtain ⟨⟨a1, a2, a3, a4, a5, a6, a7, a8, a9⟩, h2, h3, h4, h5, h6, h7, h8, h9, h10, h11, h12⟩ := h
  have e : ∀ i, i < cn S 58 → ca (m57 S o) 57 i = ca S 57 i := fun i hi => ca_e (ho i hi)
  refine ⟨⟨a1, a2, a3, a4, a5, a6, a7, a8, a9⟩, h2, h3, h4, h5, h6, h7, h8, h9, h10, h11, fun i hi => ?_, fun i j hi hj => ?_⟩
  · have hi : i < cn S 58 := hi
    obtain ⟨⟨b1, b2⟩, b3⟩ := h12.1 i hi
    refine ⟨⟨?_, ?_⟩, ?_⟩
    · rw [e i hi]; exact (ho i hi).trans b1
    · rw [e i hi]; exact b2
    · rw [e i hi]; exact b3
  · have hj : j < cn S 58 := hj
    rw [e i (by omega), e j hj]; exact h12.2 i j hi hj
def o1 (S : Ms) : Ms := wi (wL (m57 S (fun i => gA S 57 (i + 1))) 56 (ca S 57 0) (sneA S (ca S 57 0) 0)) 58 (nI (cn S 58 - 1))
def oN (S : Ms) : Nat → Ms
  | 0 => S
  | k + 1 => o1 (oN S k)
theorem o1_cn {S : Ms} (h : INV S) : cn (o1 S) 58 = cn S 58 - 1 := by
  have h9 := h.1.2.2.2.2.2.2.2.1.2
  show (nI (cn S 58 - 1)).toNatClampNeg = _
  exact nI_clamp (by omega)
theorem INV_o1 {S : Ms} (h : INV S) (hn : 0 < cn S 58) : INV (o1 S) := by
  have e1 := o1_cn h
  obtain ⟨⟨a1, a2, a3, a4, a5, a6, a7, a8, a9⟩, h2, h3, h4, h5, h6, h7, h8, h9, h10, h11, h12⟩ := h
  have e3 : ∀ i, ca (o1 S) 57 i = ca S 57 (i + 1) := fun _ => rfl
  have hf := (h12.1 0 hn).2
  refine ⟨⟨a1, a2, a3, a4, a5, a6, a7, ⟨by rw [e1]; rfl, by rw [e1]; have := a8.2; omega⟩, a9⟩, h2, fun f hf1 hf2 => ?_, h4, h5, h6, h7, h8, h9, h10, h11, fun i hi => ?_, fun i j hi hj => ?_⟩
  · obtain ⟨b1, b2, b3, b4, b5, b6⟩ := h3 f hf1 hf2
    have hf1 : cn S 2 ≤ f := hf1
    refine ⟨b1, b2, b3, b4, ?_, b6⟩
    have h9 : gL (o1 S) 56 f = if f = ca S 57 0 then sneA S (ca S 57 0) 0 else gL S 56 f := gL_w (S := m57 S (fun i => gA S 57 (i + 1))) (k := 56)
    rw [h9, if_neg (by omega)]; exact b5
  · rw [e1] at hi
    exact h12.1 (i + 1) (by omega)
  · rw [e1] at hj
    rw [e3, e3]
    exact h12.2 (i + 1) (j + 1) (by omega) (by omega)
theorem eqF_oN (S : Ms) : ∀ k, eqF S (oN S k) ∧ (∀ j, j ≠ 58 → gi (oN S k) j = gi S j) ∧ (∀ j, j ≠ 57 → gA (oN S k) j = gA S j) ∧ ∀ i, gA (oN S k) 57 i = gA S 57 (i + k)
  | 0 => ⟨⟨rfl, rfl, rfl, rfl, ⟨rfl, rfl, rfl, rfl, rfl⟩, ⟨rfl, rfl, rfl, rfl, rfl, rfl⟩, rfl, rfl, rfl, rfl⟩, fun _ _ => rfl, fun _ _ => rfl, fun _ => rfl⟩
  | k + 1 => by
    obtain ⟨h1, h2, h3, h4⟩ := eqF_oN S k
    refine ⟨h1, fun j hj => ?_, fun j hj => ?_, fun i => ?_⟩
    · show gi (o1 (oN S k)) j = _
      unfold o1
      rw [gi_wi, if_neg hj]; exact h2 j hj
    · show (fun i => if j = 57 then _ else gA (oN S k) j i) = _
      funext i
      rw [if_neg hj, h3 j hj]
    · show gA (oN S k) 57 (i + 1) = _
      rw [h4, show i + 1 + k = i + (k + 1) by omega]
theorem oN_sne (S : Ms) (k : Nat) : sneA (oN S k) = sneA S := by
  obtain ⟨h1, h2, h3, -⟩ := eqF_oN S k
  exact sneA_eq h1 (h2 1 (by decide)) (h3 48 (by decide)) (h3 49 (by decide))
theorem oN_L (S : Ms) : ∀ k, gL (oN S k) = gL (sgL S k)
  | 0 => rfl
  | k + 1 => by
    have h1 : ca (oN S k) 57 0 = ca S 57 k := by
      unfold ca
      rw [(eqF_oN S k).2.2.2 0, Nat.zero_add]
    funext j
    show gL (wL (m57 (oN S k) _) 56 (ca (oN S k) 57 0) (sneA (oN S k) (ca (oN S k) 57 0) 0)) j = gL (wL (sgL S k) 56 (ca S 57 k) (sneA S (ca S 57 k) 0)) j
    rw [h1, oN_sne, gL_wL, gL_wL, show gL (m57 (oN S k) (fun i => gA (oN S k) 57 (i + 1))) = gL (oN S k) from rfl, oN_L S k]
theorem oN_inv {S : Ms} (h : INV S) : ∀ k, k ≤ cn S 58 → INV (oN S k) ∧ cn (oN S k) 58 = cn S 58 - k
  | 0, _ => ⟨h, rfl⟩
  | k + 1, hk => by
    obtain ⟨h1, h2⟩ := oN_inv h k (by omega)
    have h3 : 0 < cn (oN S k) 58 := by rw [h2]; omega
    refine ⟨INV_o1 h1 h3, ?_⟩
    show cn (o1 (oN S k)) 58 = _
    rw [o1_cn h1, h2]; omega
theorem oN_58 {S : Ms} (h : INV S) (k : Nat) (hk : k ≤ cn S 58) : gi (oN S k) 58 = nI (cn S 58 - k) := by
  obtain ⟨h1, h2⟩ := oN_inv h k hk
  rw [h1.1.2.2.2.2.2.2.2.1.1, h2]
theorem osL_g (S : Ms) (many : Nat) : ∀ k, (∀ j, j ≠ 57 → gA (osL S many k) j = gA S j) ∧ gL (osL S many k) = gL S ∧ ∀ i, i < k → gA (osL S many k) 57 i = gA S 57 (i + many)
  | 0 => ⟨fun _ _ => rfl, rfl, fun _ h => absurd h (Nat.not_lt_zero _)⟩
  | k + 1 => by
    obtain ⟨h1, h2, h3⟩ := osL_g S many k
    refine ⟨fun j hj => ?_, h2, fun i hi => ?_⟩
    · rw [osL, gA_wA, if_neg hj]; exact h1 j hj
    · rw [osL, gA_wA, if_pos rfl]
      unfold pu
      by_cases e : i = k
      · rw [if_pos e, e]
      · rw [if_neg e]; exact h3 i (by omega)
theorem Ms_ext {S S' : Ms} (h1 : ∀ k, gi S k = gi S' k) (h2 : ∀ k, gA S k = gA S' k) (h3 : gL S = gL S') : S = S' :=
  Prod.ext (funext h1) (Prod.ext (funext h2) h3)
theorem gA_m57 {S : Ms} {o : Nat → Int32} {k : Nat} : gA (m57 S o) k = if k = 57 then o else gA S k := by
  funext i
  show (if k = 57 then o i else gA S k i) = _
  split <;> rfl
theorem nI_subN {a b : Nat} (h : b ≤ a) : nI a - nI b = nI (a - b) := by
  have h1 : nI a = nI (a - b) + nI b := by rw [nI_add, show a - b + b = a by omega]
  rw [h1, Int32.add_sub_cancel]
def dN (S : Ms) : Ms := wi (oN S (manyA S)) 1 (gi S 1 + 1)
theorem many_le (S : Ms) : manyA S ≤ cn S 58 ∧ manyA S ≤ cn S 59 := by
  unfold manyA; split <;> omega
theorem psA_57 {S : Ms} (h : INV S) : psA S = m57 (dN S) (gA (psA S) 57) ∧ ∀ i, i < cn (dN S) 58 → gA (psA S) 57 i = gA (dN S) 57 i := by
  have hm := (many_le S).1
  obtain ⟨e1, e2, e3, e4⟩ := eqF_oN S (manyA S)
  obtain ⟨g1, g2, g3⟩ := osL_g (wi (sgL S (manyA S)) 58 (gi S 58 - nI (manyA S))) (manyA S) (cn S 58 - manyA S)
  obtain ⟨f1, -⟩ := osL_f (wi (sgL S (manyA S)) 58 (gi S 58 - nI (manyA S))) (manyA S) (cn S 58 - manyA S)
  obtain ⟨-, s1, s2⟩ := sgL_f S (manyA S)
  refine ⟨Ms_ext (fun k => ?_) (fun k => ?_) ?_, fun i hi => ?_⟩
  · show gi (psA S) k = gi (dN S) k
    unfold psA dN
    rw [gi_wi, gi_wi]
    by_cases c1 : k = 1
    · rw [if_pos c1, if_pos c1]
    · rw [if_neg c1, if_neg c1, f1, gi_wi, s1]
      by_cases c2 : k = 58
      · rw [if_pos c2, c2, oN_58 h _ hm, h.1.2.2.2.2.2.2.2.1.1, nI_subN hm]
      · rw [if_neg c2, e2 k c2]
  · rw [gA_m57]
    by_cases c : k = 57
    · rw [if_pos c, c]
    · rw [if_neg c]
      show gA (osL _ _ _) k = gA (oN S (manyA S)) k
      rw [g1 k c, e3 k c]
      exact congrFun s2 k
  · show gL (osL _ _ _) = gL (oN S (manyA S))
    rw [g2, oN_L]; rfl
  · have hi : i < cn (oN S (manyA S)) 58 := hi
    rw [(oN_inv h _ hm).2] at hi
    show gA (osL _ _ _) 57 i = gA (oN S (manyA S)) 57 i
    rw [g3 i hi, e4]
    exact congrFun (congrFun s2 57) _
theorem Ar.mono {S S' : Ms} {k j b b' : Nat} (h : Ar S k j b) (hg : gA S' k j = gA S k j) (hb : b ≤ b') : Ar S' k j b' := by
  unfold Ar at h ⊢
  rw [ca_e hg, hg]; exact ⟨h.1, by omega⟩
theorem INV_day {S : Ms} (h : INV S) (hn : cn S 1 < 9999) : INV (wi S 1 (gi S 1 + 1)) ∧ cn (wi S 1 (gi S 1 + 1)) 1 = cn S 1 + 1 := by
  obtain ⟨⟨a1, a2, a3, a4, a5, a6, a7, a8, a9⟩, h2, h3, h4, h5, h6, h7, h8, h9, h10, h11, h12⟩ := h
  have e1 : cn (wi S 1 (gi S 1 + 1)) 1 = cn S 1 + 1 := by
    show (gi S 1 + 1).toNatClampNeg = _
    rw [a1.1, nI_s, nI_clamp (by omega)]
  have eg : gi (wi S 1 (gi S 1 + 1)) 1 = nI (cn S 1 + 1) := by
    show gi S 1 + 1 = _
    rw [a1.1, nI_s]
  have up : ∀ {k j}, Ar S k j (cn S 1) → Ar (wi S 1 (gi S 1 + 1)) k j (cn (wi S 1 (gi S 1 + 1)) 1) := fun z => z.mono rfl (by rw [e1]; omega)
  refine ⟨⟨⟨⟨by rw [e1]; exact eg, by rw [e1]; omega⟩, a2, a3, a4, a5, a6, a7, a8, a9⟩, fun f hf => ?_, h3, fun n hn => ?_, fun l hl => ?_, fun n hn => ?_, fun p hp => ?_, h8, h9, h10, fun s hs => up (h11 s hs), h12⟩, e1⟩
  · obtain ⟨b1, b2, b3, b4, b5, b6, b7, b8, b9, c1, c2, c3⟩ := h2 f hf
    refine ⟨b1, up b2, b3, b4, b5, fun i hi => ⟨(b6 i hi).1, (b6 i hi).2.1, (b6 i hi).2.2.1, up (b6 i hi).2.2.2⟩, ?_, fun i hi => ⟨(b8 i hi).1, (b8 i hi).2.1, up (b8 i hi).2.2⟩, ?_, c1, c2, c3⟩
    · rw [e1]; exact Nat.le_succ_of_le b7
    · exact b9.imp id (fun z => ⟨z.1, up z.2.1, z.2.2⟩)
  · obtain ⟨b1, b2, b3, b4, b5, b6, b7⟩ := h4 n hn
    exact ⟨b1, b2, b3, b4, b5, up b6, b7.imp id up⟩
  · obtain ⟨b1, b2, b3, b4, b5, b6, b7⟩ := h5 l hl
    exact ⟨b1, b2, b3, b4, b5, b6, up b7⟩
  · obtain ⟨b1, b2, b3, b4, b5⟩ := h6 n hn
    exact ⟨b1, b2, b3, b4, up b5⟩
  · obtain ⟨b1, b2, b3, b4, b5, b6, b7, b8, b9, c1, c2⟩ := h7 p hp
    exact ⟨b1, b2, b3, b4, b5, b6, b7, b8, b9, c1.imp id up, c2⟩
theorem INV_psA {S : Ms} (h : INV S) (hn : cn S 1 < 9999) : INV (psA S) ∧ cn (psA S) 1 = cn S 1 + 1 := by
  obtain ⟨e1, e2⟩ := psA_57 h
  have hO := (oN_inv h _ (many_le S).1).1
  have h1 : gi (oN S (manyA S)) 1 = gi S 1 := (eqF_oN S (manyA S)).2.1 1 (by decide)
  have h1c : cn (oN S (manyA S)) 1 = cn S 1 := by unfold cn; rw [h1]
  obtain ⟨d1, d2⟩ := INV_day hO (by rw [h1c]; exact hn)
  rw [h1, h1c] at d2
  rw [h1] at d1
  exact ⟨by rw [e1]; exact INV_57 d1 e2, d2⟩
theorem INV_psN {S : Ms} (h : INV S) : ∀ j, cn S 1 + j ≤ 9999 → INV (psN (wi S 0 0) j) ∧ cn (psN (wi S 0 0) j) 1 = cn S 1 + j
  | 0, _ => ⟨INV_wi0 0 h, rfl⟩
  | j + 1, hj => by
    obtain ⟨h1, h2⟩ := INV_psN h j (by omega)
    obtain ⟨h3, h4⟩ := INV_psA h1 (by omega)
    exact ⟨h3, by show cn (psA _) 1 = _; rw [h4, h2]; omega⟩
theorem RX_day {B : Nat → Nat → Nat} {x : Nat} {S : Ms} {M : Mm} (hX : RX B x S M) (hV : INV S) {v : Int32} : RX B x (wi S 1 v) (sI M x 10 v) ∧ agr TC M (sI M x 10 v) := by
  obtain ⟨qx, qs, qf, qd, qg, qh, qp, qw, qm, qe, ql, qq, qt, qr, qc, qo, qi⟩ := id hX
  have k11 : kd M x % 1000 = 11 := by rw [qx.1]
  have g : agr (fun c k => c = 11 ∧ k = 10) M (sI M x 10 v) := agr.sI ⟨k11, rfl⟩
  obtain ⟨y_X, y_S, y_F, y_D, y_G, y_H, y_P, y_W, y_M, y_E, y_L, y_Q, y_T, y_R, y_C, y_O, y_I⟩ := hX.fr hV g
  refine ⟨⟨?_, ?_, ?_, ?_, ?_, ?_, ?_, ?_, ?_, ?_, ?_, ?_, ?_, ?_, ?_, ?_, ?_⟩, g.mono (fun c k z => by unfold TC; omega)⟩
  · exact y_X (fun c k z => by unfold uX at z; dsimp only; omega)
  · obtain ⟨a1, a2, a3, a4⟩ := qs
    exact ⟨fI_s, (fI_k (by decide)).trans a2, (fI_k (by decide)).trans a3, (fI_k (by decide)).trans a4⟩
  · exact y_F (fun c k z => by unfold uF at z; dsimp only; omega)
  · exact y_D (fun c k z => by unfold uD at z; dsimp only; omega)
  · exact y_G (fun c k z => by unfold uG at z; dsimp only; omega)
  · exact y_H (fun c k z => by unfold uH at z; dsimp only; omega)
  · exact y_P (fun c k z => by unfold uPl at z; dsimp only; omega)
  · exact y_W (fun c k z => by unfold uW at z; dsimp only; omega)
  · exact y_M (fun c k z => by unfold uM at z; dsimp only; omega)
  · exact y_E (fun c k z => by unfold uE at z; dsimp only; omega)
  · exact y_L (fun c k z => by unfold uLw at z; dsimp only; omega)
  · exact y_Q (fun c k z => by unfold uQ at z; dsimp only; omega)
  · exact y_T (fun c k z => by unfold uT at z; dsimp only; omega)
  · exact y_R (fun c k z => by unfold uR at z; dsimp only; omega)
  · exact y_C (fun c k z => by unfold uC at z; dsimp only; omega)
  · exact y_O (fun c k z => by unfold uO at z; dsimp only; omega)
  · exact y_I (fun c k z => by unfold uSg at z; dsimp only; omega)
def rmO (B : Nat → Nat → Nat) (M : Mm) : Mm := sN (sW M (B 405 0) (fun i => fR M (B 405 0) (i + 1))) (B 405 0) (ln M (B 405 0) - 1)
theorem rmO_agr {B : Nat → Nat → Nat} {M : Mm} (h : kd M (B 405 0) = 405) : agr (fun c _ => c = 405 ∨ c = 1405) M (rmO B M) :=
  (agr.sW (fun k => Or.inl (by rw [h]))).tr (agr.sN (Or.inr (by show kd M (B 405 0) % 1000 + 1000 = 1405; rw [h])))
theorem RY_rm {B : Nat → Nat → Nat} {x : Nat} {S : Ms} {M : Mm} (hX : RX B x S M) (hV : INV S) : RY B x S (rmO B M) := by
  obtain ⟨qx, qs, qf, qd, qg, qh, qp, qw, qm, qe, ql, qq, qt, qr, qc, qo, qi⟩ := id hX
  obtain ⟨y_X, y_S, y_F, y_D, y_G, y_H, y_P, y_W, y_M, y_E, y_L, y_Q, y_T, y_R, y_C, y_O, y_I⟩ := hX.fr hV (rmO_agr (qx.k 5 (by decide)))
  refine ⟨?_, ?_, ?_, ?_, ?_, ?_, ?_, ?_, ?_, ?_, ?_, ?_, ?_, ?_, ?_, ?_, ?_⟩
  · exact y_X (fun c k z => by unfold uX at z; dsimp only; omega)
  · exact y_S (fun c k z => by unfold uS at z; dsimp only; omega)
  · exact y_F (fun c k z => by unfold uF at z; dsimp only; omega)
  · exact y_D (fun c k z => by unfold uD at z; dsimp only; omega)
  · exact y_G (fun c k z => by unfold uG at z; dsimp only; omega)
  · exact y_H (fun c k z => by unfold uH at z; dsimp only; omega)
  · exact y_P (fun c k z => by unfold uPl at z; dsimp only; omega)
  · exact y_W (fun c k z => by unfold uW at z; dsimp only; omega)
  · exact y_M (fun c k z => by unfold uM at z; dsimp only; omega)
  · exact y_E (fun c k z => by unfold uE at z; dsimp only; omega)
  · exact y_L (fun c k z => by unfold uLw at z; dsimp only; omega)
  · exact y_Q (fun c k z => by unfold uQ at z; dsimp only; omega)
  · exact y_T (fun c k z => by unfold uT at z; dsimp only; omega)
  · exact y_R (fun c k z => by unfold uR at z; dsimp only; omega)
  · exact y_C (fun c k z => by unfold uC at z; dsimp only; omega)
  · trivial
  · exact y_I (fun c k z => by unfold uSg at z; dsimp only; omega)
theorem RX_o1 {B : Nat → Nat → Nat} {x : Nat} {S : Ms} {M : Mm} (hX : RX B x S M) (hV : INV S) (hn : 0 < cn S 58) {j : Nat} {v : Int64} (hjj : ca S 57 0 = j) (hv : v = sneA S j 0) : RX B x (o1 S) (sI (sL (rmO B M) (B 4 j) 14 v) (B 4 j) 13 0) ∧ agr TC M (sI (sL (rmO B M) (B 4 j) 14 v) (B 4 j) 13 0) := by
  obtain ⟨qx, qs, qf, qd, qg, qh, qp, qw, qm, qe, ql, qq, qt, qr, qc, qo, qi⟩ := id hX
  have hj : j < cn S 2 := by rw [← hjj]; exact (hV.2.2.2.2.2.2.2.2.2.2.2.1 0 hn).2
  have k405 : kd M (B 405 0) = 405 := qx.k 5 (by decide)
  have k4 : kd M (B 4 j) % 1000 = 4 := qf.k4 hj
  have g : agr (fun c k => c = 405 ∨ c = 1405 ∨ (c = 4 ∧ 13 ≤ k ∧ k ≤ 14)) M (sI (sL (rmO B M) (B 4 j) 14 v) (B 4 j) 13 0) := (((rmO_agr k405).mono (fun c k z => by omega)).tr (agr.sL (Or.inr (Or.inr ⟨k4, by decide, by decide⟩)))).tr (agr.sI (Or.inr (Or.inr ⟨k4, by decide, by decide⟩)))
  obtain ⟨y_X, y_S, y_F, y_D, y_G, y_H, y_P, y_W, y_M, y_E, y_L, y_Q, y_T, y_R, y_C, y_O, y_I⟩ := hX.fr hV g
  refine ⟨⟨?_, ?_, ?_, ?_, ?_, ?_, ?_, ?_, ?_, ?_, ?_, ?_, ?_, ?_, ?_, ?_, ?_⟩, g.mono (fun c k z => by unfold TC; omega)⟩
  · exact y_X (fun c k z => by unfold uX at z; dsimp only; omega)
  · exact y_S (fun c k z => by unfold uS at z; dsimp only; omega)
  · exact y_F (fun c k z => by unfold uF at z; dsimp only; omega)
  · exact y_D (fun c k z => by unfold uD at z; dsimp only; omega)
  · exact y_G (fun c k z => by unfold uG at z; dsimp only; omega)
  · exact y_H (fun c k z => by unfold uH at z; dsimp only; omega)
  · exact y_P (fun c k z => by unfold uPl at z; dsimp only; omega)
  · exact y_W (fun c k z => by unfold uW at z; dsimp only; omega)
  · exact y_M (fun c k z => by unfold uM at z; dsimp only; omega)
  · exact y_E (fun c k z => by unfold uE at z; dsimp only; omega)
  · exact y_L (fun c k z => by unfold uLw at z; dsimp only; omega)
  · exact y_Q (fun c k z => by unfold uQ at z; dsimp only; omega)
  · exact y_T (fun c k z => by unfold uT at z; dsimp only; omega)
  · exact y_R (fun c k z => by unfold uR at z; dsimp only; omega)
  · exact y_C (fun c k z => by unfold uC at z; dsimp only; omega)
  · have h9 : ∀ i, gA (o1 S) 57 i = gA S 57 (i + 1) := fun _ => rfl
    have hn5 : ∀ f, f < cn S 2 → B 4 f ≠ B 405 0 := fun f hf z => by
      have h8 := (qf.2 f hf).2.1
      rw [z, k405] at h8; omega
    refine ⟨?_, fun i hi => ?_, fun f hf => ?_⟩
    · rw [o1_cn hV]
      show ln (sN _ (B 405 0) (ln M (B 405 0) - 1)) (B 405 0) = _
      rw [ln_sN, if_pos rfl, qo.1]
    · rw [o1_cn hV] at hi
      show fR (sW M (B 405 0) (fun i => fR M (B 405 0) (i + 1))) (B 405 0) i = some (B 4 (ca S 57 (i + 1)))
      rw [fR_sW, if_pos rfl]
      exact qo.2.1 (i + 1) (by omega)
    · have hf : f < cn S 2 := hf
      have e1 : cn S 58 = (cn S 58 - 1) + 1 := by omega
      have h8 := qo.2.2 f hf
      rw [e1, wzL_sh] at h8
      show fI (sI (sL (rmO B M) (B 4 j) 14 v) (B 4 j) 13 0) (B 4 f) 13 = b2i (wzL (fun i => gA S 57 (i + 1)) (nI f) (cn (o1 S) 58))
      rw [o1_cn hV]
      by_cases e : f = j
      · rw [e, fI_s, wzL_no]
        · rfl
        · intro i hi z
          obtain ⟨z1, z2⟩ := hV.2.2.2.2.2.2.2.2.2.2.2.1 (i + 1) (by omega)
          have z : gA S 57 (i + 1) = nI j := z
          rw [z1.1] at z
          have h24 := hV.c2
          have z3 := (nI_eq (by have := z1.2; omega) (by omega)).mp z
          exact hV.2.2.2.2.2.2.2.2.2.2.2.2 0 (i + 1) (by omega) (by omega) (hjj.trans z3.symm)
      · have hj0 : gA S 57 0 ≠ nI f := fun z => by
          rw [(hV.2.2.2.2.2.2.2.2.2.2.2.1 0 hn).1.1] at z
          have h24 := hV.c2
          have z3 := (nI_eq (by omega) (by omega)).mp z
          omega
        rw [decide_eq_false hj0, Bool.false_or] at h8
        rw [fI_o (qf.ne4 hf hj e)]
        exact h8
  · intro f hf
    have hf : f < cn S 2 := hf
    have h9 : gL (o1 S) 56 f = if f = ca S 57 0 then sneA S (ca S 57 0) 0 else gL S 56 f := gL_w (S := m57 S (fun i => gA S 57 (i + 1))) (k := 56)
    rw [h9]
    show fL (sL (rmO B M) (B 4 j) 14 v) (B 4 f) 14 = _
    rw [fL_sL]
    by_cases e : f = j
    · rw [if_pos ⟨by rw [e], rfl⟩, if_pos (e.trans hjj.symm), hv, hjj]
    · rw [if_neg (fun z => qf.ne4 hf hj e z.1), if_neg (fun z => e (z.trans hjj))]
      exact qi f hf
