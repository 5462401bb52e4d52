theorem RX_rej {B : Nat → Nat → Nat} {x : Nat} {S : Ms} {M : Mm} (hX : RX B x S M) (hV : INV S) {j : Nat} (hj : j < cn S 36) : RX B x (wA (wA (wi S 0 0) 41 j 2) 45 j (gi S 1)) (sI (sI M (elt M (B 402 0) j) 8 (gi S 1)) (elt M (B 402 0) j) 4 2) ∧ agr TC M (sI (sI M (elt M (B 402 0) j) 8 (gi S 1)) (elt M (B 402 0) j) 4 2) := by
  obtain ⟨qx, qs, qf, qd, qg, qh, qp, qw, qm, qe, ql, qq, qt, qr, qc, qo, qi⟩ := id hX
  have k8a : kd M (elt M (B 402 0) j) = 8 + 1000 * j := (qq.2 j hj).2.1
  have k8 : kd M (elt M (B 402 0) j) % 1000 = 8 := by rw [k8a]; omega
  have ne8 : ∀ u, u < cn S 36 → u ≠ j → elt M (B 402 0) u ≠ (elt M (B 402 0) j) := fun u hu hn z => by
    have h1 := (qq.2 u hu).2.1
    rw [z, k8a] at h1; omega
  have g : agr (fun c k => c = 8 ∧ (k = 4 ∨ k = 8)) M (sI (sI M (elt M (B 402 0) j) 8 (gi S 1)) (elt M (B 402 0) j) 4 2) := (agr.sI ⟨k8, Or.inr rfl⟩).tr (agr.sI ⟨k8, Or.inl rfl⟩)
  obtain ⟨y_X, y_S, y_F, y_D, y_G, y_H, y_P, y_W, y_M, y_E, y_L, y_Q, y_T, y_R, y_C, y_O, y_I⟩ := hX.fr hV g
  refine ⟨⟨?_, ?_, ?_, ?_, ?_, ?_, ?_, ?_, ?_, ?_, ?_, ?_, ?_, ?_, ?_, ?_, ?_⟩, g.mono (fun c k z => by unfold TC; omega)⟩
  · exact y_X (fun c k z => by unfold uX at z; dsimp only; omega)
  · exact y_S (fun c k z => by unfold uS at z; dsimp only; omega)
  · exact y_F (fun c k z => by unfold uF at z; dsimp only; omega)
  · exact y_D (fun c k z => by unfold uD at z; dsimp only; omega)
  · exact y_G (fun c k z => by unfold uG at z; dsimp only; omega)
  · exact y_H (fun c k z => by unfold uH at z; dsimp only; omega)
  · exact y_P (fun c k z => by unfold uPl at z; dsimp only; omega)
  · exact y_W (fun c k z => by unfold uW at z; dsimp only; omega)
  · exact y_M (fun c k z => by unfold uM at z; dsimp only; omega)
  · exact y_E (fun c k z => by unfold uE at z; dsimp only; omega)
  · exact y_L (fun c k z => by unfold uLw at z; dsimp only; omega)
  · have g41 : ∀ i, gA (wA (wA (wi S 0 0) 41 j 2) 45 j (gi S 1)) 41 i = if i = j then 2 else gA S 41 i := fun i => gA_p (S := wi S 0 0) (k := 41)
    have g45 : ∀ i, gA (wA (wA (wi S 0 0) 41 j 2) 45 j (gi S 1)) 45 i = if i = j then gi S 1 else gA S 45 i := fun i => gA_p (S := wA (wi S 0 0) 41 j 2) (k := 45)
    refine ⟨qq.1, fun u hu => ?_⟩
    have hu : u < cn S 36 := hu
    obtain ⟨a1, a2, a3, a4, a5, a6, a7, a8, a9, b1, b2, b3⟩ := qq.2 u hu
    show qQ1 B (wA (wA (wi S 0 0) 41 j 2) 45 j (gi S 1)) (sI (sI M (elt M (B 402 0) j) 8 (gi S 1)) (elt M (B 402 0) j) 4 2) (B 402 0) u
    unfold qQ1
    rw [g41, g45]
    by_cases e : u = j
    · rw [e] at a1 a2 a3 a4 a5 a6 a7 a8 a9 b1 b2 b3 ⊢
      rw [if_pos rfl, if_pos rfl]
      refine ⟨a1, a2, a3, (fI_k (by decide)).trans ((fI_k (by decide)).trans a4), a5, (fI_k (by decide)).trans ((fI_k (by decide)).trans a6), fI_s, (fI_k (by decide)).trans ((fI_k (by decide)).trans a8), (fI_k (by decide)).trans ((fI_k (by decide)).trans a9), (fI_k (by decide)).trans ((fI_k (by decide)).trans b1), (fI_k (by decide)).trans fI_s, fun z => absurd z (by decide)⟩
    · have hn := ne8 u hu e
      rw [if_neg e, if_neg e]
      refine ⟨a1, a2, a3, (fI_o hn).trans ((fI_o hn).trans a4), a5, (fI_o hn).trans ((fI_o hn).trans a6), (fI_o hn).trans ((fI_o hn).trans a7), (fI_o hn).trans ((fI_o hn).trans a8), (fI_o hn).trans ((fI_o hn).trans a9), (fI_o hn).trans ((fI_o hn).trans b1), (fI_o hn).trans ((fI_o hn).trans b2), b3⟩
  · exact y_T (fun c k z => by unfold uT at z; dsimp only; omega)
  · exact y_R (fun c k z => by unfold uR at z; dsimp only; omega)
  · exact y_C (fun c k z => by unfold uC at z; dsimp only; omega)
  · exact y_O (fun c k z => by unfold uO at z; dsimp only; omega)
  · exact y_I (fun c k z => by unfold uSg at z; dsimp only; omega)
theorem RX_appeal {B : Nat → Nat → Nat} {x : Nat} {S : Ms} {M : Mm} (hX : RX B x S M) (hV : INV S) {j : Nat} (hj : j < cn S 36) (h1 : gA S 41 j = 1) : RX B x (wA (wA (wi S 0 0) 41 j 3) 23 (ca S 46 j) (gi S 1)) (sI (sI (sI M (elt M (B 402 0) j) 4 3) (B 7 (ca S 46 j)) 4 1) (B 7 (ca S 46 j)) 5 (gi S 1)) ∧ agr TC M (sI (sI (sI M (elt M (B 402 0) j) 4 3) (B 7 (ca S 46 j)) 4 1) (B 7 (ca S 46 j)) 5 (gi S 1)) := by
  obtain ⟨qx, qs, qf, qd, qg, qh, qp, qw, qm, qe, ql, qq, qt, qr, qc, qo, qi⟩ := id hX
  have k8a : kd M (elt M (B 402 0) j) = 8 + 1000 * j := (qq.2 j hj).2.1
  have k8 : kd M (elt M (B 402 0) j) % 1000 = 8 := by rw [k8a]; omega
  have ne8 : ∀ u, u < cn S 36 → u ≠ j → elt M (B 402 0) u ≠ (elt M (B 402 0) j) := fun u hu hn z => by
    have h1 := (qq.2 u hu).2.1
    rw [z, k8a] at h1; omega
  have h46 : ca S 46 j < cn S 17 := ((hV.2.2.2.2.2.2.1 j hj).2.2.2.2.2.2.2.2.2.2 (Or.inl (by unfold ca; rw [h1]; rfl))).2
  have k7 : kd M (B 7 (ca S 46 j)) % 1000 = 7 := by rw [(qm.2 _ h46).2.1]; omega
  have g : agr (fun c k => (c = 8 ∧ k = 4) ∨ (c = 7 ∧ (k = 4 ∨ k = 5))) M (sI (sI (sI M (elt M (B 402 0) j) 4 3) (B 7 (ca S 46 j)) 4 1) (B 7 (ca S 46 j)) 5 (gi S 1)) := ((agr.sI (Or.inl ⟨k8, rfl⟩)).tr (agr.sI (Or.inr ⟨k7, Or.inl rfl⟩))).tr (agr.sI (Or.inr ⟨k7, Or.inr rfl⟩))
  obtain ⟨y_X, y_S, y_F, y_D, y_G, y_H, y_P, y_W, y_M, y_E, y_L, y_Q, y_T, y_R, y_C, y_O, y_I⟩ := hX.fr hV g
  refine ⟨⟨?_, ?_, ?_, ?_, ?_, ?_, ?_, ?_, ?_, ?_, ?_, ?_, ?_, ?_, ?_, ?_, ?_⟩, g.mono (fun c k z => by unfold TC; omega)⟩
  · exact y_X (fun c k z => by unfold uX at z; dsimp only; omega)
  · exact y_S (fun c k z => by unfold uS at z; dsimp only; omega)
  · exact y_F (fun c k z => by unfold uF at z; dsimp only; omega)
  · exact y_D (fun c k z => by unfold uD at z; dsimp only; omega)
  · exact y_G (fun c k z => by unfold uG at z; dsimp only; omega)
  · exact y_H (fun c k z => by unfold uH at z; dsimp only; omega)
  · exact y_P (fun c k z => by unfold uPl at z; dsimp only; omega)
  · exact y_W (fun c k z => by unfold uW at z; dsimp only; omega)
  · have g23 : ∀ i, gA (wA (wA (wi S 0 0) 41 j 3) 23 (ca S 46 j) (gi S 1)) 23 i = if i = ca S 46 j then gi S 1 else gA S 23 i := fun i => gA_p (S := wA (wi S 0 0) 41 j 3) (k := 23)
    refine ⟨qm.1, fun n hn => ?_⟩
    have hn : n < cn S 17 := hn
    obtain ⟨a1, a2, a3, a4, a5, a6, a7⟩ := qm.2 n hn
    have h8 : B 7 n ≠ (elt M (B 402 0) j) := fun z => by rw [z, k8a] at a2; omega
    show qM1 B (wA (wA (wi S 0 0) 41 j 3) 23 (ca S 46 j) (gi S 1)) (sI (sI (sI M (elt M (B 402 0) j) 4 3) (B 7 (ca S 46 j)) 4 1) (B 7 (ca S 46 j)) 5 (gi S 1)) n
    unfold qM1
    rw [g23]
    by_cases e : n = ca S 46 j
    · rw [if_pos e, ← e]
      refine ⟨a1, a2, (fI_k (by decide)).trans ((fI_k (by decide)).trans ((fI_o h8).trans a3)), a4, (fI_k (by decide)).trans ((fI_k (by decide)).trans ((fI_o h8).trans a5)), (fI_k (by decide)).trans ((fI_k (by decide)).trans ((fI_o h8).trans a6)), Or.inr ⟨(fI_k (by decide)).trans fI_s, ?_, fI_s⟩⟩
      rw [hV.1.1.1]; exact nI_m1n (by have := hV.1.1.2; omega)
    · have hne : B 7 n ≠ B 7 (ca S 46 j) := fun z => by
        rw [z, (qm.2 _ h46).2.1] at a2; omega
      rw [if_neg e]
      have o : ∀ k, fI (sI (sI (sI M (elt M (B 402 0) j) 4 3) (B 7 (ca S 46 j)) 4 1) (B 7 (ca S 46 j)) 5 (gi S 1)) (B 7 n) k = fI M (B 7 n) k := fun k => (fI_o hne).trans ((fI_o hne).trans (fI_o h8))
      rw [o, o, o, o, o]
      exact ⟨a1, a2, a3, a4, a5, a6, a7⟩
  · exact y_E (fun c k z => by unfold uE at z; dsimp only; omega)
  · exact y_L (fun c k z => by unfold uLw at z; dsimp only; omega)
  · have g41 : ∀ i, gA (wA (wA (wi S 0 0) 41 j 3) 23 (ca S 46 j) (gi S 1)) 41 i = if i = j then 3 else gA S 41 i := fun i => gA_p (S := wi S 0 0) (k := 41)
    refine ⟨qq.1, fun u hu => ?_⟩
    have hu : u < cn S 36 := hu
    obtain ⟨a1, a2, a3, a4, a5, a6, a7, a8, a9, b1, b2, b3⟩ := qq.2 u hu
    have h7 : elt M (B 402 0) u ≠ B 7 (ca S 46 j) := fun z => by rw [z] at a2; omega
    show qQ1 B (wA (wA (wi S 0 0) 41 j 3) 23 (ca S 46 j) (gi S 1)) (sI (sI (sI M (elt M (B 402 0) j) 4 3) (B 7 (ca S 46 j)) 4 1) (B 7 (ca S 46 j)) 5 (gi S 1)) (B 402 0) u
    unfold qQ1
    rw [g41]
    have o : ∀ k, fI (sI (sI (sI M (elt M (B 402 0) j) 4 3) (B 7 (ca S 46 j)) 4 1) (B 7 (ca S 46 j)) 5 (gi S 1)) (elt M (B 402 0) u) k = fI (sI M (elt M (B 402 0) j) 4 3) (elt M (B 402 0) u) k := fun k => (fI_o h7).trans (fI_o h7)
    by_cases e : u = j
    · rw [e] at a1 a2 a3 a4 a5 a6 a7 a8 a9 b1 b2 b3 o ⊢
      rw [if_pos rfl]
      refine ⟨a1, a2, a3, (o 1).trans ((fI_k (by decide)).trans a4), a5, (o 3).trans ((fI_k (by decide)).trans a6), (o 4).trans fI_s, (o 5).trans ((fI_k (by decide)).trans a8), (o 6).trans ((fI_k (by decide)).trans a9), (o 7).trans ((fI_k (by decide)).trans b1), (o 8).trans ((fI_k (by decide)).trans b2), fun z => absurd z (by decide)⟩
    · have hn := ne8 u hu e
      rw [if_neg e]
      exact ⟨a1, a2, a3, (o 1).trans ((fI_o hn).trans a4), a5, (o 3).trans ((fI_o hn).trans a6), (o 4).trans ((fI_o hn).trans a7), (o 5).trans ((fI_o hn).trans a8), (o 6).trans ((fI_o hn).trans a9), (o 7).trans ((fI_o hn).trans b1), (o 8).trans ((fI_o hn).trans b2), b3⟩
  · exact y_T (fun c k z => by unfold uT at z; dsimp only; omega)
  · exact y_R (fun c k z => by unfold uR at z; dsimp only; omega)
  · exact y_C (fun c k z => by unfold uC at z; dsimp only; omega)
  · exact y_O (fun c k z => by unfold uO at z; dsimp only; omega)
  · exact y_I (fun c k z => by unfold uSg at z; dsimp only; omega)
theorem RX_dec {B : Nat → Nat → Nat} {x : Nat} {S : Ms} {M : Mm} (hX : RX B x S M) (hV : INV S) {j a : Nat} (hj : j < cn S 36) (hn : cn S 17 < 100) (ha : kd M a = 0) : RX (up2 B 7 (cn S 17) a) x (wA (sTells (wA (wA (wi S 0 0) 41 j 1) 45 j (gi S 1)) (gA S 37 j) (gA S 38 j) (gL S 39 j) (gA S 40 j)) 46 j (nI (cn S 17 + 1) - 1)) (sI (psh (sR (nmM (sI (sI M (elt M (B 402 0) j) 8 (gi S 1)) (elt M (B 402 0) j) 4 1) a (7 + 1000 * cn S 17) (gA S 38 j) (gL S 39 j) (gA S 40 j) (gi S 1)) (elt M (B 402 0) j) 9 (some a)) (B 410 (ca S 37 j)) a) x 11 (gi S 17 + 1)) ∧ agr TC M (sI (psh (sR (nmM (sI (sI M (elt M (B 402 0) j) 8 (gi S 1)) (elt M (B 402 0) j) 4 1) a (7 + 1000 * cn S 17) (gA S 38 j) (gL S 39 j) (gA S 40 j) (gi S 1)) (elt M (B 402 0) j) 9 (some a)) (B 410 (ca S 37 j)) a) x 11 (gi S 17 + 1)) := by
  obtain ⟨qx, qs, qf, qd, qg, qh, qp, qw, qm, qe, ql, qq, qt, qr, qc, qo, qi⟩ := id hX
  have k8a : kd M (elt M (B 402 0) j) = 8 + 1000 * j := (qq.2 j hj).2.1
  have k8 : kd M (elt M (B 402 0) j) % 1000 = 8 := by rw [k8a]; omega
  have ne8 : ∀ u, u < cn S 36 → u ≠ j → elt M (B 402 0) u ≠ (elt M (B 402 0) j) := fun u hu hn z => by
    have h1 := (qq.2 u hu).2.1
    rw [z, k8a] at h1; omega
  have hF : ca S 37 j < cn S 2 := (hV.2.2.2.2.2.2.1 j hj).2.1
  have h37 : gA S 37 j = nI (ca S 37 j) := (hV.2.2.2.2.2.2.1 j hj).1.1
  have hx8 : x ≠ (elt M (B 402 0) j) := fun z => by have := qx.1; rw [z, k8a] at this; omega
  have g0 : agr (fun c k => c = 8 ∧ (k = 4 ∨ k = 8)) M (sI (sI M (elt M (B 402 0) j) 8 (gi S 1)) (elt M (B 402 0) j) 4 1) := (agr.sI ⟨k8, Or.inr rfl⟩).tr (agr.sI ⟨k8, Or.inl rfl⟩)
  obtain ⟨-, -, v3, -, -, -, -, -, v9, -⟩ := hX.fr hV g0
  have qfp : qF B S (sI (sI M (elt M (B 402 0) j) 8 (gi S 1)) (elt M (B 402 0) j) 4 1) := v3 (fun c k z => by unfold uF at z; dsimp only; omega)
  have qmp : qM B S (sI (sI M (elt M (B 402 0) j) 8 (gi S 1)) (elt M (B 402 0) j) 4 1) := v9 (fun c k z => by unfold uM at z; dsimp only; omega)
  have hap : kd (sI (sI M (elt M (B 402 0) j) 8 (gi S 1)) (elt M (B 402 0) j) 4 1) a = 0 := ha
  have hw := nwc_nm (M := (sI (sI M (elt M (B 402 0) j) 8 (gi S 1)) (elt M (B 402 0) j) 4 1)) (ke := 7 + 1000 * cn S 17) (t := gA S 38 j) (d := gA S 40 j) (n := gi S 1) (w := gL S 39 j) hap
  have kx0 : kd (sI (sI M (elt M (B 402 0) j) 8 (gi S 1)) (elt M (B 402 0) j) 4 1) x ≠ 0 := by show kd M x ≠ 0; rw [qx.1]; decide
  have k8n : kd (nmM (sI (sI M (elt M (B 402 0) j) 8 (gi S 1)) (elt M (B 402 0) j) 4 1) a (7 + 1000 * cn S 17) (gA S 38 j) (gL S 39 j) (gA S 40 j) (gi S 1)) (elt M (B 402 0) j) % 1000 = 8 := by rw [nwc_kd hw (by show kd M (elt M (B 402 0) j) ≠ 0; rw [k8a]; omega)]; exact k8
  have k410n : kd (sR (nmM (sI (sI M (elt M (B 402 0) j) 8 (gi S 1)) (elt M (B 402 0) j) 4 1) a (7 + 1000 * cn S 17) (gA S 38 j) (gL S 39 j) (gA S 40 j) (gi S 1)) (elt M (B 402 0) j) 9 (some a)) (B 410 (ca S 37 j)) % 1000 = 410 := by
    show kd (nmM (sI (sI M (elt M (B 402 0) j) 8 (gi S 1)) (elt M (B 402 0) j) 4 1) a (7 + 1000 * cn S 17) (gA S 38 j) (gL S 39 j) (gA S 40 j) (gi S 1)) (B 410 (ca S 37 j)) % 1000 = 410
    rw [nwc_kd hw (by show kd M (B 410 (ca S 37 j)) ≠ 0; intro z; have := qf.k410 hF; rw [z] at this; cases this)]; exact qf.k410 hF
  have k11n : kd (psh (sR (nmM (sI (sI M (elt M (B 402 0) j) 8 (gi S 1)) (elt M (B 402 0) j) 4 1) a (7 + 1000 * cn S 17) (gA S 38 j) (gL S 39 j) (gA S 40 j) (gi S 1)) (elt M (B 402 0) j) 9 (some a)) (B 410 (ca S 37 j)) a) x % 1000 = 11 := by
    show kd (nmM (sI (sI M (elt M (B 402 0) j) 8 (gi S 1)) (elt M (B 402 0) j) 4 1) a (7 + 1000 * cn S 17) (gA S 38 j) (gL S 39 j) (gA S 40 j) (gi S 1)) x % 1000 = 11
    rw [nwc_kd hw kx0]
    show kd M x % 1000 = 11
    rw [qx.1]
  have g : agr (fun c k => (c = 8 ∧ (k = 4 ∨ k = 8 ∨ k = 9)) ∨ c = 410 ∨ c = 1410 ∨ (c = 11 ∧ k = 11)) M (sI (psh (sR (nmM (sI (sI M (elt M (B 402 0) j) 8 (gi S 1)) (elt M (B 402 0) j) 4 1) a (7 + 1000 * cn S 17) (gA S 38 j) (gL S 39 j) (gA S 40 j) (gi S 1)) (elt M (B 402 0) j) 9 (some a)) (B 410 (ca S 37 j)) a) x 11 (gi S 17 + 1)) := ((((agr.sI (Or.inl ⟨k8, Or.inr (Or.inl rfl)⟩)).tr (agr.sI (Or.inl ⟨k8, Or.inl rfl⟩))).tr (nwc_agr hw)).tr (agr.sR (Or.inl ⟨k8n, Or.inr (Or.inr rfl)⟩))).tr ((agr.psh (fun k => Or.inr (Or.inl k410n)) (Or.inr (Or.inr (Or.inl (by rw [k410n]))))).tr (agr.sI (Or.inr (Or.inr (Or.inr ⟨k11n, rfl⟩)))))
  obtain ⟨y_X, y_S, y_F, y_D, y_G, y_H, y_P, y_W, y_M, y_E, y_L, y_Q, y_T, y_R, y_C, y_O, y_I⟩ := hX.fr hV g
  refine ⟨⟨?_, ?_, ?_, ?_, ?_, ?_, ?_, ?_, ?_, ?_, ?_, ?_, ?_, ?_, ?_, ?_, ?_⟩, g.mono (fun c k z => by unfold TC; omega)⟩
  · exact qX_up7 (y_X (fun c k z => by unfold uX at z; dsimp only; omega))
  · obtain ⟨a1, a2, a3, a4⟩ := qs
    have o : ∀ k, fI (psh (sR (nmM (sI (sI M (elt M (B 402 0) j) 8 (gi S 1)) (elt M (B 402 0) j) 4 1) a (7 + 1000 * cn S 17) (gA S 38 j) (gL S 39 j) (gA S 40 j) (gi S 1)) (elt M (B 402 0) j) 9 (some a)) (B 410 (ca S 37 j)) a) x k = fI M x k := fun k => by
      show fI (nmM (sI (sI M (elt M (B 402 0) j) 8 (gi S 1)) (elt M (B 402 0) j) 4 1) a (7 + 1000 * cn S 17) (gA S 38 j) (gL S 39 j) (gA S 40 j) (gi S 1)) x k = fI M x k
      rw [← congrFun (hw.2 x kx0).2.1 k, fI_o hx8, fI_o hx8]
    exact ⟨(fI_k (by decide)).trans ((o 10).trans a1), fI_s, (fI_k (by decide)).trans ((o 12).trans a3), (fI_k (by decide)).trans ((o 13).trans a4)⟩
  · exact y_F (fun c k z => by unfold uF at z; dsimp only; omega)
  · exact y_D (fun c k z => by unfold uD at z; dsimp only; omega)
  · exact y_G (fun c k z => by unfold uG at z; dsimp only; omega)
  · exact y_H (fun c k z => by unfold uH at z; dsimp only; omega)
  · exact y_P (fun c k z => by unfold uPl at z; dsimp only; omega)
  · exact y_W (fun c k z => by unfold uW at z; dsimp only; omega)
  · obtain ⟨f1, f2, f3⟩ := nm_facts (M := (sI (sI M (elt M (B 402 0) j) 8 (gi S 1)) (elt M (B 402 0) j) 4 1)) (t := gA S 38 j) (d := gA S 40 j) (n := gi S 1) (w := gL S 39 j) qfp qmp hF ha
    obtain ⟨n1, n2, n3, n4, n5, n6⟩ := nm_new (M := (sI (sI M (elt M (B 402 0) j) 8 (gi S 1)) (elt M (B 402 0) j) 4 1)) (a := a) (ke := 7 + 1000 * cn S 17) (t := gA S 38 j) (d := gA S 40 j) (n := gi S 1) (w := gL S 39 j)
    have hax : a ≠ x := fun z => by have := qx.1; rw [← z, ha] at this; cases this
    have hl8 : ∀ f, f < cn S 2 → B 410 f ≠ (elt M (B 402 0) j) := fun f hf z => by have := qf.k410 hf; rw [z, k8] at this; cases this
    have lnM : ∀ f, ln (sI (sI M (elt M (B 402 0) j) 8 (gi S 1)) (elt M (B 402 0) j) 4 1) (B 410 f) = ln M (B 410 f) := fun f => rfl
    have frM : ∀ f i, fR (sI (sI M (elt M (B 402 0) j) 8 (gi S 1)) (elt M (B 402 0) j) 4 1) (B 410 f) i = fR M (B 410 f) i := fun f i => rfl
    have sr : ∀ b i, b ≠ (elt M (B 402 0) j) → fR (psh (sR (nmM (sI (sI M (elt M (B 402 0) j) 8 (gi S 1)) (elt M (B 402 0) j) 4 1) a (7 + 1000 * cn S 17) (gA S 38 j) (gL S 39 j) (gA S 40 j) (gi S 1)) (elt M (B 402 0) j) 9 (some a)) (B 410 (ca S 37 j)) a) b i = fR (psh (nmM (sI (sI M (elt M (B 402 0) j) 8 (gi S 1)) (elt M (B 402 0) j) 4 1) a (7 + 1000 * cn S 17) (gA S 38 j) (gL S 39 j) (gA S 40 j) (gi S 1)) (B 410 (ca S 37 j)) a) b i := fun b i hb => by
      by_cases hbl : b = B 410 (ca S 37 j)
      · rw [hbl]
        by_cases hi : i = ln (nmM (sI (sI M (elt M (B 402 0) j) 8 (gi S 1)) (elt M (B 402 0) j) 4 1) a (7 + 1000 * cn S 17) (gA S 38 j) (gL S 39 j) (gA S 40 j) (gi S 1)) (B 410 (ca S 37 j))
        · rw [hi, psh_rs]
          exact psh_rs (M := (sR (nmM (sI (sI M (elt M (B 402 0) j) 8 (gi S 1)) (elt M (B 402 0) j) 4 1) a (7 + 1000 * cn S 17) (gA S 38 j) (gL S 39 j) (gA S 40 j) (gi S 1)) (elt M (B 402 0) j) 9 (some a))) (l := B 410 (ca S 37 j)) (v := a)
        · rw [psh_rn hi, psh_rn (M := (sR (nmM (sI (sI M (elt M (B 402 0) j) 8 (gi S 1)) (elt M (B 402 0) j) 4 1) a (7 + 1000 * cn S 17) (gA S 38 j) (gL S 39 j) (gA S 40 j) (gi S 1)) (elt M (B 402 0) j) 9 (some a))) (show i ≠ ln (sR (nmM (sI (sI M (elt M (B 402 0) j) 8 (gi S 1)) (elt M (B 402 0) j) 4 1) a (7 + 1000 * cn S 17) (gA S 38 j) (gL S 39 j) (gA S 40 j) (gi S 1)) (elt M (B 402 0) j) 9 (some a)) (B 410 (ca S 37 j)) from hi), fR_sR, if_neg (fun z => hl8 _ hF z.1)]
      · rw [psh_ro hbl, psh_ro hbl, fR_sR, if_neg (fun z => hb z.1)]
    refine qM_tells qf qm hV hF hn ?_ (fun f hf hne => ⟨(f1 f hf hne).1, fun i => (sr _ i (hl8 f hf)).trans ((f1 f hf hne).2 i)⟩) ⟨f2.1, (sr _ _ (hl8 _ hF)).trans f2.2.1, fun i hi => (sr _ i (hl8 _ hF)).trans (f2.2.2 i hi)⟩ (fun q hq => ?_) ⟨n1, (fI_o hax).trans n2, n3, (fI_o hax).trans n4, (fI_o hax).trans n5, (fI_o hax).trans n6⟩
    · have h9 := td_tells (S := S) hV (j := ca S 37 j) (t := gA S 38 j) (d := gA S 40 j) (w := gL S 39 j)
      rw [← h37] at h9
      have h8 := h9
      obtain ⟨t1, t2, t3, t4, t5, t6, t7, t8⟩ := h8
      exact ⟨t1, t2, fun i => by rw [← t3]; rfl, fun i => by rw [← t4]; rfl, fun i => by rw [← t5]; rfl, fun i => by rw [← t6]; rfl, fun i => by rw [← t7]; rfl, fun i => by rw [← t8]; rfl⟩
    · have hqx : B 7 q ≠ x := fun z => by
        have h1 := (qm.2 q hq).2.1
        rw [z, qx.1] at h1; omega
      have hq8 : B 7 q ≠ (elt M (B 402 0) j) := fun z => by
        have h1 := (qm.2 q hq).2.1
        rw [z, k8a] at h1; omega
      refine ⟨(f3 q hq).1, fun k => ?_, (f3 q hq).2.2⟩
      rw [fI_o hqx]
      exact ((f3 q hq).2.1 k).trans ((fI_o hq8).trans (fI_o hq8))
  · exact y_E (fun c k z => by unfold uE at z; dsimp only; omega)
  · exact y_L (fun c k z => by unfold uLw at z; dsimp only; omega)
  · have g41 : ∀ i, gA (wA (sTells (wA (wA (wi S 0 0) 41 j 1) 45 j (gi S 1)) (gA S 37 j) (gA S 38 j) (gL S 39 j) (gA S 40 j)) 46 j (nI (cn S 17 + 1) - 1)) 41 i = if i = j then 1 else gA S 41 i := fun i => gA_p (S := wi S 0 0) (k := 41)
    have g45 : ∀ i, gA (wA (sTells (wA (wA (wi S 0 0) 41 j 1) 45 j (gi S 1)) (gA S 37 j) (gA S 38 j) (gL S 39 j) (gA S 40 j)) 46 j (nI (cn S 17 + 1) - 1)) 45 i = if i = j then gi S 1 else gA S 45 i := fun i => gA_p (S := wA (wi S 0 0) 41 j 1) (k := 45)
    have g46 : ∀ i, gA (wA (sTells (wA (wA (wi S 0 0) 41 j 1) 45 j (gi S 1)) (gA S 37 j) (gA S 38 j) (gL S 39 j) (gA S 40 j)) 46 j (nI (cn S 17 + 1) - 1)) 46 i = if i = j then nI (cn S 17 + 1) - 1 else gA S 46 i := fun i => gA_p (S := (sTells (wA (wA (wi S 0 0) 41 j 1) 45 j (gi S 1)) (gA S 37 j) (gA S 38 j) (gL S 39 j) (gA S 40 j))) (k := 46)
    have kl2 : kd M (B 402 0) = 402 := qx.k 2 (by decide)
    have hlP : B 402 0 ≠ (elt M (B 402 0) j) := fun z => by rw [z] at kl2; omega
    have hl410 : B 402 0 ≠ B 410 (ca S 37 j) := fun z => by have := qf.k410 hF; rw [← z, kl2] at this; cases this
    have kl20 : kd (sI (sI M (elt M (B 402 0) j) 8 (gi S 1)) (elt M (B 402 0) j) 4 1) (B 402 0) ≠ 0 := by show kd M (B 402 0) ≠ 0; rw [kl2]; decide
    have hln : ln (sI (psh (sR (nmM (sI (sI M (elt M (B 402 0) j) 8 (gi S 1)) (elt M (B 402 0) j) 4 1) a (7 + 1000 * cn S 17) (gA S 38 j) (gL S 39 j) (gA S 40 j) (gi S 1)) (elt M (B 402 0) j) 9 (some a)) (B 410 (ca S 37 j)) a) x 11 (gi S 17 + 1)) (B 402 0) = ln M (B 402 0) := by
      show ln (psh (sR (nmM (sI (sI M (elt M (B 402 0) j) 8 (gi S 1)) (elt M (B 402 0) j) 4 1) a (7 + 1000 * cn S 17) (gA S 38 j) (gL S 39 j) (gA S 40 j) (gi S 1)) (elt M (B 402 0) j) 9 (some a)) (B 410 (ca S 37 j)) a) (B 402 0) = _
      rw [psh_lo hl410]
      exact (show ln (nmM (sI (sI M (elt M (B 402 0) j) 8 (gi S 1)) (elt M (B 402 0) j) 4 1) a (7 + 1000 * cn S 17) (gA S 38 j) (gL S 39 j) (gA S 40 j) (gi S 1)) (B 402 0) = ln (sI (sI M (elt M (B 402 0) j) 8 (gi S 1)) (elt M (B 402 0) j) 4 1) (B 402 0) from nwc_ln hw kl20)
    have hfr : ∀ i, fR (sI (psh (sR (nmM (sI (sI M (elt M (B 402 0) j) 8 (gi S 1)) (elt M (B 402 0) j) 4 1) a (7 + 1000 * cn S 17) (gA S 38 j) (gL S 39 j) (gA S 40 j) (gi S 1)) (elt M (B 402 0) j) 9 (some a)) (B 410 (ca S 37 j)) a) x 11 (gi S 17 + 1)) (B 402 0) i = fR M (B 402 0) i := fun i => by
      show fR (psh (sR (nmM (sI (sI M (elt M (B 402 0) j) 8 (gi S 1)) (elt M (B 402 0) j) 4 1) a (7 + 1000 * cn S 17) (gA S 38 j) (gL S 39 j) (gA S 40 j) (gi S 1)) (elt M (B 402 0) j) 9 (some a)) (B 410 (ca S 37 j)) a) (B 402 0) i = _
      rw [psh_ro hl410, fR_sR, if_neg (fun z => hlP z.1)]
      exact (show fR (nmM (sI (sI M (elt M (B 402 0) j) 8 (gi S 1)) (elt M (B 402 0) j) 4 1) a (7 + 1000 * cn S 17) (gA S 38 j) (gL S 39 j) (gA S 40 j) (gi S 1)) (B 402 0) i = fR (sI (sI M (elt M (B 402 0) j) 8 (gi S 1)) (elt M (B 402 0) j) 4 1) (B 402 0) i from nwc_fR hw kl20 i)
    show ln (sI (psh (sR (nmM (sI (sI M (elt M (B 402 0) j) 8 (gi S 1)) (elt M (B 402 0) j) 4 1) a (7 + 1000 * cn S 17) (gA S 38 j) (gL S 39 j) (gA S 40 j) (gi S 1)) (elt M (B 402 0) j) 9 (some a)) (B 410 (ca S 37 j)) a) x 11 (gi S 17 + 1)) (B 402 0) = cn S 36 ∧ ∀ u, u < cn S 36 → qQ1 (up2 B 7 (cn S 17) a) (wA (sTells (wA (wA (wi S 0 0) 41 j 1) 45 j (gi S 1)) (gA S 37 j) (gA S 38 j) (gL S 39 j) (gA S 40 j)) 46 j (nI (cn S 17 + 1) - 1)) (sI (psh (sR (nmM (sI (sI M (elt M (B 402 0) j) 8 (gi S 1)) (elt M (B 402 0) j) 4 1) a (7 + 1000 * cn S 17) (gA S 38 j) (gL S 39 j) (gA S 40 j) (gi S 1)) (elt M (B 402 0) j) 9 (some a)) (B 410 (ca S 37 j)) a) x 11 (gi S 17 + 1)) (B 402 0) u
    refine ⟨by rw [hln]; exact qq.1, fun u hu => ?_⟩
    obtain ⟨a1, a2, a3, a4, a5, a6, a7, a8, a9, b1, b2, b3⟩ := qq.2 u hu
    have hel : elt (sI (psh (sR (nmM (sI (sI M (elt M (B 402 0) j) 8 (gi S 1)) (elt M (B 402 0) j) 4 1) a (7 + 1000 * cn S 17) (gA S 38 j) (gL S 39 j) (gA S 40 j) (gi S 1)) (elt M (B 402 0) j) 9 (some a)) (B 410 (ca S 37 j)) a) x 11 (gi S 17 + 1)) (B 402 0) u = elt M (B 402 0) u := elt_eq (hfr u)
    have hux : elt M (B 402 0) u ≠ x := fun z => by rw [z, qx.1] at a2; omega
    have hul : elt M (B 402 0) u ≠ B 410 (ca S 37 j) := fun z => by have := qf.k410 hF; rw [← z, a2] at this; omega
    have ku0 : kd (sI (sI M (elt M (B 402 0) j) 8 (gi S 1)) (elt M (B 402 0) j) 4 1) (elt M (B 402 0) u) ≠ 0 := by show kd M _ ≠ 0; rw [a2]; omega
    have oI : ∀ k, fI (sI (psh (sR (nmM (sI (sI M (elt M (B 402 0) j) 8 (gi S 1)) (elt M (B 402 0) j) 4 1) a (7 + 1000 * cn S 17) (gA S 38 j) (gL S 39 j) (gA S 40 j) (gi S 1)) (elt M (B 402 0) j) 9 (some a)) (B 410 (ca S 37 j)) a) x 11 (gi S 17 + 1)) (elt M (B 402 0) u) k = fI (sI (sI M (elt M (B 402 0) j) 8 (gi S 1)) (elt M (B 402 0) j) 4 1) (elt M (B 402 0) u) k := fun k => (fI_o hux).trans (congrFun (hw.2 _ ku0).2.1 k).symm
    have oL : ∀ k, fL (sI (psh (sR (nmM (sI (sI M (elt M (B 402 0) j) 8 (gi S 1)) (elt M (B 402 0) j) 4 1) a (7 + 1000 * cn S 17) (gA S 38 j) (gL S 39 j) (gA S 40 j) (gi S 1)) (elt M (B 402 0) j) 9 (some a)) (B 410 (ca S 37 j)) a) x 11 (gi S 17 + 1)) (elt M (B 402 0) u) k = fL M (elt M (B 402 0) u) k := fun k => (congrFun (hw.2 _ ku0).2.2.1 k).symm
    have oK : kd (sI (psh (sR (nmM (sI (sI M (elt M (B 402 0) j) 8 (gi S 1)) (elt M (B 402 0) j) 4 1) a (7 + 1000 * cn S 17) (gA S 38 j) (gL S 39 j) (gA S 40 j) (gi S 1)) (elt M (B 402 0) j) 9 (some a)) (B 410 (ca S 37 j)) a) x 11 (gi S 17 + 1)) (elt M (B 402 0) u) = kd M (elt M (B 402 0) u) := (hw.2 _ ku0).1.symm
    have oR : ∀ k, fR (sI (psh (sR (nmM (sI (sI M (elt M (B 402 0) j) 8 (gi S 1)) (elt M (B 402 0) j) 4 1) a (7 + 1000 * cn S 17) (gA S 38 j) (gL S 39 j) (gA S 40 j) (gi S 1)) (elt M (B 402 0) j) 9 (some a)) (B 410 (ca S 37 j)) a) x 11 (gi S 17 + 1)) (elt M (B 402 0) u) k = if elt M (B 402 0) u = (elt M (B 402 0) j) ∧ k = 9 then some a else fR M (elt M (B 402 0) u) k := fun k => by
      show fR (psh (sR (nmM (sI (sI M (elt M (B 402 0) j) 8 (gi S 1)) (elt M (B 402 0) j) 4 1) a (7 + 1000 * cn S 17) (gA S 38 j) (gL S 39 j) (gA S 40 j) (gi S 1)) (elt M (B 402 0) j) 9 (some a)) (B 410 (ca S 37 j)) a) (elt M (B 402 0) u) k = _
      rw [psh_ro hul, fR_sR]
      by_cases c : elt M (B 402 0) u = (elt M (B 402 0) j) ∧ k = 9
      · rw [if_pos c, if_pos c]
      · rw [if_neg c, if_neg c]; exact (show fR (nmM (sI (sI M (elt M (B 402 0) j) 8 (gi S 1)) (elt M (B 402 0) j) 4 1) a (7 + 1000 * cn S 17) (gA S 38 j) (gL S 39 j) (gA S 40 j) (gi S 1)) (elt M (B 402 0) u) k = fR (sI (sI M (elt M (B 402 0) j) 8 (gi S 1)) (elt M (B 402 0) j) 4 1) (elt M (B 402 0) u) k from nwc_fR hw ku0 k)
    unfold qQ1
    rw [hel, hfr, oK, oR, if_neg (fun z => by cases z.2), oI, oI, oI, oI, oI, oI, oI, oL, oR, g41, g45]
    have hB4 : ∀ q, (up2 B 7 (cn S 17) a) 4 q = B 4 q := fun q => up2_n _ _ (Or.inl (by decide))
    have hB402 : (up2 B 7 (cn S 17) a) 402 0 = B 402 0 := up2_n _ _ (Or.inl (by decide))
    rw [hB4]
    by_cases e : u = j
    · rw [e] at a1 a2 a3 a4 a5 a6 a7 a8 a9 b1 b2 b3 ⊢
      rw [if_pos rfl, if_pos rfl]
      refine ⟨a1, a2, a3, (fI_k (by decide)).trans ((fI_k (by decide)).trans a4), a5, (fI_k (by decide)).trans ((fI_k (by decide)).trans a6), fI_s, (fI_k (by decide)).trans ((fI_k (by decide)).trans a8), (fI_k (by decide)).trans ((fI_k (by decide)).trans a9), (fI_k (by decide)).trans ((fI_k (by decide)).trans b1), (fI_k (by decide)).trans fI_s, fun _ => ?_⟩
      rw [if_pos ⟨rfl, rfl⟩, show ca (wA (sTells (wA (wA (wi S 0 0) 41 j 1) 45 j (gi S 1)) (gA S 37 j) (gA S 38 j) (gL S 39 j) (gA S 40 j)) 46 j (nI (cn S 17 + 1) - 1)) 46 j = cn S 17 from ca_v (by rw [g46, if_pos rfl, nI_pred]) (by omega), up2_s]
    · have hne := ne8 u hu e
      rw [if_neg e, if_neg e, if_neg (fun z => hne z.1)]
      refine ⟨a1, a2, a3, (fI_o hne).trans ((fI_o hne).trans a4), a5, (fI_o hne).trans ((fI_o hne).trans a6), (fI_o hne).trans ((fI_o hne).trans a7), (fI_o hne).trans ((fI_o hne).trans a8), (fI_o hne).trans ((fI_o hne).trans a9), (fI_o hne).trans ((fI_o hne).trans b1), (fI_o hne).trans ((fI_o hne).trans b2), fun z => ?_⟩
      rw [show ca (wA (sTells (wA (wA (wi S 0 0) 41 j 1) 45 j (gi S 1)) (gA S 37 j) (gA S 38 j) (gL S 39 j) (gA S 40 j)) 46 j (nI (cn S 17 + 1) - 1)) 46 u = ca S 46 u from ca_e (by rw [g46, if_neg e])]
      have h46 : ca S 46 u < cn S 17 := ((hV.2.2.2.2.2.2.1 u hu).2.2.2.2.2.2.2.2.2.2 (Or.inl (by unfold ca; rw [z]; rfl))).2
      rw [up2_n _ _ (Or.inr (show ca S 46 u ≠ cn S 17 by omega))]
      exact b3 z
  · exact y_T (fun c k z => by unfold uT at z; dsimp only; omega)
  · exact y_R (fun c k z => by unfold uR at z; dsimp only; omega)
  · exact y_C (fun c k z => by unfold uC at z; dsimp only; omega)
  · exact y_O (fun c k z => by unfold uO at z; dsimp only; omega)
  · exact y_I (fun c k z => by unfold uSg at z; dsimp only; omega)
