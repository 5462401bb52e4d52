theorem qF.ne4 {B : Nat → Nat → Nat} {S : Ms} {M : Mm} (h : qF B S M) {f j : Nat} (hf : f < cn S 2) (hj : j < cn S 2) (hn : f ≠ j) : B 4 f ≠ B 4 j := fun z => by
  have h1 := (h.2 f hf).2.1
  rw [z, (h.2 j hj).2.1] at h1; omega
theorem fI_o {M : Mm} {a b k j : Nat} {v : Int32} (h : b ≠ a) : fI (sI M a k v) b j = fI M b j := by rw [fI_sI, if_neg (fun z => h z.1)]
theorem fI_k {M : Mm} {a k j : Nat} {v : Int32} (h : j ≠ k) : fI (sI M a k v) a j = fI M a j := by rw [fI_sI, if_neg (fun z => h z.2)]
theorem fI_s {M : Mm} {a k : Nat} {v : Int32} : fI (sI M a k v) a k = v := by rw [fI_sI, if_pos ⟨rfl, rfl⟩]
theorem RX_end {B : Nat → Nat → Nat} {x : Nat} {S : Ms} {M : Mm} (hX : RX B x S M) (hV : INV S) {j d : Nat} {i : Int32} (hj : j < cn S 2) (hd : d ≤ 9999) : RX B x (wA (wA (wA (wi S 0 0) 14 j (nI d)) 15 j i) 16 j (gi S 1)) (sI (sI (sI (sI M (B 4 j) 7 1) (B 4 j) 8 (gi S 1)) (B 4 j) 9 (nI d)) (B 4 j) 10 i) ∧ agr TC M (sI (sI (sI (sI M (B 4 j) 7 1) (B 4 j) 8 (gi S 1)) (B 4 j) 9 (nI d)) (B 4 j) 10 i) := by
  obtain ⟨qx, qs, qf, qd, qg, qh, qp, qw, qm, qe, ql, qq, qt, qr, qc, qo, qi⟩ := id hX
  have k4 : kd M (B 4 j) % 1000 = 4 := qf.k4 hj
  have g : agr (fun c k => c = 4 ∧ 7 ≤ k ∧ k ≤ 10) M (sI (sI (sI (sI M (B 4 j) 7 1) (B 4 j) 8 (gi S 1)) (B 4 j) 9 (nI d)) (B 4 j) 10 i) := (((agr.sI ⟨k4, by decide, by decide⟩).tr (agr.sI ⟨k4, by decide, by decide⟩)).tr (agr.sI ⟨k4, by decide, by decide⟩)).tr (agr.sI ⟨k4, by decide, by decide⟩)
  obtain ⟨y_X, y_S, y_F, y_D, y_G, y_H, y_P, y_W, y_M, y_E, y_L, y_Q, y_T, y_R, y_C, y_O, y_I⟩ := hX.fr hV g
  refine ⟨⟨?_, ?_, ?_, ?_, ?_, ?_, ?_, ?_, ?_, ?_, ?_, ?_, ?_, ?_, ?_, ?_, ?_⟩, g.mono (fun c k z => by unfold TC; omega)⟩
  · exact y_X (fun c k z => by unfold uX at z; dsimp only; omega)
  · exact y_S (fun c k z => by unfold uS at z; dsimp only; omega)
  · exact y_F (fun c k z => by unfold uF at z; dsimp only; omega)
  · intro f hf
    have hf : f < cn S 2 := hf
    have g14 : gA (wA (wA (wA (wi S 0 0) 14 j (nI d)) 15 j i) 16 j (gi S 1)) 14 f = if f = j then nI d else gA S 14 f := gA_p (S := wi S 0 0) (k := 14)
    have g15 : gA (wA (wA (wA (wi S 0 0) 14 j (nI d)) 15 j i) 16 j (gi S 1)) 15 f = if f = j then i else gA S 15 f := gA_p (S := wA (wi S 0 0) 14 j (nI d)) (k := 15)
    have g16 : gA (wA (wA (wA (wi S 0 0) 14 j (nI d)) 15 j i) 16 j (gi S 1)) 16 f = if f = j then gi S 1 else gA S 16 f := gA_p (S := wA (wA (wi S 0 0) 14 j (nI d)) 15 j i) (k := 16)
    unfold qD1
    rw [g14, g15, g16]
    by_cases e : f = j
    · subst e
      rw [if_pos rfl, if_pos rfl, if_pos rfl]
      refine Or.inr ⟨?_, nI_m1n (by omega), ?_, ?_, ?_⟩
      · rw [fI_k (by decide), fI_k (by decide), fI_k (by decide), fI_s]
      · rw [fI_k (by decide), fI_k (by decide), fI_s]
      · rw [fI_k (by decide), fI_s]
      · rw [fI_s]
    · have hn := qf.ne4 hf hj e
      rw [if_neg e, if_neg e, if_neg e]
      simp only [fI_o hn]
      exact qd f hf
  · exact y_G (fun c k z => by unfold uG at z; dsimp only; omega)
  · exact y_H (fun c k z => by unfold uH at z; dsimp only; omega)
  · exact y_P (fun c k z => by unfold uPl at z; dsimp only; omega)
  · exact y_W (fun c k z => by unfold uW at z; dsimp only; omega)
  · exact y_M (fun c k z => by unfold uM at z; dsimp only; omega)
  · exact y_E (fun c k z => by unfold uE at z; dsimp only; omega)
  · exact y_L (fun c k z => by unfold uLw at z; dsimp only; omega)
  · exact y_Q (fun c k z => by unfold uQ at z; dsimp only; omega)
  · exact y_T (fun c k z => by unfold uT at z; dsimp only; omega)
  · exact y_R (fun c k z => by unfold uR at z; dsimp only; omega)
  · exact y_C (fun c k z => by unfold uC at z; dsimp only; omega)
  · exact y_O (fun c k z => by unfold uO at z; dsimp only; omega)
  · exact y_I (fun c k z => by unfold uSg at z; dsimp only; omega)
theorem RX_dispute {B : Nat → Nat → Nat} {x : Nat} {S : Ms} {M : Mm} (hX : RX B x S M) (hV : INV S) {j : Nat} {a b : Int32} (hj : j < cn S 2) : RX B x (wA (wA (wi S 0 0) 48 j a) 49 j b) (sI (sI M (B 4 j) 11 a) (B 4 j) 12 b) ∧ agr TC M (sI (sI M (B 4 j) 11 a) (B 4 j) 12 b) := by
  obtain ⟨qx, qs, qf, qd, qg, qh, qp, qw, qm, qe, ql, qq, qt, qr, qc, qo, qi⟩ := id hX
  have k4 : kd M (B 4 j) % 1000 = 4 := qf.k4 hj
  have g : agr (fun c k => c = 4 ∧ 11 ≤ k ∧ k ≤ 12) M (sI (sI M (B 4 j) 11 a) (B 4 j) 12 b) := (agr.sI ⟨k4, by decide, by decide⟩).tr (agr.sI ⟨k4, by decide, by decide⟩)
  obtain ⟨y_X, y_S, y_F, y_D, y_G, y_H, y_P, y_W, y_M, y_E, y_L, y_Q, y_T, y_R, y_C, y_O, y_I⟩ := hX.fr hV g
  refine ⟨⟨?_, ?_, ?_, ?_, ?_, ?_, ?_, ?_, ?_, ?_, ?_, ?_, ?_, ?_, ?_, ?_, ?_⟩, g.mono (fun c k z => by unfold TC; omega)⟩
  · exact y_X (fun c k z => by unfold uX at z; dsimp only; omega)
  · exact y_S (fun c k z => by unfold uS at z; dsimp only; omega)
  · exact y_F (fun c k z => by unfold uF at z; dsimp only; omega)
  · exact y_D (fun c k z => by unfold uD at z; dsimp only; omega)
  · intro f hf
    have hf : f < cn S 2 := hf
    have g48 : gA (wA (wA (wi S 0 0) 48 j a) 49 j b) 48 f = if f = j then a else gA S 48 f := gA_p (S := wi S 0 0) (k := 48)
    have g49 : gA (wA (wA (wi S 0 0) 48 j a) 49 j b) 49 f = if f = j then b else gA S 49 f := gA_p (S := wA (wi S 0 0) 48 j a) (k := 49)
    rw [g48, g49]
    by_cases e : f = j
    · subst e
      rw [if_pos rfl, if_pos rfl, fI_k (by decide), fI_s, fI_s]
      exact ⟨rfl, rfl⟩
    · have hn := qf.ne4 hf hj e
      rw [if_neg e, if_neg e]
      simp only [fI_o hn]
      exact qg f hf
  · exact y_H (fun c k z => by unfold uH at z; dsimp only; omega)
  · exact y_P (fun c k z => by unfold uPl at z; dsimp only; omega)
  · exact y_W (fun c k z => by unfold uW at z; dsimp only; omega)
  · exact y_M (fun c k z => by unfold uM at z; dsimp only; omega)
  · exact y_E (fun c k z => by unfold uE at z; dsimp only; omega)
  · exact y_L (fun c k z => by unfold uLw at z; dsimp only; omega)
  · exact y_Q (fun c k z => by unfold uQ at z; dsimp only; omega)
  · exact y_T (fun c k z => by unfold uT at z; dsimp only; omega)
  · exact y_R (fun c k z => by unfold uR at z; dsimp only; omega)
  · exact y_C (fun c k z => by unfold uC at z; dsimp only; omega)
  · exact y_O (fun c k z => by unfold uO at z; dsimp only; omega)
  · exact y_I (fun c k z => by unfold uSg at z; dsimp only; omega)
theorem RX_census {B : Nat → Nat → Nat} {x : Nat} {S : Ms} {M : Mm} (hX : RX B x S M) (hV : INV S) {j t : Nat} {v : Int32} (hj : j < cn S 2) (ht : t < 4) : RX B x (wA (wi S 0 0) 47 (4 * j + t) v) (sI M (B 170 j) t v) ∧ agr TC M (sI M (B 170 j) t v) := by
  obtain ⟨qx, qs, qf, qd, qg, qh, qp, qw, qm, qe, ql, qq, qt, qr, qc, qo, qi⟩ := id hX
  have k170 : kd M (B 170 j) % 1000 = 170 := qf.k170 hj
  have g : agr (fun c k => c = 170 ∧ k < 4) M (sI M (B 170 j) t v) := agr.sI ⟨k170, ht⟩
  obtain ⟨y_X, y_S, y_F, y_D, y_G, y_H, y_P, y_W, y_M, y_E, y_L, y_Q, y_T, y_R, y_C, y_O, y_I⟩ := hX.fr hV g
  refine ⟨⟨?_, ?_, ?_, ?_, ?_, ?_, ?_, ?_, ?_, ?_, ?_, ?_, ?_, ?_, ?_, ?_, ?_⟩, g.mono (fun c k z => by unfold TC; omega)⟩
  · exact y_X (fun c k z => by unfold uX at z; dsimp only; omega)
  · exact y_S (fun c k z => by unfold uS at z; dsimp only; omega)
  · exact y_F (fun c k z => by unfold uF at z; dsimp only; omega)
  · exact y_D (fun c k z => by unfold uD at z; dsimp only; omega)
  · exact y_G (fun c k z => by unfold uG at z; dsimp only; omega)
  · intro f hf u hu
    have hf : f < cn S 2 := hf
    rw [show gA (wA (wi S 0 0) 47 (4 * j + t) v) 47 (4 * f + u) = if 4 * f + u = 4 * j + t then v else gA S 47 (4 * f + u) from gA_p (S := wi S 0 0) (k := 47)]
    by_cases e : f = j
    · subst e
      by_cases e2 : u = t
      · subst e2; rw [if_pos rfl, fI_s]
      · rw [if_neg (by omega), fI_k e2]; exact qh f hf u hu
    · have hn : B 170 f ≠ B 170 j := fun z => by
        have h1 := (qf.2 f hf).2.2.2.2.1.2.2.2.2.2.2
        rw [z, (qf.2 j hj).2.2.2.2.1.2.2.2.2.2.2] at h1; omega
      rw [if_neg (by omega), fI_o hn]; exact qh f hf u hu
  · exact y_P (fun c k z => by unfold uPl at z; dsimp only; omega)
  · exact y_W (fun c k z => by unfold uW at z; dsimp only; omega)
  · exact y_M (fun c k z => by unfold uM at z; dsimp only; omega)
  · exact y_E (fun c k z => by unfold uE at z; dsimp only; omega)
  · exact y_L (fun c k z => by unfold uLw at z; dsimp only; omega)
  · exact y_Q (fun c k z => by unfold uQ at z; dsimp only; omega)
  · exact y_T (fun c k z => by unfold uT at z; dsimp only; omega)
  · exact y_R (fun c k z => by unfold uR at z; dsimp only; omega)
  · exact y_C (fun c k z => by unfold uC at z; dsimp only; omega)
  · exact y_O (fun c k z => by unfold uO at z; dsimp only; omega)
  · exact y_I (fun c k z => by unfold uSg at z; dsimp only; omega)
theorem RX_table {B : Nat → Nat → Nat} {x : Nat} {S : Ms} {M : Mm} (hX : RX B x S M) (hV : INV S) {t l : Nat} {v : Int32} (ht : t < 4) (hl : l < 27) : RX B x (wA (wi S 0 0) 50 (27 * t + l) v) (sI M (B 171 t) l v) ∧ agr TC M (sI M (B 171 t) l v) := by
  obtain ⟨qx, qs, qf, qd, qg, qh, qp, qw, qm, qe, ql, qq, qt, qr, qc, qo, qi⟩ := id hX
  have k171 : kd M (B 171 t) % 1000 = 171 := by rw [(qt.2 t ht).2.2.2.1]; omega
  have g : agr (fun c k => c = 171) M (sI M (B 171 t) l v) := agr.sI k171
  obtain ⟨y_X, y_S, y_F, y_D, y_G, y_H, y_P, y_W, y_M, y_E, y_L, y_Q, y_T, y_R, y_C, y_O, y_I⟩ := hX.fr hV g
  refine ⟨⟨?_, ?_, ?_, ?_, ?_, ?_, ?_, ?_, ?_, ?_, ?_, ?_, ?_, ?_, ?_, ?_, ?_⟩, g.mono (fun c k z => by unfold TC; omega)⟩
  · exact y_X (fun c k z => by unfold uX at z; dsimp only; omega)
  · exact y_S (fun c k z => by unfold uS at z; dsimp only; omega)
  · exact y_F (fun c k z => by unfold uF at z; dsimp only; omega)
  · exact y_D (fun c k z => by unfold uD at z; dsimp only; omega)
  · exact y_G (fun c k z => by unfold uG at z; dsimp only; omega)
  · exact y_H (fun c k z => by unfold uH at z; dsimp only; omega)
  · exact y_P (fun c k z => by unfold uPl at z; dsimp only; omega)
  · exact y_W (fun c k z => by unfold uW at z; dsimp only; omega)
  · exact y_M (fun c k z => by unfold uM at z; dsimp only; omega)
  · exact y_E (fun c k z => by unfold uE at z; dsimp only; omega)
  · exact y_L (fun c k z => by unfold uLw at z; dsimp only; omega)
  · exact y_Q (fun c k z => by unfold uQ at z; dsimp only; omega)
  · refine ⟨qt.1, fun u hu => ?_⟩
    obtain ⟨a1, a2, a3, a4, a5, a6⟩ := qt.2 u hu
    refine ⟨a1, a2, a3, a4, a5, fun m hm => ?_⟩
    rw [show gA (wA (wi S 0 0) 50 (27 * t + l) v) 50 (27 * u + m) = if 27 * u + m = 27 * t + l then v else gA S 50 (27 * u + m) from gA_p (S := wi S 0 0) (k := 50)]
    by_cases e : u = t
    · subst e
      by_cases e2 : m = l
      · subst e2; rw [if_pos rfl, fI_s]
      · rw [if_neg (by omega), fI_k e2]; exact a6 m hm
    · have hn : B 171 u ≠ B 171 t := fun z => by
        have h1 := (qt.2 t ht).2.2.2.1
        rw [← z, a4] at h1; omega
      rw [if_neg (by omega), fI_o hn]; exact a6 m hm
  · exact y_R (fun c k z => by unfold uR at z; dsimp only; omega)
  · exact y_C (fun c k z => by unfold uC at z; dsimp only; omega)
  · exact y_O (fun c k z => by unfold uO at z; dsimp only; omega)
  · exact y_I (fun c k z => by unfold uSg at z; dsimp only; omega)
theorem RX_pull {B : Nat → Nat → Nat} {x : Nat} {S : Ms} {M : Mm} (hX : RX B x S M) (hV : INV S) {s : Nat} {v : Int32} (hs : s < 4) : RX B x (wA (wi S 0 0) 55 s v) (sI M (B 175 0) s v) ∧ agr TC M (sI M (B 175 0) s v) := by
  obtain ⟨qx, qs, qf, qd, qg, qh, qp, qw, qm, qe, ql, qq, qt, qr, qc, qo, qi⟩ := id hX
  have g : agr (fun c k => c = 175 ∧ k < 4) M (sI M (B 175 0) s v) := agr.sI ⟨by rw [show kd M (B 175 0) = 175 from qx.k 7 (by decide)], hs⟩
  obtain ⟨y_X, y_S, y_F, y_D, y_G, y_H, y_P, y_W, y_M, y_E, y_L, y_Q, y_T, y_R, y_C, y_O, y_I⟩ := hX.fr hV g
  refine ⟨⟨?_, ?_, ?_, ?_, ?_, ?_, ?_, ?_, ?_, ?_, ?_, ?_, ?_, ?_, ?_, ?_, ?_⟩, g.mono (fun c k z => by unfold TC; omega)⟩
  · exact y_X (fun c k z => by unfold uX at z; dsimp only; omega)
  · exact y_S (fun c k z => by unfold uS at z; dsimp only; omega)
  · exact y_F (fun c k z => by unfold uF at z; dsimp only; omega)
  · exact y_D (fun c k z => by unfold uD at z; dsimp only; omega)
  · exact y_G (fun c k z => by unfold uG at z; dsimp only; omega)
  · exact y_H (fun c k z => by unfold uH at z; dsimp only; omega)
  · exact y_P (fun c k z => by unfold uPl at z; dsimp only; omega)
  · exact y_W (fun c k z => by unfold uW at z; dsimp only; omega)
  · exact y_M (fun c k z => by unfold uM at z; dsimp only; omega)
  · exact y_E (fun c k z => by unfold uE at z; dsimp only; omega)
  · exact y_L (fun c k z => by unfold uLw at z; dsimp only; omega)
  · exact y_Q (fun c k z => by unfold uQ at z; dsimp only; omega)
  · exact y_T (fun c k z => by unfold uT at z; dsimp only; omega)
  · exact y_R (fun c k z => by unfold uR at z; dsimp only; omega)
  · intro u hu
    rw [show gA (wA (wi S 0 0) 55 s v) 55 u = if u = s then v else gA S 55 u from gA_p (S := wi S 0 0) (k := 55)]
    by_cases e : u = s
    · subst e; rw [if_pos rfl, fI_s]
    · rw [if_neg e, fI_k e]; exact qc u hu
  · exact y_O (fun c k z => by unfold uO at z; dsimp only; omega)
  · exact y_I (fun c k z => by unfold uSg at z; dsimp only; omega)
theorem RX_budget {B : Nat → Nat → Nat} {x : Nat} {S : Ms} {M : Mm} (hX : RX B x S M) (hV : INV S) {v : Int32} : RX B x (wi (wi S 0 0) 59 v) (sI M x 13 v) ∧ agr TC M (sI M x 13 v) := by
  obtain ⟨qx, qs, qf, qd, qg, qh, qp, qw, qm, qe, ql, qq, qt, qr, qc, qo, qi⟩ := id hX
  have k11 : kd M x % 1000 = 11 := by rw [qx.1]
  have g : agr (fun c k => c = 11 ∧ k = 13) M (sI M x 13 v) := agr.sI ⟨k11, rfl⟩
  obtain ⟨y_X, y_S, y_F, y_D, y_G, y_H, y_P, y_W, y_M, y_E, y_L, y_Q, y_T, y_R, y_C, y_O, y_I⟩ := hX.fr hV g
  refine ⟨⟨?_, ?_, ?_, ?_, ?_, ?_, ?_, ?_, ?_, ?_, ?_, ?_, ?_, ?_, ?_, ?_, ?_⟩, g.mono (fun c k z => by unfold TC; omega)⟩
  · exact y_X (fun c k z => by unfold uX at z; dsimp only; omega)
  · obtain ⟨a1, a2, a3, a4⟩ := qs
    exact ⟨(fI_k (by decide)).trans a1, (fI_k (by decide)).trans a2, (fI_k (by decide)).trans a3, fI_s⟩
  · exact y_F (fun c k z => by unfold uF at z; dsimp only; omega)
  · exact y_D (fun c k z => by unfold uD at z; dsimp only; omega)
  · exact y_G (fun c k z => by unfold uG at z; dsimp only; omega)
  · exact y_H (fun c k z => by unfold uH at z; dsimp only; omega)
  · exact y_P (fun c k z => by unfold uPl at z; dsimp only; omega)
  · exact y_W (fun c k z => by unfold uW at z; dsimp only; omega)
  · exact y_M (fun c k z => by unfold uM at z; dsimp only; omega)
  · exact y_E (fun c k z => by unfold uE at z; dsimp only; omega)
  · exact y_L (fun c k z => by unfold uLw at z; dsimp only; omega)
  · exact y_Q (fun c k z => by unfold uQ at z; dsimp only; omega)
  · exact y_T (fun c k z => by unfold uT at z; dsimp only; omega)
  · exact y_R (fun c k z => by unfold uR at z; dsimp only; omega)
  · exact y_C (fun c k z => by unfold uC at z; dsimp only; omega)
  · exact y_O (fun c k z => by unfold uO at z; dsimp only; omega)
  · exact y_I (fun c k z => by unfold uSg at z; dsimp only; omega)
theorem RX_vf {B : Nat → Nat → Nat} {x : Nat} {S : Ms} {M : Mm} (hX : RX B x S M) (hV : INV S) {p : Nat} {v : Int32} (hp : p < cn S 36) : RX B x (wA (wi S 0 0) 42 p v) (sI M (elt M (B 402 0) p) 5 v) ∧ agr TC M (sI M (elt M (B 402 0) p) 5 v) := by
  obtain ⟨qx, qs, qf, qd, qg, qh, qp, qw, qm, qe, ql, qq, qt, qr, qc, qo, qi⟩ := id hX
  have k8 : kd M (elt M (B 402 0) p) % 1000 = 8 := by rw [(qq.2 p hp).2.1]; omega
  have g : agr (fun c k => c = 8 ∧ k = 5) M (sI M (elt M (B 402 0) p) 5 v) := agr.sI ⟨k8, rfl⟩
  obtain ⟨y_X, y_S, y_F, y_D, y_G, y_H, y_P, y_W, y_M, y_E, y_L, y_Q, y_T, y_R, y_C, y_O, y_I⟩ := hX.fr hV g
  refine ⟨⟨?_, ?_, ?_, ?_, ?_, ?_, ?_, ?_, ?_, ?_, ?_, ?_, ?_, ?_, ?_, ?_, ?_⟩, g.mono (fun c k z => by unfold TC; omega)⟩
  · exact y_X (fun c k z => by unfold uX at z; dsimp only; omega)
  · exact y_S (fun c k z => by unfold uS at z; dsimp only; omega)
  · exact y_F (fun c k z => by unfold uF at z; dsimp only; omega)
  · exact y_D (fun c k z => by unfold uD at z; dsimp only; omega)
  · exact y_G (fun c k z => by unfold uG at z; dsimp only; omega)
  · exact y_H (fun c k z => by unfold uH at z; dsimp only; omega)
  · exact y_P (fun c k z => by unfold uPl at z; dsimp only; omega)
  · exact y_W (fun c k z => by unfold uW at z; dsimp only; omega)
  · exact y_M (fun c k z => by unfold uM at z; dsimp only; omega)
  · exact y_E (fun c k z => by unfold uE at z; dsimp only; omega)
  · exact y_L (fun c k z => by unfold uLw at z; dsimp only; omega)
  · refine ⟨qq.1, fun u hu => ?_⟩
    obtain ⟨a1, a2, a3, a4, a5, a6, a7, a8, a9, b1, b2, b3⟩ := qq.2 u hu
    have ge : gA (wA (wi S 0 0) 42 p v) 42 u = if u = p then v else gA S 42 u := gA_p (S := wi S 0 0) (k := 42)
    show qQ1 B (wA (wi S 0 0) 42 p v) (sI M (elt M (B 402 0) p) 5 v) (B 402 0) u
    unfold qQ1
    rw [ge]
    by_cases e : u = p
    · subst e
      rw [if_pos rfl]
      refine ⟨a1, a2, a3, ?_, a5, ?_, ?_, ?_, ?_, ?_, ?_, b3⟩
      · exact (fI_k (by decide)).trans a4
      · exact (fI_k (by decide)).trans a6
      · exact (fI_k (by decide)).trans a7
      · exact fI_s
      · exact (fI_k (by decide)).trans a9
      · exact (fI_k (by decide)).trans b1
      · exact (fI_k (by decide)).trans b2
    · have hn : elt M (B 402 0) u ≠ elt M (B 402 0) p := fun z => by
        have h1 := (qq.2 p hp).2.1
        rw [← z, a2] at h1; omega
      rw [if_neg e]
      refine ⟨a1, a2, a3, ?_, a5, ?_, ?_, ?_, ?_, ?_, ?_, b3⟩
      · exact (fI_o hn).trans a4
      · exact (fI_o hn).trans a6
      · exact (fI_o hn).trans a7
      · exact (fI_o hn).trans a8
      · exact (fI_o hn).trans a9
      · exact (fI_o hn).trans b1
      · exact (fI_o hn).trans b2
  · exact y_T (fun c k z => by unfold uT at z; dsimp only; omega)
  · exact y_R (fun c k z => by unfold uR at z; dsimp only; omega)
  · exact y_C (fun c k z => by unfold uC at z; dsimp only; omega)
  · exact y_O (fun c k z => by unfold uO at z; dsimp only; omega)
  · exact y_I (fun c k z => by unfold uSg at z; dsimp only; omega)
theorem RX_va {B : Nat → Nat → Nat} {x : Nat} {S : Ms} {M : Mm} (hX : RX B x S M) (hV : INV S) {p : Nat} {v : Int32} (hp : p < cn S 36) : RX B x (wA (wi S 0 0) 43 p v) (sI M (elt M (B 402 0) p) 6 v) ∧ agr TC M (sI M (elt M (B 402 0) p) 6 v) := by
  obtain ⟨qx, qs, qf, qd, qg, qh, qp, qw, qm, qe, ql, qq, qt, qr, qc, qo, qi⟩ := id hX
  have k8 : kd M (elt M (B 402 0) p) % 1000 = 8 := by rw [(qq.2 p hp).2.1]; omega
  have g : agr (fun c k => c = 8 ∧ k = 6) M (sI M (elt M (B 402 0) p) 6 v) := agr.sI ⟨k8, rfl⟩
  obtain ⟨y_X, y_S, y_F, y_D, y_G, y_H, y_P, y_W, y_M, y_E, y_L, y_Q, y_T, y_R, y_C, y_O, y_I⟩ := hX.fr hV g
  refine ⟨⟨?_, ?_, ?_, ?_, ?_, ?_, ?_, ?_, ?_, ?_, ?_, ?_, ?_, ?_, ?_, ?_, ?_⟩, g.mono (fun c k z => by unfold TC; omega)⟩
  · exact y_X (fun c k z => by unfold uX at z; dsimp only; omega)
  · exact y_S (fun c k z => by unfold uS at z; dsimp only; omega)
  · exact y_F (fun c k z => by unfold uF at z; dsimp only; omega)
  · exact y_D (fun c k z => by unfold uD at z; dsimp only; omega)
  · exact y_G (fun c k z => by unfold uG at z; dsimp only; omega)
  · exact y_H (fun c k z => by unfold uH at z; dsimp only; omega)
  · exact y_P (fun c k z => by unfold uPl at z; dsimp only; omega)
  · exact y_W (fun c k z => by unfold uW at z; dsimp only; omega)
  · exact y_M (fun c k z => by unfold uM at z; dsimp only; omega)
  · exact y_E (fun c k z => by unfold uE at z; dsimp only; omega)
  · exact y_L (fun c k z => by unfold uLw at z; dsimp only; omega)
  · refine ⟨qq.1, fun u hu => ?_⟩
    obtain ⟨a1, a2, a3, a4, a5, a6, a7, a8, a9, b1, b2, b3⟩ := qq.2 u hu
    have ge : gA (wA (wi S 0 0) 43 p v) 43 u = if u = p then v else gA S 43 u := gA_p (S := wi S 0 0) (k := 43)
    show qQ1 B (wA (wi S 0 0) 43 p v) (sI M (elt M (B 402 0) p) 6 v) (B 402 0) u
    unfold qQ1
    rw [ge]
    by_cases e : u = p
    · subst e
      rw [if_pos rfl]
      refine ⟨a1, a2, a3, ?_, a5, ?_, ?_, ?_, ?_, ?_, ?_, b3⟩
      · exact (fI_k (by decide)).trans a4
      · exact (fI_k (by decide)).trans a6
      · exact (fI_k (by decide)).trans a7
      · exact (fI_k (by decide)).trans a8
      · exact fI_s
      · exact (fI_k (by decide)).trans b1
      · exact (fI_k (by decide)).trans b2
    · have hn : elt M (B 402 0) u ≠ elt M (B 402 0) p := fun z => by
        have h1 := (qq.2 p hp).2.1
        rw [← z, a2] at h1; omega
      rw [if_neg e]
      refine ⟨a1, a2, a3, ?_, a5, ?_, ?_, ?_, ?_, ?_, ?_, b3⟩
      · exact (fI_o hn).trans a4
      · exact (fI_o hn).trans a6
      · exact (fI_o hn).trans a7
      · exact (fI_o hn).trans a8
      · exact (fI_o hn).trans a9
      · exact (fI_o hn).trans b1
      · exact (fI_o hn).trans b2
  · exact y_T (fun c k z => by unfold uT at z; dsimp only; omega)
  · exact y_R (fun c k z => by unfold uR at z; dsimp only; omega)
  · exact y_C (fun c k z => by unfold uC at z; dsimp only; omega)
  · exact y_O (fun c k z => by unfold uO at z; dsimp only; omega)
  · exact y_I (fun c k z => by unfold uSg at z; dsimp only; omega)
theorem RX_pro {B : Nat → Nat → Nat} {x : Nat} {S : Ms} {M : Mm} (hX : RX B x S M) (hV : INV S) {p : Nat} {v : Int32} (hp : p < cn S 36) : RX B x (wA (wi S 0 0) 44 p v) (sI M (elt M (B 402 0) p) 7 v) ∧ agr TC M (sI M (elt M (B 402 0) p) 7 v) := by
  obtain ⟨qx, qs, qf, qd, qg, qh, qp, qw, qm, qe, ql, qq, qt, qr, qc, qo, qi⟩ := id hX
  have k8 : kd M (elt M (B 402 0) p) % 1000 = 8 := by rw [(qq.2 p hp).2.1]; omega
  have g : agr (fun c k => c = 8 ∧ k = 7) M (sI M (elt M (B 402 0) p) 7 v) := agr.sI ⟨k8, rfl⟩
  obtain ⟨y_X, y_S, y_F, y_D, y_G, y_H, y_P, y_W, y_M, y_E, y_L, y_Q, y_T, y_R, y_C, y_O, y_I⟩ := hX.fr hV g
  refine ⟨⟨?_, ?_, ?_, ?_, ?_, ?_, ?_, ?_, ?_, ?_, ?_, ?_, ?_, ?_, ?_, ?_, ?_⟩, g.mono (fun c k z => by unfold TC; omega)⟩
  · exact y_X (fun c k z => by unfold uX at z; dsimp only; omega)
  · exact y_S (fun c k z => by unfold uS at z; dsimp only; omega)
  · exact y_F (fun c k z => by unfold uF at z; dsimp only; omega)
  · exact y_D (fun c k z => by unfold uD at z; dsimp only; omega)
  · exact y_G (fun c k z => by unfold uG at z; dsimp only; omega)
  · exact y_H (fun c k z => by unfold uH at z; dsimp only; omega)
  · exact y_P (fun c k z => by unfold uPl at z; dsimp only; omega)
  · exact y_W (fun c k z => by unfold uW at z; dsimp only; omega)
  · exact y_M (fun c k z => by unfold uM at z; dsimp only; omega)
  · exact y_E (fun c k z => by unfold uE at z; dsimp only; omega)
  · exact y_L (fun c k z => by unfold uLw at z; dsimp only; omega)
  · refine ⟨qq.1, fun u hu => ?_⟩
    obtain ⟨a1, a2, a3, a4, a5, a6, a7, a8, a9, b1, b2, b3⟩ := qq.2 u hu
    have ge : gA (wA (wi S 0 0) 44 p v) 44 u = if u = p then v else gA S 44 u := gA_p (S := wi S 0 0) (k := 44)
    show qQ1 B (wA (wi S 0 0) 44 p v) (sI M (elt M (B 402 0) p) 7 v) (B 402 0) u
    unfold qQ1
    rw [ge]
    by_cases e : u = p
    · subst e
      rw [if_pos rfl]
      refine ⟨a1, a2, a3, ?_, a5, ?_, ?_, ?_, ?_, ?_, ?_, b3⟩
      · exact (fI_k (by decide)).trans a4
      · exact (fI_k (by decide)).trans a6
      · exact (fI_k (by decide)).trans a7
      · exact (fI_k (by decide)).trans a8
      · exact (fI_k (by decide)).trans a9
      · exact fI_s
      · exact (fI_k (by decide)).trans b2
    · have hn : elt M (B 402 0) u ≠ elt M (B 402 0) p := fun z => by
        have h1 := (qq.2 p hp).2.1
        rw [← z, a2] at h1; omega
      rw [if_neg e]
      refine ⟨a1, a2, a3, ?_, a5, ?_, ?_, ?_, ?_, ?_, ?_, b3⟩
      · exact (fI_o hn).trans a4
      · exact (fI_o hn).trans a6
      · exact (fI_o hn).trans a7
      · exact (fI_o hn).trans a8
      · exact (fI_o hn).trans a9
      · exact (fI_o hn).trans b1
      · exact (fI_o hn).trans b2
  · exact y_T (fun c k z => by unfold uT at z; dsimp only; omega)
  · exact y_R (fun c k z => by unfold uR at z; dsimp only; omega)
  · exact y_C (fun c k z => by unfold uC at z; dsimp only; omega)
  · exact y_O (fun c k z => by unfold uO at z; dsimp only; omega)
  · exact y_I (fun c k z => by unfold uSg at z; dsimp only; omega)
theorem RX_d8 {B : Nat → Nat → Nat} {x : Nat} {S : Ms} {M : Mm} (hX : RX B x S M) (hV : INV S) {p : Nat} {v : Int32} (hp : p < cn S 36) : RX B x (wA (wi S 0 0) 45 p v) (sI M (elt M (B 402 0) p) 8 v) ∧ agr TC M (sI M (elt M (B 402 0) p) 8 v) := by
  obtain ⟨qx, qs, qf, qd, qg, qh, qp, qw, qm, qe, ql, qq, qt, qr, qc, qo, qi⟩ := id hX
  have k8 : kd M (elt M (B 402 0) p) % 1000 = 8 := by rw [(qq.2 p hp).2.1]; omega
  have g : agr (fun c k => c = 8 ∧ k = 8) M (sI M (elt M (B 402 0) p) 8 v) := agr.sI ⟨k8, rfl⟩
  obtain ⟨y_X, y_S, y_F, y_D, y_G, y_H, y_P, y_W, y_M, y_E, y_L, y_Q, y_T, y_R, y_C, y_O, y_I⟩ := hX.fr hV g
  refine ⟨⟨?_, ?_, ?_, ?_, ?_, ?_, ?_, ?_, ?_, ?_, ?_, ?_, ?_, ?_, ?_, ?_, ?_⟩, g.mono (fun c k z => by unfold TC; omega)⟩
  · exact y_X (fun c k z => by unfold uX at z; dsimp only; omega)
  · exact y_S (fun c k z => by unfold uS at z; dsimp only; omega)
  · exact y_F (fun c k z => by unfold uF at z; dsimp only; omega)
  · exact y_D (fun c k z => by unfold uD at z; dsimp only; omega)
  · exact y_G (fun c k z => by unfold uG at z; dsimp only; omega)
  · exact y_H (fun c k z => by unfold uH at z; dsimp only; omega)
  · exact y_P (fun c k z => by unfold uPl at z; dsimp only; omega)
  · exact y_W (fun c k z => by unfold uW at z; dsimp only; omega)
  · exact y_M (fun c k z => by unfold uM at z; dsimp only; omega)
  · exact y_E (fun c k z => by unfold uE at z; dsimp only; omega)
  · exact y_L (fun c k z => by unfold uLw at z; dsimp only; omega)
  · refine ⟨qq.1, fun u hu => ?_⟩
    obtain ⟨a1, a2, a3, a4, a5, a6, a7, a8, a9, b1, b2, b3⟩ := qq.2 u hu
    have ge : gA (wA (wi S 0 0) 45 p v) 45 u = if u = p then v else gA S 45 u := gA_p (S := wi S 0 0) (k := 45)
    show qQ1 B (wA (wi S 0 0) 45 p v) (sI M (elt M (B 402 0) p) 8 v) (B 402 0) u
    unfold qQ1
    rw [ge]
    by_cases e : u = p
    · subst e
      rw [if_pos rfl]
      refine ⟨a1, a2, a3, ?_, a5, ?_, ?_, ?_, ?_, ?_, ?_, b3⟩
      · exact (fI_k (by decide)).trans a4
      · exact (fI_k (by decide)).trans a6
      · exact (fI_k (by decide)).trans a7
      · exact (fI_k (by decide)).trans a8
      · exact (fI_k (by decide)).trans a9
      · exact (fI_k (by decide)).trans b1
      · exact fI_s
    · have hn : elt M (B 402 0) u ≠ elt M (B 402 0) p := fun z => by
        have h1 := (qq.2 p hp).2.1
        rw [← z, a2] at h1; omega
      rw [if_neg e]
      refine ⟨a1, a2, a3, ?_, a5, ?_, ?_, ?_, ?_, ?_, ?_, b3⟩
      · exact (fI_o hn).trans a4
      · exact (fI_o hn).trans a6
      · exact (fI_o hn).trans a7
      · exact (fI_o hn).trans a8
      · exact (fI_o hn).trans a9
      · exact (fI_o hn).trans b1
      · exact (fI_o hn).trans b2
  · exact y_T (fun c k z => by unfold uT at z; dsimp only; omega)
  · exact y_R (fun c k z => by unfold uR at z; dsimp only; omega)
  · exact y_C (fun c k z => by unfold uC at z; dsimp only; omega)
  · exact y_O (fun c k z => by unfold uO at z; dsimp only; omega)
  · exact y_I (fun c k z => by unfold uSg at z; dsimp only; omega)
