theorem psh_lo {M : Mm} {l v b : Nat} (h : b ≠ l) : ln (psh M l v) b = ln M b := by
  show ln (sN M l (ln M l + 1)) b = _
  rw [ln_sN, if_neg h]
theorem psh_ro {M : Mm} {l v b i : Nat} (h : b ≠ l) : fR (psh M l v) b i = fR M b i := by
  unfold psh
  rw [fR_sR, if_neg (fun z => h z.1)]; rfl
theorem psh_ls {M : Mm} {l v : Nat} : ln (psh M l v) l = ln M l + 1 := by
  show ln (sN M l (ln M l + 1)) l = _
  rw [ln_sN, if_pos rfl]
theorem psh_rs {M : Mm} {l v : Nat} : fR (psh M l v) l (ln M l) = some v := by
  unfold psh
  rw [fR_sR, if_pos ⟨rfl, rfl⟩]
theorem psh_rn {M : Mm} {l v i : Nat} (h : i ≠ ln M l) : fR (psh M l v) l i = fR M l i := by
  unfold psh
  rw [fR_sR, if_neg (fun z => h z.2)]; rfl
def nwc (M M1 : Mm) (e : Nat) : Prop := kd M e = 0 ∧ ∀ a, kd M a ≠ 0 → same M M1 a
theorem nwc_agr {T : Nat → Nat → Prop} {M M1 : Mm} {e : Nat} (h : nwc M M1 e) : agr T M M1 := agr.same h.2
theorem nwc_ln {M M1 : Mm} {e a : Nat} (h : nwc M M1 e) (ha : kd M a ≠ 0) : ln M1 a = ln M a := (h.2 a ha).2.2.2.2.symm
theorem nwc_kd {M M1 : Mm} {e a : Nat} (h : nwc M M1 e) (ha : kd M a ≠ 0) : kd M1 a = kd M a := (h.2 a ha).1.symm
theorem nwc_fR {M M1 : Mm} {e a : Nat} (h : nwc M M1 e) (ha : kd M a ≠ 0) (i : Nat) : fR M1 a i = fR M a i := (congrFun (h.2 a ha).2.2.2.1 i).symm
theorem nwc_ent {M : Mm} {e ke : Nat} {v d n : Int32} (h : kd M e = 0) : nwc M (entM M e ke v d n) e :=
  ⟨h, fun a ha => by
    have hae : a ≠ e := fun z => ha (by rw [z]; exact h)
    exact (((same.al hae).tr (same.sI hae)).tr (same.sI hae)).tr (same.sI hae)⟩
theorem agr_psh {T : Nat → Nat → Prop} {M M1 : Mm} {e l c : Nat} (h : nwc M M1 e) (hk : kd M l % 1000 = c) (h0 : c ≠ 0) (hT : ∀ k, T c k) (hl : T (c + 1000) 0) : agr T M (psh M1 l e) := by
  have hl0 : kd M l ≠ 0 := fun z => h0 (by rw [← hk, z])
  have e1 : kd M1 l % 1000 = c := by rw [nwc_kd h hl0]; exact hk
  exact (nwc_agr h).tr (agr.psh (by rw [e1]; exact hT) (by rw [e1]; exact hl))
theorem gl_ln {M M1 : Mm} {e l : Nat} (h : nwc M M1 e) (hk : kd M l ≠ 0) : ln (psh M1 l e) l = ln M l + 1 := by rw [psh_ls, nwc_ln h hk]
theorem gl_new {M M1 : Mm} {e l : Nat} (h : nwc M M1 e) (hk : kd M l ≠ 0) : fR (psh M1 l e) l (ln M l) = some e := by
  have h1 := psh_rs (M := M1) (l := l) (v := e)
  rw [nwc_ln h hk] at h1; exact h1
theorem gl_old {M M1 : Mm} {e l i : Nat} (h : nwc M M1 e) (hk : kd M l ≠ 0) (hi : i ≠ ln M l) : fR (psh M1 l e) l i = fR M l i := by
  rw [psh_rn (by rw [nwc_ln h hk]; exact hi), nwc_fR h hk]
theorem gl_lo {M M1 : Mm} {e l b : Nat} (h : nwc M M1 e) (hk : kd M b ≠ 0) (hb : b ≠ l) : ln (psh M1 l e) b = ln M b := by rw [psh_lo hb, nwc_ln h hk]
theorem gl_ro {M M1 : Mm} {e l b i : Nat} (h : nwc M M1 e) (hk : kd M b ≠ 0) (hb : b ≠ l) : fR (psh M1 l e) b i = fR M b i := by rw [psh_ro hb, nwc_fR h hk]
theorem elt_new {M : Mm} {l i e : Nat} (h : fR M l i = some e) : elt M l i = e := by unfold elt; rw [h]; rfl
theorem RX_move {B : Nat → Nat → Nat} {x : Nat} {S : Ms} {M : Mm} (hX : RX B x S M) (hV : INV S) {j e : Nat} {p q d : Int32} (hj : j < cn S 2) (hc : ca S 5 j < 40) (he : kd M e = 0) : RX B x (wA (wA (wA (wA (wA (wi S 0 0) 6 (40 * j + ca S 5 j) p) 7 (40 * j + ca S 5 j) q) 8 (40 * j + ca S 5 j) d) 9 (40 * j + ca S 5 j) (gi S 1)) 5 j (gA S 5 j + 1)) (psh (entM M e 2 (p * 100 + q) d (gi S 1)) (B 412 j) e) ∧ agr TC M (psh (entM M e 2 (p * 100 + q) d (gi S 1)) (B 412 j) e) := by
  obtain ⟨qx, qs, qf, qd, qg, qh, qp, qw, qm, qe, ql, qq, qt, qr, qc, qo, qi⟩ := id hX
  have hw := nwc_ent (ke := 2) (v := (p * 100 + q)) (d := d) (n := gi S 1) he
  have hcA : gA S 5 j = nI (ca S 5 j) := (hV.2.1 j hj).2.2.1.1
  have hcb : ∀ f, f < cn S 2 → ca S 5 f ≤ 40 := fun f hf => (hV.2.1 f hf).2.2.1.2
  have g : agr (fun c k => c = 412 ∨ c = 1412) M (psh (entM M e 2 (p * 100 + q) d (gi S 1)) (B 412 j) e) := agr_psh hw (qf.k412 hj) (by decide) (fun k => Or.inl rfl) (Or.inr rfl)
  obtain ⟨y_X, y_S, y_F, y_D, y_G, y_H, y_P, y_W, y_M, y_E, y_L, y_Q, y_T, y_R, y_C, y_O, y_I⟩ := hX.fr hV g
  refine ⟨⟨?_, ?_, ?_, ?_, ?_, ?_, ?_, ?_, ?_, ?_, ?_, ?_, ?_, ?_, ?_, ?_, ?_⟩, g.mono (fun c k z => by unfold TC; omega)⟩
  · exact y_X (fun c k z => by unfold uX at z; dsimp only; omega)
  · exact y_S (fun c k z => by unfold uS at z; dsimp only; omega)
  · exact y_F (fun c k z => by unfold uF at z; dsimp only; omega)
  · exact y_D (fun c k z => by unfold uD at z; dsimp only; omega)
  · exact y_G (fun c k z => by unfold uG at z; dsimp only; omega)
  · exact y_H (fun c k z => by unfold uH at z; dsimp only; omega)
  · intro f hf
    have hf : f < cn S 2 := hf
    have g6 : ∀ i, gA (wA (wA (wA (wA (wA (wi S 0 0) 6 (40 * j + ca S 5 j) p) 7 (40 * j + ca S 5 j) q) 8 (40 * j + ca S 5 j) d) 9 (40 * j + ca S 5 j) (gi S 1)) 5 j (gA S 5 j + 1)) 6 i = if i = (40 * j + ca S 5 j) then p else gA S 6 i := fun i => gA_p (S := (wi S 0 0)) (k := 6)
    have g7 : ∀ i, gA (wA (wA (wA (wA (wA (wi S 0 0) 6 (40 * j + ca S 5 j) p) 7 (40 * j + ca S 5 j) q) 8 (40 * j + ca S 5 j) d) 9 (40 * j + ca S 5 j) (gi S 1)) 5 j (gA S 5 j + 1)) 7 i = if i = (40 * j + ca S 5 j) then q else gA S 7 i := fun i => gA_p (S := (wA (wi S 0 0) 6 (40 * j + ca S 5 j) p)) (k := 7)
    have g8 : ∀ i, gA (wA (wA (wA (wA (wA (wi S 0 0) 6 (40 * j + ca S 5 j) p) 7 (40 * j + ca S 5 j) q) 8 (40 * j + ca S 5 j) d) 9 (40 * j + ca S 5 j) (gi S 1)) 5 j (gA S 5 j + 1)) 8 i = if i = (40 * j + ca S 5 j) then d else gA S 8 i := fun i => gA_p (S := (wA (wA (wi S 0 0) 6 (40 * j + ca S 5 j) p) 7 (40 * j + ca S 5 j) q)) (k := 8)
    have g9 : ∀ i, gA (wA (wA (wA (wA (wA (wi S 0 0) 6 (40 * j + ca S 5 j) p) 7 (40 * j + ca S 5 j) q) 8 (40 * j + ca S 5 j) d) 9 (40 * j + ca S 5 j) (gi S 1)) 5 j (gA S 5 j + 1)) 9 i = if i = (40 * j + ca S 5 j) then gi S 1 else gA S 9 i := fun i => gA_p (S := (wA (wA (wA (wi S 0 0) 6 (40 * j + ca S 5 j) p) 7 (40 * j + ca S 5 j) q) 8 (40 * j + ca S 5 j) d)) (k := 9)
    have gc : ∀ f, gA (wA (wA (wA (wA (wA (wi S 0 0) 6 (40 * j + ca S 5 j) p) 7 (40 * j + ca S 5 j) q) 8 (40 * j + ca S 5 j) d) 9 (40 * j + ca S 5 j) (gi S 1)) 5 j (gA S 5 j + 1)) 5 f = if f = j then gA S 5 j + 1 else gA S 5 f := fun f => gA_p (k := 5)
    obtain ⟨h1, h2⟩ := qp f hf
    have kf := qf.k412 hf
    have kf0 : kd M (B 412 f) ≠ 0 := fun z => by rw [z] at kf; cases kf
    have old : ∀ i, i < ca S 5 f → fR (psh (entM M e 2 (p * 100 + q) d (gi S 1)) (B 412 j) e) (B 412 f) i = fR M (B 412 f) i → qP1 (wA (wA (wA (wA (wA (wi S 0 0) 6 (40 * j + ca S 5 j) p) 7 (40 * j + ca S 5 j) q) 8 (40 * j + ca S 5 j) d) 9 (40 * j + ca S 5 j) (gi S 1)) 5 j (gA S 5 j + 1)) (psh (entM M e 2 (p * 100 + q) d (gi S 1)) (B 412 j) e) (B 412 f) f i := by
      intro i hi hr
      have h9 := (h2 i hi).fr g hr (fun k => by omega)
      unfold qP1 at h9 ⊢
      have hcb9 := hcb f hf
      have hne : ¬ 40 * f + i = (40 * j + ca S 5 j) := by
        by_cases e9 : f = j
        · rw [e9] at hi ⊢; omega
        · omega
      rw [g6, if_neg hne, g7, if_neg hne, g8, if_neg hne, g9, if_neg hne]
      exact h9
    by_cases e9 : f = j
    · rw [e9] at h1 h2 kf kf0 old ⊢
      have hcn : ca (wA (wA (wA (wA (wA (wi S 0 0) 6 (40 * j + ca S 5 j) p) 7 (40 * j + ca S 5 j) q) 8 (40 * j + ca S 5 j) d) 9 (40 * j + ca S 5 j) (gi S 1)) 5 j (gA S 5 j + 1)) 5 j = ca S 5 j + 1 := ca_v (by rw [gc, if_pos rfl, hcA, nI_s]) (by omega)
      rw [gl_ln hw kf0, h1, hcn]
      refine ⟨rfl, fun i hi => ?_⟩
      by_cases e8 : i = ca S 5 j
      · rw [e8]
        have hr : fR (psh (entM M e 2 (p * 100 + q) d (gi S 1)) (B 412 j) e) (B 412 j) (ca S 5 j) = some e := by rw [← h1]; exact gl_new hw kf0
        unfold qP1
        rw [elt_new hr, hr, g6, if_pos rfl, g7, if_pos rfl, g8, if_pos rfl, g9, if_pos rfl]
        refine ⟨rfl, ?_, ?_, ?_, ?_⟩
        · show kd (entM M e 2 (p * 100 + q) d (gi S 1)) e % 1000 = 2
          rw [kd_entM, if_pos rfl]
        · show fI (entM M e 2 (p * 100 + q) d (gi S 1)) e 0 = _
          unfold entM; rw [fI_k (by decide), fI_k (by decide), fI_s]
        · show fI (entM M e 2 (p * 100 + q) d (gi S 1)) e 1 = _
          unfold entM; rw [fI_k (by decide), fI_s]
        · show fI (entM M e 2 (p * 100 + q) d (gi S 1)) e 2 = _
          unfold entM; rw [fI_s]
      · exact old i (by omega) (gl_old hw kf0 (by rw [h1]; exact e8))
    · have hn : B 412 f ≠ B 412 j := fun z => by
        have h3 := (qf.2 f hf).2.2.2.2.1.2.2.2.2.1
        rw [z, (qf.2 j hj).2.2.2.2.1.2.2.2.2.1] at h3; omega
      have hcn : ca (wA (wA (wA (wA (wA (wi S 0 0) 6 (40 * j + ca S 5 j) p) 7 (40 * j + ca S 5 j) q) 8 (40 * j + ca S 5 j) d) 9 (40 * j + ca S 5 j) (gi S 1)) 5 j (gA S 5 j + 1)) 5 f = ca S 5 f := ca_e (by rw [gc, if_neg e9])
      rw [gl_lo hw kf0 hn, hcn]
      exact ⟨h1, fun i hi => old i hi (gl_ro hw kf0 hn)⟩
  · exact y_W (fun c k z => by unfold uW at z; dsimp only; omega)
  · exact y_M (fun c k z => by unfold uM at z; dsimp only; omega)
  · exact y_E (fun c k z => by unfold uE at z; dsimp only; omega)
  · exact y_L (fun c k z => by unfold uLw at z; dsimp only; omega)
  · exact y_Q (fun c k z => by unfold uQ at z; dsimp only; omega)
  · exact y_T (fun c k z => by unfold uT at z; dsimp only; omega)
  · exact y_R (fun c k z => by unfold uR at z; dsimp only; omega)
  · exact y_C (fun c k z => by unfold uC at z; dsimp only; omega)
  · exact y_O (fun c k z => by unfold uO at z; dsimp only; omega)
  · exact y_I (fun c k z => by unfold uSg at z; dsimp only; omega)
theorem RX_part {B : Nat → Nat → Nat} {x : Nat} {S : Ms} {M : Mm} (hX : RX B x S M) (hV : INV S) {j e : Nat} {w d : Int32} (hj : j < cn S 2) (hc : ca S 10 j < 40) (he : kd M e = 0) : RX B x (wA (wA (wA (wA (wi S 0 0) 11 (40 * j + ca S 10 j) w) 12 (40 * j + ca S 10 j) d) 13 (40 * j + ca S 10 j) (gi S 1)) 10 j (gA S 10 j + 1)) (psh (entM M e 2 w d (gi S 1)) (B 413 j) e) ∧ agr TC M (psh (entM M e 2 w d (gi S 1)) (B 413 j) e) := by
  obtain ⟨qx, qs, qf, qd, qg, qh, qp, qw, qm, qe, ql, qq, qt, qr, qc, qo, qi⟩ := id hX
  have hw := nwc_ent (ke := 2) (v := w) (d := d) (n := gi S 1) he
  have hcA : gA S 10 j = nI (ca S 10 j) := (hV.2.1 j hj).2.2.2.2.1.1
  have hcb : ∀ f, f < cn S 2 → ca S 10 f ≤ 40 := fun f hf => (hV.2.1 f hf).2.2.2.2.1.2
  have g : agr (fun c k => c = 413 ∨ c = 1413) M (psh (entM M e 2 w d (gi S 1)) (B 413 j) e) := agr_psh hw (qf.k413 hj) (by decide) (fun k => Or.inl rfl) (Or.inr rfl)
  obtain ⟨y_X, y_S, y_F, y_D, y_G, y_H, y_P, y_W, y_M, y_E, y_L, y_Q, y_T, y_R, y_C, y_O, y_I⟩ := hX.fr hV g
  refine ⟨⟨?_, ?_, ?_, ?_, ?_, ?_, ?_, ?_, ?_, ?_, ?_, ?_, ?_, ?_, ?_, ?_, ?_⟩, g.mono (fun c k z => by unfold TC; omega)⟩
  · exact y_X (fun c k z => by unfold uX at z; dsimp only; omega)
  · exact y_S (fun c k z => by unfold uS at z; dsimp only; omega)
  · exact y_F (fun c k z => by unfold uF at z; dsimp only; omega)
  · exact y_D (fun c k z => by unfold uD at z; dsimp only; omega)
  · exact y_G (fun c k z => by unfold uG at z; dsimp only; omega)
  · exact y_H (fun c k z => by unfold uH at z; dsimp only; omega)
  · exact y_P (fun c k z => by unfold uPl at z; dsimp only; omega)
  · intro f hf
    have hf : f < cn S 2 := hf
    have g11 : ∀ i, gA (wA (wA (wA (wA (wi S 0 0) 11 (40 * j + ca S 10 j) w) 12 (40 * j + ca S 10 j) d) 13 (40 * j + ca S 10 j) (gi S 1)) 10 j (gA S 10 j + 1)) 11 i = if i = (40 * j + ca S 10 j) then w else gA S 11 i := fun i => gA_p (S := (wi S 0 0)) (k := 11)
    have g12 : ∀ i, gA (wA (wA (wA (wA (wi S 0 0) 11 (40 * j + ca S 10 j) w) 12 (40 * j + ca S 10 j) d) 13 (40 * j + ca S 10 j) (gi S 1)) 10 j (gA S 10 j + 1)) 12 i = if i = (40 * j + ca S 10 j) then d else gA S 12 i := fun i => gA_p (S := (wA (wi S 0 0) 11 (40 * j + ca S 10 j) w)) (k := 12)
    have g13 : ∀ i, gA (wA (wA (wA (wA (wi S 0 0) 11 (40 * j + ca S 10 j) w) 12 (40 * j + ca S 10 j) d) 13 (40 * j + ca S 10 j) (gi S 1)) 10 j (gA S 10 j + 1)) 13 i = if i = (40 * j + ca S 10 j) then gi S 1 else gA S 13 i := fun i => gA_p (S := (wA (wA (wi S 0 0) 11 (40 * j + ca S 10 j) w) 12 (40 * j + ca S 10 j) d)) (k := 13)
    have gc : ∀ f, gA (wA (wA (wA (wA (wi S 0 0) 11 (40 * j + ca S 10 j) w) 12 (40 * j + ca S 10 j) d) 13 (40 * j + ca S 10 j) (gi S 1)) 10 j (gA S 10 j + 1)) 10 f = if f = j then gA S 10 j + 1 else gA S 10 f := fun f => gA_p (k := 10)
    obtain ⟨h1, h2⟩ := qw f hf
    have kf := qf.k413 hf
    have kf0 : kd M (B 413 f) ≠ 0 := fun z => by rw [z] at kf; cases kf
    have old : ∀ i, i < ca S 10 f → fR (psh (entM M e 2 w d (gi S 1)) (B 413 j) e) (B 413 f) i = fR M (B 413 f) i → qW1 (wA (wA (wA (wA (wi S 0 0) 11 (40 * j + ca S 10 j) w) 12 (40 * j + ca S 10 j) d) 13 (40 * j + ca S 10 j) (gi S 1)) 10 j (gA S 10 j + 1)) (psh (entM M e 2 w d (gi S 1)) (B 413 j) e) (B 413 f) f i := by
      intro i hi hr
      have h9 := (h2 i hi).fr g hr (fun k => by omega)
      unfold qW1 at h9 ⊢
      have hcb9 := hcb f hf
      have hne : ¬ 40 * f + i = (40 * j + ca S 10 j) := by
        by_cases e9 : f = j
        · rw [e9] at hi ⊢; omega
        · omega
      rw [g11, if_neg hne, g12, if_neg hne, g13, if_neg hne]
      exact h9
    by_cases e9 : f = j
    · rw [e9] at h1 h2 kf kf0 old ⊢
      have hcn : ca (wA (wA (wA (wA (wi S 0 0) 11 (40 * j + ca S 10 j) w) 12 (40 * j + ca S 10 j) d) 13 (40 * j + ca S 10 j) (gi S 1)) 10 j (gA S 10 j + 1)) 10 j = ca S 10 j + 1 := ca_v (by rw [gc, if_pos rfl, hcA, nI_s]) (by omega)
      rw [gl_ln hw kf0, h1, hcn]
      refine ⟨rfl, fun i hi => ?_⟩
      by_cases e8 : i = ca S 10 j
      · rw [e8]
        have hr : fR (psh (entM M e 2 w d (gi S 1)) (B 413 j) e) (B 413 j) (ca S 10 j) = some e := by rw [← h1]; exact gl_new hw kf0
        unfold qW1
        rw [elt_new hr, hr, g11, if_pos rfl, g12, if_pos rfl, g13, if_pos rfl]
        refine ⟨rfl, ?_, ?_, ?_, ?_⟩
        · show kd (entM M e 2 w d (gi S 1)) e % 1000 = 2
          rw [kd_entM, if_pos rfl]
        · show fI (entM M e 2 w d (gi S 1)) e 0 = _
          unfold entM; rw [fI_k (by decide), fI_k (by decide), fI_s]
        · show fI (entM M e 2 w d (gi S 1)) e 1 = _
          unfold entM; rw [fI_k (by decide), fI_s]
        · show fI (entM M e 2 w d (gi S 1)) e 2 = _
          unfold entM; rw [fI_s]
      · exact old i (by omega) (gl_old hw kf0 (by rw [h1]; exact e8))
    · have hn : B 413 f ≠ B 413 j := fun z => by
        have h3 := (qf.2 f hf).2.2.2.2.1.2.2.2.2.2.1
        rw [z, (qf.2 j hj).2.2.2.2.1.2.2.2.2.2.1] at h3; omega
      have hcn : ca (wA (wA (wA (wA (wi S 0 0) 11 (40 * j + ca S 10 j) w) 12 (40 * j + ca S 10 j) d) 13 (40 * j + ca S 10 j) (gi S 1)) 10 j (gA S 10 j + 1)) 10 f = ca S 10 f := ca_e (by rw [gc, if_neg e9])
      rw [gl_lo hw kf0 hn, hcn]
      exact ⟨h1, fun i hi => old i hi (gl_ro hw kf0 hn)⟩
  · exact y_M (fun c k z => by unfold uM at z; dsimp only; omega)
  · exact y_E (fun c k z => by unfold uE at z; dsimp only; omega)
  · exact y_L (fun c k z => by unfold uLw at z; dsimp only; omega)
  · exact y_Q (fun c k z => by unfold uQ at z; dsimp only; omega)
  · exact y_T (fun c k z => by unfold uT at z; dsimp only; omega)
  · exact y_R (fun c k z => by unfold uR at z; dsimp only; omega)
  · exact y_C (fun c k z => by unfold uC at z; dsimp only; omega)
  · exact y_O (fun c k z => by unfold uO at z; dsimp only; omega)
  · exact y_I (fun c k z => by unfold uSg at z; dsimp only; omega)
theorem RX_reading {B : Nat → Nat → Nat} {x : Nat} {S : Ms} {M : Mm} (hX : RX B x S M) (hV : INV S) {e : Nat} {w : Int64} {p q : Int32} (hn : cn S 51 < 4) (he : kd M e = 0) : RX B x (wi (wA (wA (wL (wi S 0 0) 52 (cn S 51) w) 53 (cn S 51) p) 54 (cn S 51) q) 51 (gi S 51 + 1)) (psh (sI (sI (sL (al M e 9 0) e 0 w) e 1 p) e 2 q) (B 404 0) e) ∧ agr TC M (psh (sI (sI (sL (al M e 9 0) e 0 w) e 1 p) e 2 q) (B 404 0) e) := by
  obtain ⟨qx, qs, qf, qd, qg, qh, qp, qw, qm, qe, ql, qq, qt, qr, qc, qo, qi⟩ := id hX
  have kl : kd M (B 404 0) = 404 := qx.k 4 (by decide)
  have hc51 : gi S 51 = nI (cn S 51) := hV.1.2.2.2.2.2.2.1.1
  have hw : nwc M (sI (sI (sL (al M e 9 0) e 0 w) e 1 p) e 2 q) e := ⟨he, fun a ha => by
    have hae : a ≠ e := fun z => ha (by rw [z]; exact he)
    exact (((same.al hae).tr (same.sL hae)).tr (same.sI hae)).tr (same.sI hae)⟩
  have g : agr (fun c k => c = 404 ∨ c = 1404) M (psh (sI (sI (sL (al M e 9 0) e 0 w) e 1 p) e 2 q) (B 404 0) e) := agr_psh hw (c := 404) (by rw [kl]) (by decide) (fun k => Or.inl rfl) (Or.inr rfl)
  obtain ⟨y_X, y_S, y_F, y_D, y_G, y_H, y_P, y_W, y_M, y_E, y_L, y_Q, y_T, y_R, y_C, y_O, y_I⟩ := hX.fr hV g
  refine ⟨⟨?_, ?_, ?_, ?_, ?_, ?_, ?_, ?_, ?_, ?_, ?_, ?_, ?_, ?_, ?_, ?_, ?_⟩, g.mono (fun c k z => by unfold TC; omega)⟩
  · exact y_X (fun c k z => by unfold uX at z; dsimp only; omega)
  · exact y_S (fun c k z => by unfold uS at z; dsimp only; omega)
  · exact y_F (fun c k z => by unfold uF at z; dsimp only; omega)
  · exact y_D (fun c k z => by unfold uD at z; dsimp only; omega)
  · exact y_G (fun c k z => by unfold uG at z; dsimp only; omega)
  · exact y_H (fun c k z => by unfold uH at z; dsimp only; omega)
  · exact y_P (fun c k z => by unfold uPl at z; dsimp only; omega)
  · exact y_W (fun c k z => by unfold uW at z; dsimp only; omega)
  · exact y_M (fun c k z => by unfold uM at z; dsimp only; omega)
  · exact y_E (fun c k z => by unfold uE at z; dsimp only; omega)
  · exact y_L (fun c k z => by unfold uLw at z; dsimp only; omega)
  · exact y_Q (fun c k z => by unfold uQ at z; dsimp only; omega)
  · exact y_T (fun c k z => by unfold uT at z; dsimp only; omega)
  · have g52 : ∀ i, gL (wi (wA (wA (wL (wi S 0 0) 52 (cn S 51) w) 53 (cn S 51) p) 54 (cn S 51) q) 51 (gi S 51 + 1)) 52 i = if i = cn S 51 then w else gL S 52 i := fun i => gL_w (S := wi S 0 0) (k := 52)
    have g53 : ∀ i, gA (wi (wA (wA (wL (wi S 0 0) 52 (cn S 51) w) 53 (cn S 51) p) 54 (cn S 51) q) 51 (gi S 51 + 1)) 53 i = if i = cn S 51 then p else gA S 53 i := fun i => gA_p (S := wL (wi S 0 0) 52 (cn S 51) w) (k := 53)
    have g54 : ∀ i, gA (wi (wA (wA (wL (wi S 0 0) 52 (cn S 51) w) 53 (cn S 51) p) 54 (cn S 51) q) 51 (gi S 51 + 1)) 54 i = if i = cn S 51 then q else gA S 54 i := fun i => gA_p (S := wA (wL (wi S 0 0) 52 (cn S 51) w) 53 (cn S 51) p) (k := 54)
    have hcn : cn (wi (wA (wA (wL (wi S 0 0) 52 (cn S 51) w) 53 (cn S 51) p) 54 (cn S 51) q) 51 (gi S 51 + 1)) 51 = cn S 51 + 1 := by
      unfold cn
      rw [gi_wi, if_pos rfl, hc51, nI_s, nI_clamp (by omega), nI_clamp (by omega)]
    have kl0 : kd M (B 404 0) ≠ 0 := by rw [kl]; decide
    refine ⟨by rw [gl_ln hw kl0, hcn, qr.1], fun r hr => ?_⟩
    rw [hcn] at hr
    by_cases e9 : r = cn S 51
    · subst e9
      have hr9 : fR (psh (sI (sI (sL (al M e 9 0) e 0 w) e 1 p) e 2 q) (B 404 0) e) (B 404 0) (cn S 51) = some e := by rw [← qr.1]; exact gl_new hw kl0
      unfold qR1
      rw [elt_new hr9, hr9, g52, if_pos rfl, g53, if_pos rfl, g54, if_pos rfl]
      refine ⟨rfl, ?_, ?_, ?_, ?_⟩
      · show kd (al M e 9 0) e % 1000 = 9
        rw [kd_al, if_pos rfl]
      · show fL (sL (al M e 9 0) e 0 w) e 0 = w
        rw [fL_sL, if_pos ⟨rfl, rfl⟩]
      · show fI (sI (sI (sL (al M e 9 0) e 0 w) e 1 p) e 2 q) e 1 = p
        rw [fI_k (by decide), fI_s]
      · show fI (sI (sI (sL (al M e 9 0) e 0 w) e 1 p) e 2 q) e 2 = q
        rw [fI_s]
    · have h9 := (qr.2 r (by omega)).fr g (gl_old hw kl0 (by rw [qr.1]; exact e9)) (fun k => by omega)
      unfold qR1 at h9 ⊢
      rw [g52, if_neg e9, g53, if_neg e9, g54, if_neg e9]
      exact h9
  · exact y_C (fun c k z => by unfold uC at z; dsimp only; omega)
  · exact y_O (fun c k z => by unfold uO at z; dsimp only; omega)
  · exact y_I (fun c k z => by unfold uSg at z; dsimp only; omega)
theorem RX_petition {B : Nat → Nat → Nat} {x : Nat} {S : Ms} {M : Mm} (hX : RX B x S M) (hV : INV S) {e j : Nat} {w : Int64} {t d : Int32} (hj : j < cn S 2) (hn : cn S 36 < 16) (he : kd M e = 0) : RX B x (wi (wA (wA (wL (wA (wA (wi S 0 0) 37 (cn S 36) (nI j)) 38 (cn S 36) t) 39 (cn S 36) w) 40 (cn S 36) d) 45 (cn S 36) (-1)) 36 (gi S 36 + 1)) (psh (sI (sL (sI (sR (sI (sI (al M e (8 + 1000 * cn S 36) 0) e 4 0) e 8 (-1)) e 0 (some (B 4 j))) e 1 t) e 2 w) e 3 d) (B 402 0) e) ∧ agr TC M (psh (sI (sL (sI (sR (sI (sI (al M e (8 + 1000 * cn S 36) 0) e 4 0) e 8 (-1)) e 0 (some (B 4 j))) e 1 t) e 2 w) e 3 d) (B 402 0) e) := by
  obtain ⟨qx, qs, qf, qd, qg, qh, qp, qw, qm, qe, ql, qq, qt, qr, qc, qo, qi⟩ := id hX
  have kl : kd M (B 402 0) = 402 := qx.k 2 (by decide)
  have hle : e ≠ B 402 0 := fun z => by rw [← z, he] at kl; cases kl
  have hc36 : gi S 36 = nI (cn S 36) := hV.1.2.2.2.2.2.1.1
  have hw : nwc M (sI (sL (sI (sR (sI (sI (al M e (8 + 1000 * cn S 36) 0) e 4 0) e 8 (-1)) e 0 (some (B 4 j))) e 1 t) e 2 w) e 3 d) e := ⟨he, fun a ha => by
    have hae : a ≠ e := fun z => ha (by rw [z]; exact he)
    exact ((((((same.al hae).tr (same.sI hae)).tr (same.sI hae)).tr (same.sR hae)).tr (same.sI hae)).tr (same.sL hae)).tr (same.sI hae)⟩
  have g : agr (fun c k => c = 402 ∨ c = 1402) M (psh (sI (sL (sI (sR (sI (sI (al M e (8 + 1000 * cn S 36) 0) e 4 0) e 8 (-1)) e 0 (some (B 4 j))) e 1 t) e 2 w) e 3 d) (B 402 0) e) := agr_psh hw (c := 402) (by rw [kl]) (by decide) (fun k => Or.inl rfl) (Or.inr rfl)
  obtain ⟨y_X, y_S, y_F, y_D, y_G, y_H, y_P, y_W, y_M, y_E, y_L, y_Q, y_T, y_R, y_C, y_O, y_I⟩ := hX.fr hV g
  refine ⟨⟨?_, ?_, ?_, ?_, ?_, ?_, ?_, ?_, ?_, ?_, ?_, ?_, ?_, ?_, ?_, ?_, ?_⟩, g.mono (fun c k z => by unfold TC; omega)⟩
  · exact y_X (fun c k z => by unfold uX at z; dsimp only; omega)
  · exact y_S (fun c k z => by unfold uS at z; dsimp only; omega)
  · exact y_F (fun c k z => by unfold uF at z; dsimp only; omega)
  · exact y_D (fun c k z => by unfold uD at z; dsimp only; omega)
  · exact y_G (fun c k z => by unfold uG at z; dsimp only; omega)
  · exact y_H (fun c k z => by unfold uH at z; dsimp only; omega)
  · exact y_P (fun c k z => by unfold uPl at z; dsimp only; omega)
  · exact y_W (fun c k z => by unfold uW at z; dsimp only; omega)
  · exact y_M (fun c k z => by unfold uM at z; dsimp only; omega)
  · exact y_E (fun c k z => by unfold uE at z; dsimp only; omega)
  · exact y_L (fun c k z => by unfold uLw at z; dsimp only; omega)
  · have g37 : ∀ i, gA (wi (wA (wA (wL (wA (wA (wi S 0 0) 37 (cn S 36) (nI j)) 38 (cn S 36) t) 39 (cn S 36) w) 40 (cn S 36) d) 45 (cn S 36) (-1)) 36 (gi S 36 + 1)) 37 i = if i = cn S 36 then nI j else gA S 37 i := fun i => gA_p (S := wi S 0 0) (k := 37)
    have g38 : ∀ i, gA (wi (wA (wA (wL (wA (wA (wi S 0 0) 37 (cn S 36) (nI j)) 38 (cn S 36) t) 39 (cn S 36) w) 40 (cn S 36) d) 45 (cn S 36) (-1)) 36 (gi S 36 + 1)) 38 i = if i = cn S 36 then t else gA S 38 i := fun i => gA_p (S := wA (wi S 0 0) 37 (cn S 36) (nI j)) (k := 38)
    have g39 : ∀ i, gL (wi (wA (wA (wL (wA (wA (wi S 0 0) 37 (cn S 36) (nI j)) 38 (cn S 36) t) 39 (cn S 36) w) 40 (cn S 36) d) 45 (cn S 36) (-1)) 36 (gi S 36 + 1)) 39 i = if i = cn S 36 then w else gL S 39 i := fun i => gL_w (S := wA (wA (wi S 0 0) 37 (cn S 36) (nI j)) 38 (cn S 36) t) (k := 39)
    have g40 : ∀ i, gA (wi (wA (wA (wL (wA (wA (wi S 0 0) 37 (cn S 36) (nI j)) 38 (cn S 36) t) 39 (cn S 36) w) 40 (cn S 36) d) 45 (cn S 36) (-1)) 36 (gi S 36 + 1)) 40 i = if i = cn S 36 then d else gA S 40 i := fun i => gA_p (S := wL (wA (wA (wi S 0 0) 37 (cn S 36) (nI j)) 38 (cn S 36) t) 39 (cn S 36) w) (k := 40)
    have g45 : ∀ i, gA (wi (wA (wA (wL (wA (wA (wi S 0 0) 37 (cn S 36) (nI j)) 38 (cn S 36) t) 39 (cn S 36) w) 40 (cn S 36) d) 45 (cn S 36) (-1)) 36 (gi S 36 + 1)) 45 i = if i = cn S 36 then -1 else gA S 45 i := fun i => gA_p (S := wA (wL (wA (wA (wi S 0 0) 37 (cn S 36) (nI j)) 38 (cn S 36) t) 39 (cn S 36) w) 40 (cn S 36) d) (k := 45)
    have hcn : cn (wi (wA (wA (wL (wA (wA (wi S 0 0) 37 (cn S 36) (nI j)) 38 (cn S 36) t) 39 (cn S 36) w) 40 (cn S 36) d) 45 (cn S 36) (-1)) 36 (gi S 36 + 1)) 36 = cn S 36 + 1 := by
      unfold cn
      rw [gi_wi, if_pos rfl, hc36, nI_s, nI_clamp (by omega), nI_clamp (by omega)]
    have kl0 : kd M (B 402 0) ≠ 0 := by rw [kl]; decide
    have z8 := hV.2.2.2.2.2.2.2.1 (cn S 36) (Nat.le_refl _) hn
    refine ⟨by rw [gl_ln hw kl0, hcn, qq.1], fun r hr => ?_⟩
    rw [hcn] at hr
    by_cases e9 : r = cn S 36
    · subst e9
      have hr9 : fR (psh (sI (sL (sI (sR (sI (sI (al M e (8 + 1000 * cn S 36) 0) e 4 0) e 8 (-1)) e 0 (some (B 4 j))) e 1 t) e 2 w) e 3 d) (B 402 0) e) (B 402 0) (cn S 36) = some e := by
        have h1 := gl_new hw kl0
        rw [qq.1] at h1; exact h1
      unfold qQ1
      rw [elt_new hr9, hr9, g38, if_pos rfl, g39, if_pos rfl, g40, if_pos rfl, g45, if_pos rfl]
      have c37 : ca (wi (wA (wA (wL (wA (wA (wi S 0 0) 37 (cn S 36) (nI j)) 38 (cn S 36) t) 39 (cn S 36) w) 40 (cn S 36) d) 45 (cn S 36) (-1)) 36 (gi S 36 + 1)) 37 (cn S 36) = j := ca_v (by rw [g37, if_pos rfl]) (by have := hV.c2; omega)
      rw [c37]
      have f0 : ∀ k, fI (al M e (8 + 1000 * cn S 36) 0) e k = 0 := fun k => by rw [fI_al, if_pos rfl]
      refine ⟨rfl, ?_, ?_, ?_, ?_, ?_, ?_, ?_, ?_, ?_, ?_, fun z => ?_⟩
      · show kd (al M e (8 + 1000 * cn S 36) 0) e = _
        rw [kd_al, if_pos rfl]
      · rw [psh_ro hle]
        show fR (sR (sI (sI (al M e (8 + 1000 * cn S 36) 0) e 4 0) e 8 (-1)) e 0 (some (B 4 j))) e 0 = _
        rw [fR_sR, if_pos ⟨rfl, rfl⟩]
      · show fI (sI (sL (sI (sR (sI (sI (al M e (8 + 1000 * cn S 36) 0) e 4 0) e 8 (-1)) e 0 (some (B 4 j))) e 1 t) e 2 w) e 3 d) e 1 = t
        rw [fI_k (by decide)]
        exact fI_s
      · show fL (sL (sI (sR (sI (sI (al M e (8 + 1000 * cn S 36) 0) e 4 0) e 8 (-1)) e 0 (some (B 4 j))) e 1 t) e 2 w) e 2 = w
        rw [fL_sL, if_pos ⟨rfl, rfl⟩]
      · show fI (sI (sL (sI (sR (sI (sI (al M e (8 + 1000 * cn S 36) 0) e 4 0) e 8 (-1)) e 0 (some (B 4 j))) e 1 t) e 2 w) e 3 d) e 3 = d
        exact fI_s
      · show fI (sI (sL (sI (sR (sI (sI (al M e (8 + 1000 * cn S 36) 0) e 4 0) e 8 (-1)) e 0 (some (B 4 j))) e 1 t) e 2 w) e 3 d) e 4 = gA S 41 (cn S 36)
        rw [z8.1, fI_k (by decide)]
        exact (fI_k (M := sR (sI (sI (al M e (8 + 1000 * cn S 36) 0) e 4 0) e 8 (-1)) e 0 (some (B 4 j))) (by decide)).trans ((fI_k (M := sI (al M e (8 + 1000 * cn S 36) 0) e 4 0) (by decide)).trans fI_s)
      · show fI (sI (sL (sI (sR (sI (sI (al M e (8 + 1000 * cn S 36) 0) e 4 0) e 8 (-1)) e 0 (some (B 4 j))) e 1 t) e 2 w) e 3 d) e 5 = gA S 42 (cn S 36)
        rw [z8.2.1, fI_k (by decide)]
        exact (fI_k (M := sR (sI (sI (al M e (8 + 1000 * cn S 36) 0) e 4 0) e 8 (-1)) e 0 (some (B 4 j))) (by decide)).trans ((fI_k (M := sI (al M e (8 + 1000 * cn S 36) 0) e 4 0) (by decide)).trans ((fI_k (by decide)).trans (f0 5)))
      · show fI (sI (sL (sI (sR (sI (sI (al M e (8 + 1000 * cn S 36) 0) e 4 0) e 8 (-1)) e 0 (some (B 4 j))) e 1 t) e 2 w) e 3 d) e 6 = gA S 43 (cn S 36)
        rw [z8.2.2.1, fI_k (by decide)]
        exact (fI_k (M := sR (sI (sI (al M e (8 + 1000 * cn S 36) 0) e 4 0) e 8 (-1)) e 0 (some (B 4 j))) (by decide)).trans ((fI_k (M := sI (al M e (8 + 1000 * cn S 36) 0) e 4 0) (by decide)).trans ((fI_k (by decide)).trans (f0 6)))
      · show fI (sI (sL (sI (sR (sI (sI (al M e (8 + 1000 * cn S 36) 0) e 4 0) e 8 (-1)) e 0 (some (B 4 j))) e 1 t) e 2 w) e 3 d) e 7 = gA S 44 (cn S 36)
        rw [z8.2.2.2, fI_k (by decide)]
        exact (fI_k (M := sR (sI (sI (al M e (8 + 1000 * cn S 36) 0) e 4 0) e 8 (-1)) e 0 (some (B 4 j))) (by decide)).trans ((fI_k (M := sI (al M e (8 + 1000 * cn S 36) 0) e 4 0) (by decide)).trans ((fI_k (by decide)).trans (f0 7)))
      · show fI (sI (sL (sI (sR (sI (sI (al M e (8 + 1000 * cn S 36) 0) e 4 0) e 8 (-1)) e 0 (some (B 4 j))) e 1 t) e 2 w) e 3 d) e 8 = -1
        rw [fI_k (by decide)]
        exact (fI_k (M := sR (sI (sI (al M e (8 + 1000 * cn S 36) 0) e 4 0) e 8 (-1)) e 0 (some (B 4 j))) (by decide)).trans fI_s
      · exfalso
        have z9 : gA S 41 (cn S 36) = 1 := z
        rw [z8.1] at z9; cases z9
    · have h9 := (qq.2 r (by omega)).fr g (gl_old hw kl0 (by rw [qq.1]; exact e9)) (fun k => by omega)
      unfold qQ1 at h9 ⊢
      rw [ca_e (g37 r |>.trans (if_neg e9)), g38, if_neg e9, g39, if_neg e9, g40, if_neg e9, g45, if_neg e9]
      exact h9
  · exact y_T (fun c k z => by unfold uT at z; dsimp only; omega)
  · exact y_R (fun c k z => by unfold uR at z; dsimp only; omega)
  · exact y_C (fun c k z => by unfold uC at z; dsimp only; omega)
  · exact y_O (fun c k z => by unfold uO at z; dsimp only; omega)
  · exact y_I (fun c k z => by unfold uSg at z; dsimp only; omega)
theorem wzL_congr {o o' : Nat → Int32} {f : Int32} : ∀ {n}, (∀ i, i < n → o i = o' i) → wzL o f n = wzL o' f n
  | 0, _ => rfl
  | n + 1, h => by rw [wzL, wzL, wzL_congr (fun i hi => h i (by omega)), h n (by omega)]
theorem RX_order {B : Nat → Nat → Nat} {x : Nat} {S : Ms} {M : Mm} (hX : RX B x S M) (hV : INV S) {j : Nat} (hj : j < cn S 2) (hn : cn S 58 < 24) : RX B x (wi (wA (wi S 0 0) 57 (cn S 58) (nI j)) 58 (gi S 58 + 1)) (psh (sI M (B 4 j) 13 1) (B 405 0) (B 4 j)) ∧ agr TC M (psh (sI M (B 4 j) 13 1) (B 405 0) (B 4 j)) := by
  obtain ⟨qx, qs, qf, qd, qg, qh, qp, qw, qm, qe, ql, qq, qt, qr, qc, qo, qi⟩ := id hX
  have k4 : kd M (B 4 j) % 1000 = 4 := qf.k4 hj
  have k5 : kd (sI M (B 4 j) 13 1) (B 405 0) % 1000 = 405 := by
    show kd M (B 405 0) % 1000 = 405
    rw [show kd M (B 405 0) = 405 from qx.k 5 (by decide)]
  have hc58 : gi S 58 = nI (cn S 58) := hV.1.2.2.2.2.2.2.2.1.1
  have g : agr (fun c k => c = 405 ∨ c = 1405 ∨ (c = 4 ∧ k = 13)) M (psh (sI M (B 4 j) 13 1) (B 405 0) (B 4 j)) := (agr.sI (Or.inr (Or.inr ⟨k4, rfl⟩))).tr (agr.psh (fun k => Or.inl k5) (Or.inr (Or.inl (by rw [k5]))))
  obtain ⟨y_X, y_S, y_F, y_D, y_G, y_H, y_P, y_W, y_M, y_E, y_L, y_Q, y_T, y_R, y_C, y_O, y_I⟩ := hX.fr hV g
  refine ⟨⟨?_, ?_, ?_, ?_, ?_, ?_, ?_, ?_, ?_, ?_, ?_, ?_, ?_, ?_, ?_, ?_, ?_⟩, g.mono (fun c k z => by unfold TC; omega)⟩
  · exact y_X (fun c k z => by unfold uX at z; dsimp only; omega)
  · exact y_S (fun c k z => by unfold uS at z; dsimp only; omega)
  · exact y_F (fun c k z => by unfold uF at z; dsimp only; omega)
  · exact y_D (fun c k z => by unfold uD at z; dsimp only; omega)
  · exact y_G (fun c k z => by unfold uG at z; dsimp only; omega)
  · exact y_H (fun c k z => by unfold uH at z; dsimp only; omega)
  · exact y_P (fun c k z => by unfold uPl at z; dsimp only; omega)
  · exact y_W (fun c k z => by unfold uW at z; dsimp only; omega)
  · exact y_M (fun c k z => by unfold uM at z; dsimp only; omega)
  · exact y_E (fun c k z => by unfold uE at z; dsimp only; omega)
  · exact y_L (fun c k z => by unfold uLw at z; dsimp only; omega)
  · exact y_Q (fun c k z => by unfold uQ at z; dsimp only; omega)
  · exact y_T (fun c k z => by unfold uT at z; dsimp only; omega)
  · exact y_R (fun c k z => by unfold uR at z; dsimp only; omega)
  · exact y_C (fun c k z => by unfold uC at z; dsimp only; omega)
  · have g57 : ∀ i, gA (wi (wA (wi S 0 0) 57 (cn S 58) (nI j)) 58 (gi S 58 + 1)) 57 i = if i = cn S 58 then nI j else gA S 57 i := fun i => gA_p (S := wi S 0 0) (k := 57)
    have hcn : cn (wi (wA (wi S 0 0) 57 (cn S 58) (nI j)) 58 (gi S 58 + 1)) 58 = cn S 58 + 1 := by
      unfold cn
      rw [gi_wi, if_pos rfl, hc58, nI_s, nI_clamp (by omega), nI_clamp (by omega)]
    have hb := hV.c2
    refine ⟨by rw [psh_ls, hcn]; exact congrArg (· + 1) qo.1, fun i hi => ?_, fun f hf => ?_⟩
    · rw [hcn] at hi
      by_cases e9 : i = cn S 58
      · subst e9
        rw [show ca (wi (wA (wi S 0 0) 57 (cn S 58) (nI j)) 58 (gi S 58 + 1)) 57 (cn S 58) = j from ca_v (by rw [g57, if_pos rfl]) (by omega)]
        have h9 := psh_rs (M := sI M (B 4 j) 13 1) (l := B 405 0) (v := B 4 j)
        rw [show ln (sI M (B 4 j) 13 1) (B 405 0) = cn S 58 from qo.1] at h9
        exact h9
      · rw [show ca (wi (wA (wi S 0 0) 57 (cn S 58) (nI j)) 58 (gi S 58 + 1)) 57 i = ca S 57 i from ca_e (by rw [g57, if_neg e9]), psh_rn (by show i ≠ ln M (B 405 0); rw [qo.1]; exact e9)]
        exact qo.2.1 i (by omega)
    · have hf : f < cn S 2 := hf
      rw [hcn, wzL, g57, if_pos rfl, wzL_congr (o' := gA S 57) (fun i hi => by rw [g57, if_neg (by omega)])]
      by_cases e9 : f = j
      · subst e9
        rw [decide_eq_true rfl, Bool.or_true]
        exact fI_s
      · rw [decide_eq_false (fun z => e9 ((nI_eq (by omega) (by omega)).mp z).symm), Bool.or_false]
        exact (fI_o (qf.ne4 hf hj e9)).trans (qo.2.2 f hf)
  · exact y_I (fun c k z => by unfold uSg at z; dsimp only; omega)
