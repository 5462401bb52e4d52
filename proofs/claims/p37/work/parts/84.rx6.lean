theorem xc_7 : ∀ k, k < 10 → xc k ≠ 7 := by decide
theorem qX_up7 {B : Nat → Nat → Nat} {x n a : Nat} {M : Mm} (h : qX B x M) : qX (up2 B 7 n a) x M := by
  obtain ⟨h1, h2, h3, h4⟩ := h
  have e : ∀ c, c ≠ 7 → up2 B 7 n a c 0 = B c 0 := fun c hc => up2_n _ _ (Or.inl hc)
  refine ⟨h1, fun k hk => ?_, fun k hk => ?_, h4⟩
  · rw [e _ (xc_7 k hk)]; exact h2 k hk
  · rw [e _ (show 172 + k ≠ 7 by omega)]; exact h3 k hk
def tdN (S S1 : Ms) (j : Nat) (t : Int32) (w : Int64) (d : Int32) : Prop := cn S1 2 = cn S 2 ∧ cn S1 17 = cn S 17 + 1 ∧ (∀ i, gA S1 18 i = if i = cn S 17 then nI j else gA S 18 i) ∧ (∀ i, gA S1 19 i = if i = cn S 17 then t else gA S 19 i) ∧ (∀ i, gL S1 20 i = if i = cn S 17 then w else gL S 20 i) ∧
  (∀ i, gA S1 21 i = if i = cn S 17 then d else gA S 21 i) ∧ (∀ i, gA S1 22 i = if i = cn S 17 then gi S 1 else gA S 22 i) ∧ ∀ i, gA S1 23 i = if i = cn S 17 then -1 else gA S 23 i
def nmM (M : Mm) (a ke : Nat) (t : Int32) (w : Int64) (d n : Int32) : Mm := sI (sI (sL (sI (al M a ke 0) a 0 t) a 1 w) a 2 d) a 3 n
theorem nwc_nm {M : Mm} {a ke : Nat} {t d n : Int32} {w : Int64} (h : kd M a = 0) : nwc M (nmM M a ke t w d n) a :=
  ⟨h, fun b hb => by
    have hne : b ≠ a := fun z => hb (by rw [z]; exact h)
    exact ((((same.al hne).tr (same.sI hne)).tr (same.sL hne)).tr (same.sI hne)).tr (same.sI hne)⟩
theorem nm_new {M : Mm} {a ke : Nat} {t d n : Int32} {w : Int64} : kd (nmM M a ke t w d n) a = ke ∧ fI (nmM M a ke t w d n) a 0 = t ∧ fL (nmM M a ke t w d n) a 1 = w ∧ fI (nmM M a ke t w d n) a 2 = d ∧ fI (nmM M a ke t w d n) a 3 = n ∧ fI (nmM M a ke t w d n) a 4 = 0 := by
  unfold nmM
  refine ⟨?_, ?_, ?_, ?_, ?_, ?_⟩
  · show kd (al M a ke 0) a = ke
    rw [kd_al, if_pos rfl]
  · rw [fI_k (by decide), fI_k (by decide)]; exact fI_s
  · show fL (sL (sI (al M a ke 0) a 0 t) a 1 w) a 1 = w
    rw [fL_sL, if_pos ⟨rfl, rfl⟩]
  · rw [fI_k (by decide), fI_s]
  · exact fI_s
  · rw [fI_k (by decide), fI_k (by decide)]
    exact (fI_k (M := al M a ke 0) (by decide)).trans (by rw [fI_al, if_pos rfl])
theorem qM_tells {B : Nat → Nat → Nat} {S S1 : Ms} {M M1 : Mm} {j a : Nat} {t d : Int32} {w : Int64} (qf : qF B S M) (qm : qM B S M) (hV : INV S) (hj : j < cn S 2) (hn : cn S 17 < 100) (hS : tdN S S1 j t w d)
    (h1 : ∀ f, f < cn S 2 → f ≠ j → ln M1 (B 410 f) = ln M (B 410 f) ∧ ∀ i, fR M1 (B 410 f) i = fR M (B 410 f) i)
    (h2 : ln M1 (B 410 j) = ln M (B 410 j) + 1 ∧ fR M1 (B 410 j) (ln M (B 410 j)) = some a ∧ ∀ i, i ≠ ln M (B 410 j) → fR M1 (B 410 j) i = fR M (B 410 j) i)
    (h3 : ∀ n, n < cn S 17 → kd M1 (B 7 n) = kd M (B 7 n) ∧ (∀ k, fI M1 (B 7 n) k = fI M (B 7 n) k) ∧ ∀ k, fL M1 (B 7 n) k = fL M (B 7 n) k)
    (h4 : kd M1 a = 7 + 1000 * cn S 17 ∧ fI M1 a 0 = t ∧ fL M1 a 1 = w ∧ fI M1 a 2 = d ∧ fI M1 a 3 = gi S 1 ∧ fI M1 a 4 = 0) : qM (up2 B 7 (cn S 17) a) S1 M1 := by
  obtain ⟨s2, s17, g18, g19, g20, g21, g22, g23⟩ := hS
  have h24 := hV.c2
  have hoN : ∀ f, f < 24 → ofN S1 f (cn S 17) = decide (f = j) := by
    intro f hf
    unfold ofN
    rw [g18, if_pos rfl]
    by_cases e : f = j
    · rw [e, decide_eq_true rfl, decide_eq_true rfl]
    · rw [decide_eq_false e, decide_eq_false (fun z => e ((nI_eq (by omega) (by omega)).mp z).symm)]
  have hoO : ∀ f n, n < cn S 17 → ofN S1 f n = ofN S f n := by
    intro f n hn
    unfold ofN
    rw [g18, if_neg (by omega)]
  have hct : ∀ f n, n ≤ cn S 17 → ctn (ofN S1 f) n = ctn (ofN S f) n := fun f n hn => ctn_congr (fun i hi => hoO f i (by omega))
  refine ⟨fun f hf => ?_, fun n hnn => ?_⟩
  · rw [s2] at hf
    show ln M1 (B 410 f) = _
    rw [s17, ctn, hoN f (by omega), hct f _ (Nat.le_refl _)]
    by_cases e : f = j
    · rw [e, if_pos (decide_eq_true rfl), h2.1, qm.1 j hj]
    · rw [if_neg (by rw [decide_eq_false e]; decide), (h1 f hf e).1, qm.1 f hf]
  · rw [s17] at hnn
    have hB : ∀ f, (up2 B 7 (cn S 17) a) 410 f = B 410 f := fun f => up2_n _ _ (Or.inl (by decide))
    unfold qM1
    rw [hB]
    by_cases e : n = cn S 17
    · subst e
      have c18 : ca S1 18 (cn S 17) = j := ca_v (by rw [g18, if_pos rfl]) (by omega)
      rw [c18, hct j _ (Nat.le_refl _), up2_s, g19, if_pos rfl, g20, if_pos rfl, g21, if_pos rfl, g22, if_pos rfl, g23, if_pos rfl, ← qm.1 j hj]
      exact ⟨h2.2.1, h4.1, h4.2.1, h4.2.2.1, h4.2.2.2.1, h4.2.2.2.2.1, Or.inl ⟨h4.2.2.2.2.2, rfl⟩⟩
    · have hn2 : n < cn S 17 := by omega
      have hN := (hV.2.2.2.1 n hn2).2.1
      have c18 : ca S1 18 n = ca S 18 n := ca_e (by rw [g18, if_neg e])
      obtain ⟨a1, a2, a3, a4, a5, a6, a7⟩ := qm.2 n hn2
      obtain ⟨e1, e2, e3⟩ := h3 n hn2
      rw [c18, hct _ n (by omega), up2_n _ _ (Or.inr e), g19, if_neg e, g20, if_neg e, g21, if_neg e, g22, if_neg e, g23, if_neg e, e1, e2, e2, e2, e2, e2, e3]
      refine ⟨?_, a2, a3, a4, a5, a6, a7⟩
      by_cases e9 : ca S 18 n = j
      · have hof : ofN S j n = true := by
          unfold ofN
          rw [← e9]
          exact decide_eq_true (hV.2.2.2.1 n hn2).1.1
        have hlt := ctn_lt (ofN S j) hn2 hof
        rw [e9] at a1 ⊢
        rw [h2.2.2 _ (by rw [qm.1 j hj]; omega)]; exact a1
      · rw [(h1 _ hN e9).2]; exact a1
theorem td_tells {S : Ms} (hV : INV S) {j : Nat} {t d : Int32} {w : Int64} : tdN S (sTells (wi S 0 0) (nI j) t w d) j t w d := by
  have hb := hV.c17
  refine ⟨rfl, ?_, fun i => gA_p (S := wi S 0 0) (k := 18), fun i => gA_p (S := wA (wi S 0 0) 18 (cn S 17) (nI j)) (k := 19), fun i => gL_w (S := wA (wA (wi S 0 0) 18 (cn S 17) (nI j)) 19 (cn S 17) t) (k := 20), fun i => gA_p (S := wL (wA (wA (wi S 0 0) 18 (cn S 17) (nI j)) 19 (cn S 17) t) 20 (cn S 17) w) (k := 21),
    fun i => gA_p (S := wA (wL (wA (wA (wi S 0 0) 18 (cn S 17) (nI j)) 19 (cn S 17) t) 20 (cn S 17) w) 21 (cn S 17) d) (k := 22), fun i => gA_p (S := wA (wA (wL (wA (wA (wi S 0 0) 18 (cn S 17) (nI j)) 19 (cn S 17) t) 20 (cn S 17) w) 21 (cn S 17) d) 22 (cn S 17) (gi S 1)) (k := 23)⟩
  have e : gi (sTells (wi S 0 0) (nI j) t w d) 17 = nI (cn S 17 + 1) := by
    show gi S 17 + 1 = _
    rw [hV.1.2.2.1.1, nI_s]
  unfold cn
  rw [e, nI_clamp (by omega)]; rfl
theorem nm_facts {B : Nat → Nat → Nat} {S : Ms} {M : Mm} {j a : Nat} {t d n : Int32} {w : Int64} (qf : qF B S M) (qm : qM B S M) (hj : j < cn S 2) (ha : kd M a = 0) :
    (∀ f, f < cn S 2 → f ≠ j → ln (psh (nmM M a (7 + 1000 * cn S 17) t w d n) (B 410 j) a) (B 410 f) = ln M (B 410 f) ∧ ∀ i, fR (psh (nmM M a (7 + 1000 * cn S 17) t w d n) (B 410 j) a) (B 410 f) i = fR M (B 410 f) i) ∧
    (ln (psh (nmM M a (7 + 1000 * cn S 17) t w d n) (B 410 j) a) (B 410 j) = ln M (B 410 j) + 1 ∧ fR (psh (nmM M a (7 + 1000 * cn S 17) t w d n) (B 410 j) a) (B 410 j) (ln M (B 410 j)) = some a ∧ ∀ i, i ≠ ln M (B 410 j) → fR (psh (nmM M a (7 + 1000 * cn S 17) t w d n) (B 410 j) a) (B 410 j) i = fR M (B 410 j) i) ∧
    (∀ q, q < cn S 17 → kd (psh (nmM M a (7 + 1000 * cn S 17) t w d n) (B 410 j) a) (B 7 q) = kd M (B 7 q) ∧ (∀ k, fI (psh (nmM M a (7 + 1000 * cn S 17) t w d n) (B 410 j) a) (B 7 q) k = fI M (B 7 q) k) ∧ ∀ k, fL (psh (nmM M a (7 + 1000 * cn S 17) t w d n) (B 410 j) a) (B 7 q) k = fL M (B 7 q) k) := by
  have hw := nwc_nm (ke := 7 + 1000 * cn S 17) (t := t) (d := d) (n := n) (w := w) ha
  have k0 : ∀ f, f < cn S 2 → kd M (B 410 f) ≠ 0 := fun f hf z => by have := qf.k410 hf; rw [z] at this; cases this
  refine ⟨fun f hf hn => ?_, ⟨gl_ln hw (k0 j hj), gl_new hw (k0 j hj), fun i hi => gl_old hw (k0 j hj) hi⟩, fun q hq => ?_⟩
  · have hne : B 410 f ≠ B 410 j := fun z => by
      have h1 := (qf.2 f hf).2.2.2.2.1.2.2.1
      rw [z, (qf.2 j hj).2.2.2.2.1.2.2.1] at h1; omega
    exact ⟨gl_lo hw (k0 f hf) hne, fun i => gl_ro hw (k0 f hf) hne⟩
  · have k7 : kd M (B 7 q) ≠ 0 := by rw [(qm.2 q hq).2.1]; omega
    obtain ⟨e1, e2, e3, -, -⟩ := hw.2 _ k7
    exact ⟨e1.symm, fun k => (congrFun e2 k).symm, fun k => (congrFun e3 k).symm⟩
theorem RX_name {B : Nat → Nat → Nat} {x : Nat} {S : Ms} {M : Mm} (hX : RX B x S M) (hV : INV S) {j a : Nat} {t d : Int32} {w : Int64} (hj : j < cn S 2) (hn : cn S 17 < 100) (ha : kd M a = 0) : RX (up2 B 7 (cn S 17) a) x (sTells (wi S 0 0) (nI j) t w d) (sI (psh (nmM M a (7 + 1000 * cn S 17) t w d (gi S 1)) (B 410 j) a) x 11 (gi S 17 + 1)) ∧ agr TC M (sI (psh (nmM M a (7 + 1000 * cn S 17) t w d (gi S 1)) (B 410 j) a) x 11 (gi S 17 + 1)) := by
  obtain ⟨qx, qs, qf, qd, qg, qh, qp, qw, qm, qe, ql, qq, qt, qr, qc, qo, qi⟩ := id hX
  have k11 : kd (psh (nmM M a (7 + 1000 * cn S 17) t w d (gi S 1)) (B 410 j) a) x % 1000 = 11 := by
    show kd (nmM M a (7 + 1000 * cn S 17) t w d (gi S 1)) x % 1000 = 11
    rw [nwc_kd (nwc_nm ha) (by rw [qx.1]; decide), qx.1]
  have hw := nwc_nm (ke := 7 + 1000 * cn S 17) (t := t) (d := d) (n := gi S 1) (w := w) ha
  have g : agr (fun c k => c = 410 ∨ c = 1410 ∨ (c = 11 ∧ k = 11)) M (sI (psh (nmM M a (7 + 1000 * cn S 17) t w d (gi S 1)) (B 410 j) a) x 11 (gi S 17 + 1)) := (agr_psh hw (qf.k410 hj) (by decide) (fun k => Or.inl rfl) (Or.inr (Or.inl rfl))).tr (agr.sI (Or.inr (Or.inr ⟨k11, rfl⟩)))
  obtain ⟨y_X, y_S, y_F, y_D, y_G, y_H, y_P, y_W, y_M, y_E, y_L, y_Q, y_T, y_R, y_C, y_O, y_I⟩ := hX.fr hV g
  refine ⟨⟨?_, ?_, ?_, ?_, ?_, ?_, ?_, ?_, ?_, ?_, ?_, ?_, ?_, ?_, ?_, ?_, ?_⟩, g.mono (fun c k z => by unfold TC; omega)⟩
  · exact qX_up7 (y_X (fun c k z => by unfold uX at z; dsimp only; omega))
  · obtain ⟨a1, a2, a3, a4⟩ := qs
    have e : ∀ k, fI (psh (nmM M a (7 + 1000 * cn S 17) t w d (gi S 1)) (B 410 j) a) x k = fI M x k := fun k => (congrFun (hw.2 x (by rw [qx.1]; decide)).2.1 k).symm
    exact ⟨(fI_k (by decide)).trans ((e 10).trans a1), fI_s, (fI_k (by decide)).trans ((e 12).trans a3), (fI_k (by decide)).trans ((e 13).trans a4)⟩
  · exact y_F (fun c k z => by unfold uF at z; dsimp only; omega)
  · exact y_D (fun c k z => by unfold uD at z; dsimp only; omega)
  · exact y_G (fun c k z => by unfold uG at z; dsimp only; omega)
  · exact y_H (fun c k z => by unfold uH at z; dsimp only; omega)
  · exact y_P (fun c k z => by unfold uPl at z; dsimp only; omega)
  · exact y_W (fun c k z => by unfold uW at z; dsimp only; omega)
  · obtain ⟨f1, f2, f3⟩ := nm_facts (t := t) (d := d) (n := gi S 1) (w := w) qf qm hj ha
    obtain ⟨n1, n2, n3, n4, n5, n6⟩ := nm_new (M := M) (a := a) (ke := 7 + 1000 * cn S 17) (t := t) (d := d) (n := gi S 1) (w := w)
    have hax : a ≠ x := fun z => by have := qx.1; rw [← z, ha] at this; cases this
    refine qM_tells qf qm hV hj hn (td_tells hV) f1 f2 (fun q hq => ⟨(f3 q hq).1, fun k => ?_, (f3 q hq).2.2⟩) ⟨n1, (fI_o hax).trans n2, n3, (fI_o hax).trans n4, (fI_o hax).trans n5, (fI_o hax).trans n6⟩
    have hqx : B 7 q ≠ x := fun z => by
      have h1 := (qm.2 q hq).2.1
      rw [z, qx.1] at h1; omega
    rw [fI_o hqx]; exact (f3 q hq).2.1 k
  · exact y_E (fun c k z => by unfold uE at z; dsimp only; omega)
  · exact y_L (fun c k z => by unfold uLw at z; dsimp only; omega)
  · have h9 := y_Q (fun c k z => by unfold uQ at z; dsimp only; omega)
    refine ⟨h9.1, fun p hp => ?_⟩
    obtain ⟨a1, a2, a3, a4, a5, a6, a7, a8, a9, b1, b2, b3⟩ := h9.2 p hp
    refine ⟨a1, a2, a3, a4, a5, a6, a7, a8, a9, b1, b2, fun z => ?_⟩
    have h46 : ca S 46 p < cn S 17 := ((hV.2.2.2.2.2.2.1 p hp).2.2.2.2.2.2.2.2.2.2 (Or.inl (by unfold ca; rw [show gA S 41 p = 1 from z]; rfl))).2
    exact (b3 z).trans (congrArg some (up2_n (a := 7) (k := cn S 17) (b := 7) (j := ca S 46 p) B a (Or.inr (show ca S 46 p ≠ cn S 17 by omega))).symm)
  · exact y_T (fun c k z => by unfold uT at z; dsimp only; omega)
  · exact y_R (fun c k z => by unfold uR at z; dsimp only; omega)
  · exact y_C (fun c k z => by unfold uC at z; dsimp only; omega)
  · exact y_O (fun c k z => by unfold uO at z; dsimp only; omega)
  · exact y_I (fun c k z => by unfold uSg at z; dsimp only; omega)
theorem RX_except {B : Nat → Nat → Nat} {x : Nat} {S : Ms} {M : Mm} (hX : RX B x S M) (hV : INV S) {j e : Nat} {t d : Int32} (hj : j < cn S 2) (hn : cn S 31 < 40) (he : kd M e = 0) : RX B x (wi (wA (wA (wA (wA (wi S 0 0) 32 (cn S 31) (nI j)) 33 (cn S 31) t) 34 (cn S 31) d) 35 (cn S 31) (gi S 1)) 31 (gi S 31 + 1)) (sI (psh (sI (sI (sI (al M e 3 0) e 0 t) e 1 d) e 2 (gi S 1)) (B 411 j) e) x 12 (gi S 31 + 1)) ∧ agr TC M (sI (psh (sI (sI (sI (al M e 3 0) e 0 t) e 1 d) e 2 (gi S 1)) (B 411 j) e) x 12 (gi S 31 + 1)) := by
  obtain ⟨qx, qs, qf, qd, qg, qh, qp, qw, qm, qe, ql, qq, qt, qr, qc, qo, qi⟩ := id hX
  have hw : nwc M (sI (sI (sI (al M e 3 0) e 0 t) e 1 d) e 2 (gi S 1)) e := ⟨he, fun b hb => by
    have hne : b ≠ e := fun z => hb (by rw [z]; exact he)
    exact (((same.al hne).tr (same.sI hne)).tr (same.sI hne)).tr (same.sI hne)⟩
  have k11 : kd (psh (sI (sI (sI (al M e 3 0) e 0 t) e 1 d) e 2 (gi S 1)) (B 411 j) e) x % 1000 = 11 := by
    show kd (sI (sI (sI (al M e 3 0) e 0 t) e 1 d) e 2 (gi S 1)) x % 1000 = 11
    rw [nwc_kd hw (by rw [qx.1]; decide), qx.1]
  have g : agr (fun c k => c = 411 ∨ c = 1411 ∨ (c = 11 ∧ k = 12)) M (sI (psh (sI (sI (sI (al M e 3 0) e 0 t) e 1 d) e 2 (gi S 1)) (B 411 j) e) x 12 (gi S 31 + 1)) := (agr_psh hw (qf.k411 hj) (by decide) (fun k => Or.inl rfl) (Or.inr (Or.inl rfl))).tr (agr.sI (Or.inr (Or.inr ⟨k11, rfl⟩)))
  obtain ⟨y_X, y_S, y_F, y_D, y_G, y_H, y_P, y_W, y_M, y_E, y_L, y_Q, y_T, y_R, y_C, y_O, y_I⟩ := hX.fr hV g
  refine ⟨⟨?_, ?_, ?_, ?_, ?_, ?_, ?_, ?_, ?_, ?_, ?_, ?_, ?_, ?_, ?_, ?_, ?_⟩, g.mono (fun c k z => by unfold TC; omega)⟩
  · exact y_X (fun c k z => by unfold uX at z; dsimp only; omega)
  · obtain ⟨a1, a2, a3, a4⟩ := qs
    have e9 : ∀ k, fI (psh (sI (sI (sI (al M e 3 0) e 0 t) e 1 d) e 2 (gi S 1)) (B 411 j) e) x k = fI M x k := fun k => (congrFun (hw.2 x (by rw [qx.1]; decide)).2.1 k).symm
    exact ⟨(fI_k (by decide)).trans ((e9 10).trans a1), (fI_k (by decide)).trans ((e9 11).trans a2), fI_s, (fI_k (by decide)).trans ((e9 13).trans a4)⟩
  · exact y_F (fun c k z => by unfold uF at z; dsimp only; omega)
  · exact y_D (fun c k z => by unfold uD at z; dsimp only; omega)
  · exact y_G (fun c k z => by unfold uG at z; dsimp only; omega)
  · exact y_H (fun c k z => by unfold uH at z; dsimp only; omega)
  · exact y_P (fun c k z => by unfold uPl at z; dsimp only; omega)
  · exact y_W (fun c k z => by unfold uW at z; dsimp only; omega)
  · exact y_M (fun c k z => by unfold uM at z; dsimp only; omega)
  · have g32 : ∀ i, gA (wi (wA (wA (wA (wA (wi S 0 0) 32 (cn S 31) (nI j)) 33 (cn S 31) t) 34 (cn S 31) d) 35 (cn S 31) (gi S 1)) 31 (gi S 31 + 1)) 32 i = if i = cn S 31 then nI j else gA S 32 i := fun i => gA_p (S := wi S 0 0) (k := 32)
    have g33 : ∀ i, gA (wi (wA (wA (wA (wA (wi S 0 0) 32 (cn S 31) (nI j)) 33 (cn S 31) t) 34 (cn S 31) d) 35 (cn S 31) (gi S 1)) 31 (gi S 31 + 1)) 33 i = if i = cn S 31 then t else gA S 33 i := fun i => gA_p (S := wA (wi S 0 0) 32 (cn S 31) (nI j)) (k := 33)
    have g34 : ∀ i, gA (wi (wA (wA (wA (wA (wi S 0 0) 32 (cn S 31) (nI j)) 33 (cn S 31) t) 34 (cn S 31) d) 35 (cn S 31) (gi S 1)) 31 (gi S 31 + 1)) 34 i = if i = cn S 31 then d else gA S 34 i := fun i => gA_p (S := wA (wA (wi S 0 0) 32 (cn S 31) (nI j)) 33 (cn S 31) t) (k := 34)
    have g35 : ∀ i, gA (wi (wA (wA (wA (wA (wi S 0 0) 32 (cn S 31) (nI j)) 33 (cn S 31) t) 34 (cn S 31) d) 35 (cn S 31) (gi S 1)) 31 (gi S 31 + 1)) 35 i = if i = cn S 31 then gi S 1 else gA S 35 i := fun i => gA_p (S := wA (wA (wA (wi S 0 0) 32 (cn S 31) (nI j)) 33 (cn S 31) t) 34 (cn S 31) d) (k := 35)
    have h24 := hV.c2
    have s31 : cn (wi (wA (wA (wA (wA (wi S 0 0) 32 (cn S 31) (nI j)) 33 (cn S 31) t) 34 (cn S 31) d) 35 (cn S 31) (gi S 1)) 31 (gi S 31 + 1)) 31 = cn S 31 + 1 := by
      unfold cn
      rw [gi_wi, if_pos rfl, hV.1.2.2.2.2.1.1, nI_s, nI_clamp (by omega), nI_clamp (by omega)]
    have hex : e ≠ x := fun z => by have := qx.1; rw [← z, he] at this; cases this
    have k0 : ∀ f, f < cn S 2 → kd M (B 411 f) ≠ 0 := fun f hf z => by have := qf.k411 hf; rw [z] at this; cases this
    have hoN : ∀ f, f < 24 → ofE (wi (wA (wA (wA (wA (wi S 0 0) 32 (cn S 31) (nI j)) 33 (cn S 31) t) 34 (cn S 31) d) 35 (cn S 31) (gi S 1)) 31 (gi S 31 + 1)) f (cn S 31) = decide (f = j) := by
      intro f hf
      unfold ofE
      rw [g32, if_pos rfl]
      by_cases e9 : f = j
      · rw [e9, decide_eq_true rfl, decide_eq_true rfl]
      · rw [decide_eq_false e9, decide_eq_false (fun z => e9 ((nI_eq (by omega) (by omega)).mp z).symm)]
    have hoO : ∀ f n, n < cn S 31 → ofE (wi (wA (wA (wA (wA (wi S 0 0) 32 (cn S 31) (nI j)) 33 (cn S 31) t) 34 (cn S 31) d) 35 (cn S 31) (gi S 1)) 31 (gi S 31 + 1)) f n = ofE S f n := by
      intro f n hn
      unfold ofE
      rw [g32, if_neg (by omega)]
    have hct : ∀ f n, n ≤ cn S 31 → ctn (ofE (wi (wA (wA (wA (wA (wi S 0 0) 32 (cn S 31) (nI j)) 33 (cn S 31) t) 34 (cn S 31) d) 35 (cn S 31) (gi S 1)) 31 (gi S 31 + 1)) f) n = ctn (ofE S f) n := fun f n hn => ctn_congr (fun i hi => hoO f i (by omega))
    have hne : ∀ f, f < cn S 2 → f ≠ j → B 411 f ≠ B 411 j := fun f hf h1 z => by
      have h2 := (qf.2 f hf).2.2.2.2.1.2.2.2.1
      rw [z, (qf.2 j hj).2.2.2.2.1.2.2.2.1] at h2; omega
    refine ⟨fun f hf => ?_, fun n hnn => ?_⟩
    · have hf : f < cn S 2 := hf
      show ln (psh (sI (sI (sI (al M e 3 0) e 0 t) e 1 d) e 2 (gi S 1)) (B 411 j) e) (B 411 f) = _
      rw [s31, ctn, hoN f (by omega), hct f _ (Nat.le_refl _)]
      by_cases e9 : f = j
      · rw [e9, if_pos (decide_eq_true rfl), gl_ln hw (k0 j hj), qe.1 j hj]
      · rw [if_neg (by rw [decide_eq_false e9]; decide), gl_lo hw (k0 f hf) (hne f hf e9), qe.1 f hf]
    · rw [s31] at hnn
      by_cases e9 : n = cn S 31
      · have c32 : ca (wi (wA (wA (wA (wA (wi S 0 0) 32 (cn S 31) (nI j)) 33 (cn S 31) t) 34 (cn S 31) d) 35 (cn S 31) (gi S 1)) 31 (gi S 31 + 1)) 32 n = j := ca_v (by rw [g32, if_pos e9]) (by omega)
        have hr : fR (sI (psh (sI (sI (sI (al M e 3 0) e 0 t) e 1 d) e 2 (gi S 1)) (B 411 j) e) x 12 (gi S 31 + 1)) (B 411 j) (ctn (ofE S j) (cn S 31)) = some e := by
          rw [← qe.1 j hj]; exact gl_new hw (k0 j hj)
        rw [c32, e9, hct j _ (Nat.le_refl _)]
        unfold qE1
        rw [elt_new hr, hr, g33, if_pos rfl, g34, if_pos rfl, g35, if_pos rfl]
        refine ⟨rfl, ?_, ?_, ?_, ?_⟩
        · show kd (al M e 3 0) e % 1000 = 3
          rw [kd_al, if_pos rfl]
        · rw [fI_o hex]
          show fI (sI (sI (sI (al M e 3 0) e 0 t) e 1 d) e 2 (gi S 1)) e 0 = t
          rw [fI_k (by decide), fI_k (by decide), fI_s]
        · rw [fI_o hex]
          show fI (sI (sI (sI (al M e 3 0) e 0 t) e 1 d) e 2 (gi S 1)) e 1 = d
          rw [fI_k (by decide), fI_s]
        · rw [fI_o hex]
          show fI (sI (sI (sI (al M e 3 0) e 0 t) e 1 d) e 2 (gi S 1)) e 2 = gi S 1
          exact fI_s
      · have hn2 : n < cn S 31 := by omega
        have hN := (hV.2.2.2.2.2.1 n hn2).2.1
        have c32 : ca (wi (wA (wA (wA (wA (wi S 0 0) 32 (cn S 31) (nI j)) 33 (cn S 31) t) 34 (cn S 31) d) 35 (cn S 31) (gi S 1)) 31 (gi S 31 + 1)) 32 n = ca S 32 n := ca_e (by rw [g32, if_neg e9])
        rw [c32, hct _ n (by omega)]
        have hr : fR (sI (psh (sI (sI (sI (al M e 3 0) e 0 t) e 1 d) e 2 (gi S 1)) (B 411 j) e) x 12 (gi S 31 + 1)) (B 411 (ca S 32 n)) (ctn (ofE S (ca S 32 n)) n) = fR M (B 411 (ca S 32 n)) (ctn (ofE S (ca S 32 n)) n) := by
          show fR (psh (sI (sI (sI (al M e 3 0) e 0 t) e 1 d) e 2 (gi S 1)) (B 411 j) e) _ _ = _
          by_cases e8 : ca S 32 n = j
          · have hof : ofE S j n = true := by
              unfold ofE
              rw [← e8]
              exact decide_eq_true (hV.2.2.2.2.2.1 n hn2).1.1
            have hlt := ctn_lt (ofE S j) hn2 hof
            rw [e8]
            exact gl_old hw (k0 j hj) (by rw [qe.1 j hj]; omega)
          · exact gl_ro hw (k0 _ hN) (hne _ hN e8)
        have h9 := (qe.2 n hn2).fr g hr (fun k => by omega)
        unfold qE1 at h9 ⊢
        rw [g33, if_neg e9, g34, if_neg e9, g35, if_neg e9]
        exact h9
  · exact y_L (fun c k z => by unfold uLw at z; dsimp only; omega)
  · exact y_Q (fun c k z => by unfold uQ at z; dsimp only; omega)
  · exact y_T (fun c k z => by unfold uT at z; dsimp only; omega)
  · exact y_R (fun c k z => by unfold uR at z; dsimp only; omega)
  · exact y_C (fun c k z => by unfold uC at z; dsimp only; omega)
  · exact y_O (fun c k z => by unfold uO at z; dsimp only; omega)
  · exact y_I (fun c k z => by unfold uSg at z; dsimp only; omega)
theorem RX_law {B : Nat → Nat → Nat} {x : Nat} {S : Ms} {M : Mm} (hX : RX B x S M) (hV : INV S) {e i dn : Nat} {t l p q : Int32} (hn : cn S 24 < 12) (hd : dn ≤ 9999) (he : kd M e = 0) (hi : i ≤ cn S 24) (hlo : ∀ k, k < i → fI M (elt M (B 401 0) k) 1 ≤ nI dn) (hhi : i < cn S 24 → nI dn < fI M (elt M (B 401 0) i) 1) : RX B x (wi (wA (wA (wA (wA (wA (wA (wi S 0 0) 25 (cn S 24) t) 26 (cn S 24) (nI dn)) 27 (cn S 24) l) 28 (cn S 24) p) 29 (cn S 24) q) 30 (cn S 24) (gi S 1)) 24 (gi S 24 + 1)) (sN (sW (sI (sI (sI (sI (sI (sI (al M e 6 0) e 0 t) e 1 (nI dn)) e 2 (gi S 1)) e 3 l) e 4 p) e 5 q) (B 401 0) (insR (fR (sI (sI (sI (sI (sI (sI (al M e 6 0) e 0 t) e 1 (nI dn)) e 2 (gi S 1)) e 3 l) e 4 p) e 5 q) (B 401 0)) i e)) (B 401 0) (ln (sI (sI (sI (sI (sI (sI (al M e 6 0) e 0 t) e 1 (nI dn)) e 2 (gi S 1)) e 3 l) e 4 p) e 5 q) (B 401 0) + 1)) ∧ agr TC M (sN (sW (sI (sI (sI (sI (sI (sI (al M e 6 0) e 0 t) e 1 (nI dn)) e 2 (gi S 1)) e 3 l) e 4 p) e 5 q) (B 401 0) (insR (fR (sI (sI (sI (sI (sI (sI (al M e 6 0) e 0 t) e 1 (nI dn)) e 2 (gi S 1)) e 3 l) e 4 p) e 5 q) (B 401 0)) i e)) (B 401 0) (ln (sI (sI (sI (sI (sI (sI (al M e 6 0) e 0 t) e 1 (nI dn)) e 2 (gi S 1)) e 3 l) e 4 p) e 5 q) (B 401 0) + 1)) := by
  obtain ⟨qx, qs, qf, qd, qg, qh, qp, qw, qm, qe, ql, qq, qt, qr, qc, qo, qi⟩ := id hX
  have hw : nwc M (sI (sI (sI (sI (sI (sI (al M e 6 0) e 0 t) e 1 (nI dn)) e 2 (gi S 1)) e 3 l) e 4 p) e 5 q) e := ⟨he, fun b hb => by
    have hne : b ≠ e := fun z => hb (by rw [z]; exact he)
    exact ((((((same.al hne).tr (same.sI hne)).tr (same.sI hne)).tr (same.sI hne)).tr (same.sI hne)).tr (same.sI hne)).tr (same.sI hne)⟩
  have k4 : kd (sI (sI (sI (sI (sI (sI (al M e 6 0) e 0 t) e 1 (nI dn)) e 2 (gi S 1)) e 3 l) e 4 p) e 5 q) (B 401 0) % 1000 = 401 := by
    rw [nwc_kd hw (by rw [show kd M (B 401 0) = 401 from qx.k 1 (by decide)]; decide), show kd M (B 401 0) = 401 from qx.k 1 (by decide)]
  have g : agr (fun c k => c = 401 ∨ c = 1401) M (sN (sW (sI (sI (sI (sI (sI (sI (al M e 6 0) e 0 t) e 1 (nI dn)) e 2 (gi S 1)) e 3 l) e 4 p) e 5 q) (B 401 0) (insR (fR (sI (sI (sI (sI (sI (sI (al M e 6 0) e 0 t) e 1 (nI dn)) e 2 (gi S 1)) e 3 l) e 4 p) e 5 q) (B 401 0)) i e)) (B 401 0) (ln (sI (sI (sI (sI (sI (sI (al M e 6 0) e 0 t) e 1 (nI dn)) e 2 (gi S 1)) e 3 l) e 4 p) e 5 q) (B 401 0) + 1)) := ((nwc_agr hw).tr (agr.sW (fun k => Or.inl k4))).tr (agr.sN (Or.inr (by show kd (sI (sI (sI (sI (sI (sI (al M e 6 0) e 0 t) e 1 (nI dn)) e 2 (gi S 1)) e 3 l) e 4 p) e 5 q) (B 401 0) % 1000 + 1000 = 1401; rw [k4])))
  obtain ⟨y_X, y_S, y_F, y_D, y_G, y_H, y_P, y_W, y_M, y_E, y_L, y_Q, y_T, y_R, y_C, y_O, y_I⟩ := hX.fr hV g
  refine ⟨⟨?_, ?_, ?_, ?_, ?_, ?_, ?_, ?_, ?_, ?_, ?_, ?_, ?_, ?_, ?_, ?_, ?_⟩, g.mono (fun c k z => by unfold TC; omega)⟩
  · exact y_X (fun c k z => by unfold uX at z; dsimp only; omega)
  · exact y_S (fun c k z => by unfold uS at z; dsimp only; omega)
  · exact y_F (fun c k z => by unfold uF at z; dsimp only; omega)
  · exact y_D (fun c k z => by unfold uD at z; dsimp only; omega)
  · exact y_G (fun c k z => by unfold uG at z; dsimp only; omega)
  · exact y_H (fun c k z => by unfold uH at z; dsimp only; omega)
  · exact y_P (fun c k z => by unfold uPl at z; dsimp only; omega)
  · exact y_W (fun c k z => by unfold uW at z; dsimp only; omega)
  · exact y_M (fun c k z => by unfold uM at z; dsimp only; omega)
  · exact y_E (fun c k z => by unfold uE at z; dsimp only; omega)
  · have g25 : ∀ i, gA (wi (wA (wA (wA (wA (wA (wA (wi S 0 0) 25 (cn S 24) t) 26 (cn S 24) (nI dn)) 27 (cn S 24) l) 28 (cn S 24) p) 29 (cn S 24) q) 30 (cn S 24) (gi S 1)) 24 (gi S 24 + 1)) 25 i = if i = cn S 24 then t else gA S 25 i := fun i => gA_p (S := wi S 0 0) (k := 25)
    have g26 : ∀ i, gA (wi (wA (wA (wA (wA (wA (wA (wi S 0 0) 25 (cn S 24) t) 26 (cn S 24) (nI dn)) 27 (cn S 24) l) 28 (cn S 24) p) 29 (cn S 24) q) 30 (cn S 24) (gi S 1)) 24 (gi S 24 + 1)) 26 i = if i = cn S 24 then nI dn else gA S 26 i := fun i => gA_p (S := wA (wi S 0 0) 25 (cn S 24) t) (k := 26)
    have g27 : ∀ i, gA (wi (wA (wA (wA (wA (wA (wA (wi S 0 0) 25 (cn S 24) t) 26 (cn S 24) (nI dn)) 27 (cn S 24) l) 28 (cn S 24) p) 29 (cn S 24) q) 30 (cn S 24) (gi S 1)) 24 (gi S 24 + 1)) 27 i = if i = cn S 24 then l else gA S 27 i := fun i => gA_p (S := wA (wA (wi S 0 0) 25 (cn S 24) t) 26 (cn S 24) (nI dn)) (k := 27)
    have g28 : ∀ i, gA (wi (wA (wA (wA (wA (wA (wA (wi S 0 0) 25 (cn S 24) t) 26 (cn S 24) (nI dn)) 27 (cn S 24) l) 28 (cn S 24) p) 29 (cn S 24) q) 30 (cn S 24) (gi S 1)) 24 (gi S 24 + 1)) 28 i = if i = cn S 24 then p else gA S 28 i := fun i => gA_p (S := wA (wA (wA (wi S 0 0) 25 (cn S 24) t) 26 (cn S 24) (nI dn)) 27 (cn S 24) l) (k := 28)
    have g29 : ∀ i, gA (wi (wA (wA (wA (wA (wA (wA (wi S 0 0) 25 (cn S 24) t) 26 (cn S 24) (nI dn)) 27 (cn S 24) l) 28 (cn S 24) p) 29 (cn S 24) q) 30 (cn S 24) (gi S 1)) 24 (gi S 24 + 1)) 29 i = if i = cn S 24 then q else gA S 29 i := fun i => gA_p (S := wA (wA (wA (wA (wi S 0 0) 25 (cn S 24) t) 26 (cn S 24) (nI dn)) 27 (cn S 24) l) 28 (cn S 24) p) (k := 29)
    have g30 : ∀ i, gA (wi (wA (wA (wA (wA (wA (wA (wi S 0 0) 25 (cn S 24) t) 26 (cn S 24) (nI dn)) 27 (cn S 24) l) 28 (cn S 24) p) 29 (cn S 24) q) 30 (cn S 24) (gi S 1)) 24 (gi S 24 + 1)) 30 i = if i = cn S 24 then gi S 1 else gA S 30 i := fun i => gA_p (S := wA (wA (wA (wA (wA (wi S 0 0) 25 (cn S 24) t) 26 (cn S 24) (nI dn)) 27 (cn S 24) l) 28 (cn S 24) p) 29 (cn S 24) q) (k := 30)
    have s24 : cn (wi (wA (wA (wA (wA (wA (wA (wi S 0 0) 25 (cn S 24) t) 26 (cn S 24) (nI dn)) 27 (cn S 24) l) 28 (cn S 24) p) 29 (cn S 24) q) 30 (cn S 24) (gi S 1)) 24 (gi S 24 + 1)) 24 = cn S 24 + 1 := by
      unfold cn
      rw [gi_wi, if_pos rfl, hV.1.2.2.2.1.1, nI_s, nI_clamp (by omega), nI_clamp (by omega)]
    obtain ⟨h1, σ, h2, h3, h4⟩ := ql
    have hL := hV.OkF.2.1
    have hlk : ∀ u, u < cn S 24 → lkey (wi (wA (wA (wA (wA (wA (wA (wi S 0 0) 25 (cn S 24) t) 26 (cn S 24) (nI dn)) 27 (cn S 24) l) 28 (cn S 24) p) 29 (cn S 24) q) 30 (cn S 24) (gi S 1)) 24 (gi S 24 + 1)) u = lkey S u := fun u hu => by
      unfold lkey
      rw [show ca (wi (wA (wA (wA (wA (wA (wA (wi S 0 0) 25 (cn S 24) t) 26 (cn S 24) (nI dn)) 27 (cn S 24) l) 28 (cn S 24) p) 29 (cn S 24) q) 30 (cn S 24) (gi S 1)) 24 (gi S 24 + 1)) 26 u = ca S 26 u from ca_e (by rw [g26, if_neg (by omega)])]
    have hlk2 : lkey (wi (wA (wA (wA (wA (wA (wA (wi S 0 0) 25 (cn S 24) t) 26 (cn S 24) (nI dn)) 27 (cn S 24) l) 28 (cn S 24) p) 29 (cn S 24) q) 30 (cn S 24) (gi S 1)) 24 (gi S 24 + 1)) (cn S 24) = dn * 12 + cn S 24 := by
      unfold lkey
      rw [show ca (wi (wA (wA (wA (wA (wA (wA (wi S 0 0) 25 (cn S 24) t) 26 (cn S 24) (nI dn)) 27 (cn S 24) l) 28 (cn S 24) p) 29 (cn S 24) q) 30 (cn S 24) (gi S 1)) 24 (gi S 24 + 1)) 26 (cn S 24) = dn from ca_v (by rw [g26, if_pos rfl]) (by omega)]
    have hday : ∀ u, u < cn S 24 → fI M (elt M (B 401 0) u) 1 = nI (ca S 26 (σ u)) ∧ ca S 26 (σ u) ≤ 9999 := fun u hu => by
      have h9 := (h2 u hu).2.2.2.2.1
      have h8 := (hL.2.2 (σ u) (h2 u hu).1).1
      exact ⟨h9.trans h8.1, h8.2⟩
    have below : ∀ u, u < i → lkey S (σ u) < dn * 12 + cn S 24 := fun u hu => by
      obtain ⟨d1, d2⟩ := hday u (by omega)
      have h9 := hlo u hu
      rw [d1, nI_leI (by omega) (by omega)] at h9
      have := (h2 u (by omega)).1
      unfold lkey; omega
    have above : ∀ u, i ≤ u → u < cn S 24 → dn * 12 + cn S 24 < lkey S (σ u) := fun u hu hu2 => by
      obtain ⟨d1, d2⟩ := hday i (by omega)
      have h9 := hhi (by omega)
      rw [d1, nI_ltI (by omega) (by omega)] at h9
      have h8 : lkey S (σ i) ≤ lkey S (σ u) := by
        rcases Nat.lt_or_ge i u with z | z
        · exact Nat.le_of_lt (h3 i u z hu2)
        · rw [show u = i by omega]; exact Nat.le_refl _
      unfold lkey at h8 ⊢; omega
    have kl0 : kd M (B 401 0) ≠ 0 := by rw [show kd M (B 401 0) = 401 from qx.k 1 (by decide)]; decide
    have hln : ln (sI (sI (sI (sI (sI (sI (al M e 6 0) e 0 t) e 1 (nI dn)) e 2 (gi S 1)) e 3 l) e 4 p) e 5 q) (B 401 0) = cn S 24 := (nwc_ln hw kl0).trans h1
    have hfr : ∀ k, fR (sI (sI (sI (sI (sI (sI (al M e 6 0) e 0 t) e 1 (nI dn)) e 2 (gi S 1)) e 3 l) e 4 p) e 5 q) (B 401 0) k = fR M (B 401 0) k := fun k => nwc_fR hw kl0 k
    have hR : ∀ k, fR (sN (sW (sI (sI (sI (sI (sI (sI (al M e 6 0) e 0 t) e 1 (nI dn)) e 2 (gi S 1)) e 3 l) e 4 p) e 5 q) (B 401 0) (insR (fR (sI (sI (sI (sI (sI (sI (al M e 6 0) e 0 t) e 1 (nI dn)) e 2 (gi S 1)) e 3 l) e 4 p) e 5 q) (B 401 0)) i e)) (B 401 0) (ln (sI (sI (sI (sI (sI (sI (al M e 6 0) e 0 t) e 1 (nI dn)) e 2 (gi S 1)) e 3 l) e 4 p) e 5 q) (B 401 0) + 1)) (B 401 0) k = insR (fR (sI (sI (sI (sI (sI (sI (al M e 6 0) e 0 t) e 1 (nI dn)) e 2 (gi S 1)) e 3 l) e 4 p) e 5 q) (B 401 0)) i e k := fun k => by
      show fR (sW (sI (sI (sI (sI (sI (sI (al M e 6 0) e 0 t) e 1 (nI dn)) e 2 (gi S 1)) e 3 l) e 4 p) e 5 q) (B 401 0) (insR (fR (sI (sI (sI (sI (sI (sI (al M e 6 0) e 0 t) e 1 (nI dn)) e 2 (gi S 1)) e 3 l) e 4 p) e 5 q) (B 401 0)) i e)) (B 401 0) k = _
      exact congrFun (up1_s _ (B 401 0) _) k
    have old : ∀ u k, u < cn S 24 → fR (sN (sW (sI (sI (sI (sI (sI (sI (al M e 6 0) e 0 t) e 1 (nI dn)) e 2 (gi S 1)) e 3 l) e 4 p) e 5 q) (B 401 0) (insR (fR (sI (sI (sI (sI (sI (sI (al M e 6 0) e 0 t) e 1 (nI dn)) e 2 (gi S 1)) e 3 l) e 4 p) e 5 q) (B 401 0)) i e)) (B 401 0) (ln (sI (sI (sI (sI (sI (sI (al M e 6 0) e 0 t) e 1 (nI dn)) e 2 (gi S 1)) e 3 l) e 4 p) e 5 q) (B 401 0) + 1)) (B 401 0) k = fR M (B 401 0) u → qL1 (wi (wA (wA (wA (wA (wA (wA (wi S 0 0) 25 (cn S 24) t) 26 (cn S 24) (nI dn)) 27 (cn S 24) l) 28 (cn S 24) p) 29 (cn S 24) q) 30 (cn S 24) (gi S 1)) 24 (gi S 24 + 1)) (sN (sW (sI (sI (sI (sI (sI (sI (al M e 6 0) e 0 t) e 1 (nI dn)) e 2 (gi S 1)) e 3 l) e 4 p) e 5 q) (B 401 0) (insR (fR (sI (sI (sI (sI (sI (sI (al M e 6 0) e 0 t) e 1 (nI dn)) e 2 (gi S 1)) e 3 l) e 4 p) e 5 q) (B 401 0)) i e)) (B 401 0) (ln (sI (sI (sI (sI (sI (sI (al M e 6 0) e 0 t) e 1 (nI dn)) e 2 (gi S 1)) e 3 l) e 4 p) e 5 q) (B 401 0) + 1)) (B 401 0) k (σ u) := fun u k hu hr => by
      obtain ⟨q1, q2⟩ := h2 u hu
      obtain ⟨a1, a2, a3, a4, a5, a6, a7, a8⟩ := q2
      have hel : elt (sN (sW (sI (sI (sI (sI (sI (sI (al M e 6 0) e 0 t) e 1 (nI dn)) e 2 (gi S 1)) e 3 l) e 4 p) e 5 q) (B 401 0) (insR (fR (sI (sI (sI (sI (sI (sI (al M e 6 0) e 0 t) e 1 (nI dn)) e 2 (gi S 1)) e 3 l) e 4 p) e 5 q) (B 401 0)) i e)) (B 401 0) (ln (sI (sI (sI (sI (sI (sI (al M e 6 0) e 0 t) e 1 (nI dn)) e 2 (gi S 1)) e 3 l) e 4 p) e 5 q) (B 401 0) + 1)) (B 401 0) k = elt M (B 401 0) u := by unfold elt; rw [hr]
      have hne : ¬ σ u = cn S 24 := by omega
      unfold qL1
      rw [hel, hr, g25, if_neg hne, g26, if_neg hne, g27, if_neg hne, g28, if_neg hne, g29, if_neg hne, g30, if_neg hne, g.K1 a2 (by decide), g.I a2 (by decide) (by omega), g.I a2 (by decide) (by omega), g.I a2 (by decide) (by omega), g.I a2 (by decide) (by omega), g.I a2 (by decide) (by omega), g.I a2 (by decide) (by omega)]
      exact ⟨a1, a2, a3, a4, a5, a6, a7, a8⟩
    refine ⟨?_, fun k => if k < i then σ k else if k = i then cn S 24 else σ (k - 1), fun k hk => ?_, fun k u hku hu => ?_, fun v hv => ?_⟩
    · show ln (sN _ (B 401 0) _) (B 401 0) = _
      rw [ln_sN, if_pos rfl, hln, s24]
    · rw [s24] at hk ⊢
      dsimp only
      by_cases c1 : k < i
      · rw [if_pos c1]
        refine ⟨by have := (h2 k (by omega)).1; omega, old k k (by omega) ?_⟩
        rw [hR]; unfold insR; rw [if_pos c1, hfr]
      · rw [if_neg c1]
        by_cases c2 : k = i
        · rw [if_pos c2]
          refine ⟨by omega, ?_⟩
          have hr : fR (sN (sW (sI (sI (sI (sI (sI (sI (al M e 6 0) e 0 t) e 1 (nI dn)) e 2 (gi S 1)) e 3 l) e 4 p) e 5 q) (B 401 0) (insR (fR (sI (sI (sI (sI (sI (sI (al M e 6 0) e 0 t) e 1 (nI dn)) e 2 (gi S 1)) e 3 l) e 4 p) e 5 q) (B 401 0)) i e)) (B 401 0) (ln (sI (sI (sI (sI (sI (sI (al M e 6 0) e 0 t) e 1 (nI dn)) e 2 (gi S 1)) e 3 l) e 4 p) e 5 q) (B 401 0) + 1)) (B 401 0) k = some e := by rw [hR]; unfold insR; rw [if_neg c1, if_pos c2]
          unfold qL1
          rw [elt_new hr, hr, g25, if_pos rfl, g26, if_pos rfl, g27, if_pos rfl, g28, if_pos rfl, g29, if_pos rfl, g30, if_pos rfl]
          refine ⟨rfl, ?_, ?_, ?_, ?_, ?_, ?_, ?_⟩
          · show kd (al M e 6 0) e % 1000 = 6
            rw [kd_al, if_pos rfl]
          · show fI (sI (sI (sI (sI (sI (sI (al M e 6 0) e 0 t) e 1 (nI dn)) e 2 (gi S 1)) e 3 l) e 4 p) e 5 q) e 0 = t
            rw [fI_k (by decide), fI_k (by decide), fI_k (by decide), fI_k (by decide), fI_k (by decide), fI_s]
          · show fI (sI (sI (sI (sI (sI (sI (al M e 6 0) e 0 t) e 1 (nI dn)) e 2 (gi S 1)) e 3 l) e 4 p) e 5 q) e 1 = nI dn
            rw [fI_k (by decide), fI_k (by decide), fI_k (by decide), fI_k (by decide), fI_s]
          · show fI (sI (sI (sI (sI (sI (sI (al M e 6 0) e 0 t) e 1 (nI dn)) e 2 (gi S 1)) e 3 l) e 4 p) e 5 q) e 2 = gi S 1
            rw [fI_k (by decide), fI_k (by decide), fI_k (by decide), fI_s]
          · show fI (sI (sI (sI (sI (sI (sI (al M e 6 0) e 0 t) e 1 (nI dn)) e 2 (gi S 1)) e 3 l) e 4 p) e 5 q) e 3 = l
            rw [fI_k (by decide), fI_k (by decide), fI_s]
          · show fI (sI (sI (sI (sI (sI (sI (al M e 6 0) e 0 t) e 1 (nI dn)) e 2 (gi S 1)) e 3 l) e 4 p) e 5 q) e 4 = p
            rw [fI_k (by decide), fI_s]
          · show fI (sI (sI (sI (sI (sI (sI (al M e 6 0) e 0 t) e 1 (nI dn)) e 2 (gi S 1)) e 3 l) e 4 p) e 5 q) e 5 = q
            exact fI_s
        · rw [if_neg c2]
          refine ⟨by have := (h2 (k - 1) (by omega)).1; omega, old (k - 1) k (by omega) ?_⟩
          rw [hR]; unfold insR; rw [if_neg c1, if_neg c2, hfr]
    · rw [s24] at hu
      dsimp only
      by_cases c1 : k < i
      · rw [if_pos c1, hlk _ (h2 k (by omega)).1]
        by_cases c3 : u < i
        · rw [if_pos c3, hlk _ (h2 u (by omega)).1]; exact h3 k u hku (by omega)
        · rw [if_neg c3]
          by_cases c4 : u = i
          · rw [if_pos c4, hlk2]; exact below k c1
          · rw [if_neg c4, hlk _ (h2 (u - 1) (by omega)).1]; exact h3 k (u - 1) (by omega) (by omega)
      · rw [if_neg c1, if_neg (show ¬ u < i by omega), if_neg (show ¬ u = i by omega), hlk _ (h2 (u - 1) (by omega)).1]
        by_cases c2 : k = i
        · rw [if_pos c2, hlk2]; exact above (u - 1) (by omega) (by omega)
        · rw [if_neg c2, hlk _ (h2 (k - 1) (by omega)).1]; exact h3 (k - 1) (u - 1) (by omega) (by omega)
    · rw [s24] at hv
      by_cases c : v = cn S 24
      · exact ⟨i, by rw [s24]; omega, by dsimp only; rw [if_neg (Nat.lt_irrefl i), if_pos rfl, c]⟩
      · obtain ⟨u, hu, rfl⟩ := h4 v (by omega)
        by_cases c1 : u < i
        · exact ⟨u, by rw [s24]; omega, by dsimp only; rw [if_pos c1]⟩
        · exact ⟨u + 1, by rw [s24]; omega, by dsimp only; rw [if_neg (by omega), if_neg (by omega), Nat.add_sub_cancel]⟩
  · exact y_Q (fun c k z => by unfold uQ at z; dsimp only; omega)
  · exact y_T (fun c k z => by unfold uT at z; dsimp only; omega)
  · exact y_R (fun c k z => by unfold uR at z; dsimp only; omega)
  · exact y_C (fun c k z => by unfold uC at z; dsimp only; omega)
  · exact y_O (fun c k z => by unfold uO at z; dsimp only; omega)
  · exact y_I (fun c k z => by unfold uSg at z; dsimp only; omega)
