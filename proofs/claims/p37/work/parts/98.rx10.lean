theorem ctn_0 {p : Nat → Bool} : ∀ {n}, (∀ i, i < n → p i = false) → ctn p n = 0
  | 0, _ => rfl
  | n + 1, h => by rw [ctn, if_neg (by rw [h n (by omega)]; decide), ctn_0 (fun i hi => h i (by omega))]
theorem wzL_no {o : Nat → Int32} {f : Int32} : ∀ {n}, (∀ i, i < n → o i ≠ f) → wzL o f n = false
  | 0, _ => rfl
  | n + 1, h => by rw [wzL, wzL_no (fun i hi => h i (by omega)), decide_eq_false (h n (by omega))]; rfl
def fB (B : Nat → Nat → Nat) (n o h1 l1 h2 l2 nl el ha : Nat) : Nat → Nat → Nat := fun c i => if c = 4 ∧ i = n then o else if c = 5 ∧ i = 2 * n then h1 else if c = 5 ∧ i = 2 * n + 1 then h2 else if c = 410 ∧ i = n then nl else if c = 411 ∧ i = n then el else if c = 412 ∧ i = n then l1 else if c = 413 ∧ i = n then l2 else if c = 170 ∧ i = n then ha else B c i
theorem fB_n {B : Nat → Nat → Nat} {n o h1 l1 h2 l2 nl el ha : Nat} : fB B n o h1 l1 h2 l2 nl el ha 4 n = o ∧ fB B n o h1 l1 h2 l2 nl el ha 5 (2 * n) = h1 ∧ fB B n o h1 l1 h2 l2 nl el ha 5 (2 * n + 1) = h2 ∧ fB B n o h1 l1 h2 l2 nl el ha 410 n = nl ∧ fB B n o h1 l1 h2 l2 nl el ha 411 n = el ∧ fB B n o h1 l1 h2 l2 nl el ha 412 n = l1 ∧ fB B n o h1 l1 h2 l2 nl el ha 413 n = l2 ∧ fB B n o h1 l1 h2 l2 nl el ha 170 n = ha := by
  unfold fB
  refine ⟨?_, ?_, ?_, ?_, ?_, ?_, ?_, ?_⟩
  · exact if_pos ⟨rfl, rfl⟩
  · rw [if_neg (by omega), if_pos ⟨rfl, rfl⟩]
  · rw [if_neg (by omega), if_neg (by omega), if_pos ⟨rfl, rfl⟩]
  · rw [if_neg (by omega), if_neg (by omega), if_neg (by omega), if_pos ⟨rfl, rfl⟩]
  · rw [if_neg (by omega), if_neg (by omega), if_neg (by omega), if_neg (by omega), if_pos ⟨rfl, rfl⟩]
  · rw [if_neg (by omega), if_neg (by omega), if_neg (by omega), if_neg (by omega), if_neg (by omega), if_pos ⟨rfl, rfl⟩]
  · rw [if_neg (by omega), if_neg (by omega), if_neg (by omega), if_neg (by omega), if_neg (by omega), if_neg (by omega), if_pos ⟨rfl, rfl⟩]
  · rw [if_neg (by omega), if_neg (by omega), if_neg (by omega), if_neg (by omega), if_neg (by omega), if_neg (by omega), if_neg (by omega), if_pos ⟨rfl, rfl⟩]
theorem fB_o {B : Nat → Nat → Nat} {n o h1 l1 h2 l2 nl el ha c i : Nat} (h : (c = 5 ∧ i < 2 * n) ∨ (c ≠ 5 ∧ i < n) ∨ (c ≠ 4 ∧ c ≠ 5 ∧ c ≠ 410 ∧ c ≠ 411 ∧ c ≠ 412 ∧ c ≠ 413 ∧ c ≠ 170)) : fB B n o h1 l1 h2 l2 nl el ha c i = B c i := by
  unfold fB
  rw [if_neg (by omega), if_neg (by omega), if_neg (by omega), if_neg (by omega), if_neg (by omega), if_neg (by omega), if_neg (by omega), if_neg (by omega)]
theorem qF1.fr4 {T : Nat → Nat → Prop} {B : Nat → Nat → Nat} {S : Ms} {M M' : Mm} {f : Nat} (h : qF1 B S M f) (g : agr T M M') (hr : fR M' (B 400 0) f = fR M (B 400 0) f) (t4 : ∀ k, k ≤ 6 → ¬ T 4 k) (t5 : ¬ T 5 0) (t17 : ¬ T 1170 0) : qF1 B S M' f := by
  obtain ⟨a1, a2, ⟨a3, a4⟩, ⟨b1, b2, b3, b4, b5⟩, ⟨c1, c2, c3, c4, c5, c6, c7⟩, d1, d2, d3⟩ := h
  have m4 : kd M (B 4 f) % 1000 = 4 := by rw [a2]; omega
  have m5 : kd M (B 5 (2 * f)) % 1000 = 5 := by rw [c1]; omega
  have m6 : kd M (B 5 (2 * f + 1)) % 1000 = 5 := by rw [c2]; omega
  have m7 : kd M (B 170 f) % 1000 = 170 := by rw [c7]; omega
  unfold qF1
  rw [hr, g.K1 m4 (by decide), g.I m4 (by decide) (t4 0 (by decide)), g.I m4 (by decide) (t4 1 (by decide)), g.R m4 (by decide) (t4 2 (by decide)), g.R m4 (by decide) (t4 3 (by decide)),
    g.R m4 (by decide) (t4 4 (by decide)), g.R m4 (by decide) (t4 5 (by decide)), g.R m4 (by decide) (t4 6 (by decide)), g.K1 m5 (by decide), g.K1 m6 (by decide), g.K (a := B 410 f) (by rw [c3]; omega), g.K (a := B 411 f) (by rw [c4]; omega),
    g.K (a := B 412 f) (by rw [c5]; omega), g.K (a := B 413 f) (by rw [c6]; omega), g.K1 m7 (by decide), g.R m5 (by decide) t5, g.R m6 (by decide) t5, g.N m7 (by decide) t17]
  exact ⟨a1, a2, ⟨a3, a4⟩, ⟨b1, b2, b3, b4, b5⟩, ⟨c1, c2, c3, c4, c5, c6, c7⟩, d1, d2, d3⟩
theorem same.psh {M : Mm} {a v b : Nat} (h : b ≠ a) : same M (psh M a v) b := (same.sN h).tr (same.sR h)
def fNF (M : Mm) (n o h1 l1 h2 l2 nl el ha e : Nat) (kn td v : Int32) : Prop :=
  (kd M o = 4 + 1000 * n ∧ fI M o 0 = kn ∧ fI M o 1 = td ∧ fI M o 7 = 0 ∧ fI M o 11 = 0 ∧ fI M o 12 = 0 ∧ fI M o 13 = 0 ∧ fL M o 14 = 0) ∧
  (fR M o 2 = some h1 ∧ fR M o 3 = some h2 ∧ fR M o 4 = some nl ∧ fR M o 5 = some el ∧ fR M o 6 = some ha) ∧
  (kd M h1 = 5 + 2000 * n ∧ kd M h2 = 1005 + 2000 * n ∧ kd M nl = 410 + 1000 * n ∧ kd M el = 411 + 1000 * n ∧ kd M l1 = 412 + 1000 * n ∧ kd M l2 = 413 + 1000 * n ∧ kd M ha = 170 + 1000 * n) ∧
  (fR M h1 0 = some l1 ∧ fR M h2 0 = some l2 ∧ ln M l1 = 1 ∧ ln M l2 = 0 ∧ ln M nl = 0 ∧ ln M el = 0 ∧ ln M ha = 4 ∧ ∀ k, fI M ha k = 0) ∧
  fR M l1 0 = some e ∧ kd M e % 1000 = 2 ∧ fI M e 0 = v ∧ fI M e 1 = td ∧ fI M e 2 = td
theorem fea_nwc {M M2 : Mm} {o ko f h1 l1 h2 l2 nl el ha e ke : Nat} {kn tl v d n : Int32} (ho : kd M o = 0) (hz : kd (al M o ko 0) l1 = 0) (hf : FNew (al M o ko 0) M2 o f kn tl h1 l1 h2 l2 nl el ha) (he : kd M2 e = 0) : nwc M (psh (entM M2 e ke v d n) l1 e) o ∧ nwc M M2 o :=by
  have h9 : ∀ b, kd M b ≠ 0 → same M M2 b ∧ b ≠ o ∧ b ≠ l1 ∧ b ≠ e := fun b hb => by
    have n1 : b ≠ o := fun z => hb (by rw [z]; exact ho)
    have s1 : same M (al M o ko 0) b := same.al n1
    have k1 : kd (al M o ko 0) b ≠ 0 := by rw [← s1.1]; exact hb
    have s2 := hf.1 b k1 n1
    have s3 := s1.tr s2
    refine ⟨s3, n1, fun z => k1 (by rw [z]; exact hz), fun z => hb ?_⟩
    rw [s3.1, z]; exact he
  refine ⟨⟨ho, fun b hb => ?_⟩, ⟨ho, fun b hb => (h9 b hb).1⟩⟩
  obtain ⟨s, n1, n2, n3⟩ := h9 b hb
  exact (s.tr ((nwc_ent he).2 b (by rw [← s.1]; exact hb))).tr (same.psh n2)
theorem fea_new {M M2 : Mm} {o n h1 l1 h2 l2 nl el ha e a4 : Nat} {kn tl v : Int32} (ho : kd M o = 0) (h4 : kd M a4 = 400) (hz : kd (al M o (4 + 1000 * n) 0) h1 = 0 ∧ kd (al M o (4 + 1000 * n) 0) l1 = 0 ∧ kd (al M o (4 + 1000 * n) 0) h2 = 0 ∧ kd (al M o (4 + 1000 * n) 0) l2 = 0 ∧ kd (al M o (4 + 1000 * n) 0) nl = 0 ∧ kd (al M o (4 + 1000 * n) 0) el = 0 ∧ kd (al M o (4 + 1000 * n) 0) ha = 0)
    (hf : FNew (al M o (4 + 1000 * n) 0) M2 o n kn tl h1 l1 h2 l2 nl el ha) (he : kd M2 e = 0) : fNF (psh (psh (entM M2 e 2 v tl tl) l1 e) a4 o) n o h1 l1 h2 l2 nl el ha e kn tl v := by
  obtain ⟨z1, z2, z3, z4, z5, z6, z7⟩ := hz
  have n4 : a4 ≠ o := fun z => by rw [z, ho] at h4; cases h4
  have k4 : kd (al M o (4 + 1000 * n) 0) a4 = 400 := by rw [kd_al, if_neg n4]; exact h4
  have ne4 : ∀ b, kd (al M o (4 + 1000 * n) 0) b = 0 → b ≠ a4 := fun b hb z => by rw [z, k4] at hb; cases hb
  obtain ⟨f1, f2, ⟨f3, f4, -, f6⟩, f7, ⟨f8, f9, g1, g2, g3⟩, ⟨g4, g5, g6, g7, g8, g9, e1⟩, e2, e3, e4, e5, e6, e7, e8, e9⟩ := hf
  have ko : kd M2 o = 4 + 1000 * n := by rw [f2, kd_al, if_pos rfl]
  have sm : ∀ b, kd M2 b ≠ 0 → b ≠ l1 → b ≠ a4 → same M2 (psh (psh (entM M2 e 2 v tl tl) l1 e) a4 o) b := fun b hb h1 h2 => (((nwc_ent he).2 b hb).tr (same.psh h1)).tr (same.psh h2)
  have so := sm o (by rw [ko]; omega) (fun z => by rw [z, g5] at ko; omega) (fun z => n4 z.symm)
  have s1 := sm h1 (by rw [g4]; omega) (fun z => by rw [z, g5] at g4; omega) (ne4 _ z1)
  have s2 := sm h2 (by rw [g6]; omega) (fun z => by rw [z, g5] at g6; omega) (ne4 _ z3)
  have s3 := sm l2 (by rw [g7]; omega) (fun z => by rw [z, g5] at g7; omega) (ne4 _ z4)
  have s4 := sm nl (by rw [g8]; omega) (fun z => by rw [z, g5] at g8; omega) (ne4 _ z5)
  have s5 := sm el (by rw [g9]; omega) (fun z => by rw [z, g5] at g9; omega) (ne4 _ z6)
  have s6 := sm ha (by rw [e1]; omega) (fun z => by rw [z, g5] at e1; omega) (ne4 _ z7)
  have n1e : l1 ≠ e := fun z => by rw [z, he] at g5; omega
  have hw := nwc_ent (ke := 2) (v := v) (d := tl) (n := tl) he
  have k1 : kd M2 l1 ≠ 0 := by rw [g5]; omega
  have fi : ∀ k, k ≠ 0 → k ≠ 1 → k ≠ 10 → fI M2 o k = 0 := fun k a b c => by rw [f6 k a b c, fI_al, if_pos rfl]
  have fl : fL M2 o 14 = 0 := by rw [f7, fL_al, if_pos rfl]
  refine ⟨⟨so.1.symm.trans ko, (congrFun so.2.1 0).symm.trans f3, (congrFun so.2.1 1).symm.trans f4, (congrFun so.2.1 7).symm.trans (fi 7 (by decide) (by decide) (by decide)), (congrFun so.2.1 11).symm.trans (fi 11 (by decide) (by decide) (by decide)), (congrFun so.2.1 12).symm.trans (fi 12 (by decide) (by decide) (by decide)), (congrFun so.2.1 13).symm.trans (fi 13 (by decide) (by decide) (by decide)), (congrFun so.2.2.1 14).symm.trans fl⟩,
    ⟨(congrFun so.2.2.2.1 2).symm.trans f8, (congrFun so.2.2.2.1 3).symm.trans f9, (congrFun so.2.2.2.1 4).symm.trans g1, (congrFun so.2.2.2.1 5).symm.trans g2, (congrFun so.2.2.2.1 6).symm.trans g3⟩,
    ⟨s1.1.symm.trans g4, s2.1.symm.trans g6, s4.1.symm.trans g8, s5.1.symm.trans g9, ?_, s3.1.symm.trans g7, s6.1.symm.trans e1⟩,
    ⟨(congrFun s1.2.2.2.1 0).symm.trans e2, (congrFun s2.2.2.2.1 0).symm.trans e3, ?_, s3.2.2.2.2.symm.trans e5, s4.2.2.2.2.symm.trans e6, s5.2.2.2.2.symm.trans e7, s6.2.2.2.2.symm.trans e8, fun k => (congrFun s6.2.1 k).symm.trans (e9 k)⟩, ?_, ?_, ?_, ?_, ?_⟩
  · show kd (entM M2 e 2 v tl tl) l1 = _
    rw [kd_entM, if_neg n1e]; exact g5
  · rw [psh_lo (ne4 _ z2), gl_ln hw k1, e4]
  · rw [psh_ro (ne4 _ z2)]
    have := gl_new hw k1
    rw [e4] at this; exact this
  · show kd (entM M2 e 2 v tl tl) e % 1000 = 2
    rw [kd_entM, if_pos rfl]
  · show fI (entM M2 e 2 v tl tl) e 0 = v
    unfold entM; rw [fI_k (by decide), fI_k (by decide), fI_s]
  · show fI (entM M2 e 2 v tl tl) e 1 = tl
    unfold entM; rw [fI_k (by decide), fI_s]
  · show fI (entM M2 e 2 v tl tl) e 2 = tl
    unfold entM; rw [fI_s]
theorem xc_f : ∀ k, k < 10 → xc k ≠ 4 ∧ xc k ≠ 5 ∧ xc k ≠ 410 ∧ xc k ≠ 411 ∧ xc k ≠ 412 ∧ xc k ≠ 413 ∧ xc k ≠ 170 := by decide
theorem RX_feature {B : Nat → Nat → Nat} {x : Nat} {S : Ms} {M M2 : Mm} (hX : RX B x S M) (hV : INV S) {k p q : Int32} {o h1 l1 h2 l2 nl el ha e : Nat} (hn : cn S 2 < 24) (ho : kd M o = 0) (hz : kd (al M o (4 + 1000 * cn S 2) 0) h1 = 0 ∧ kd (al M o (4 + 1000 * cn S 2) 0) l1 = 0 ∧ kd (al M o (4 + 1000 * cn S 2) 0) h2 = 0 ∧ kd (al M o (4 + 1000 * cn S 2) 0) l2 = 0 ∧ kd (al M o (4 + 1000 * cn S 2) 0) nl = 0 ∧ kd (al M o (4 + 1000 * cn S 2) 0) el = 0 ∧ kd (al M o (4 + 1000 * cn S 2) 0) ha = 0)
    (hf : FNew (al M o (4 + 1000 * cn S 2) 0) M2 o (cn S 2) k (gi S 1) h1 l1 h2 l2 nl el ha) (he : kd M2 e = 0) : RX (fB B (cn S 2) o h1 l1 h2 l2 nl el ha) x (sFeature S k p q) (psh (psh (entM M2 e 2 (p * 100 + q) (gi S 1) (gi S 1)) l1 e) (B 400 0) o) ∧ agr TC M (psh (psh (entM M2 e 2 (p * 100 + q) (gi S 1) (gi S 1)) l1 e) (B 400 0) o) := by
  obtain ⟨qx, qs, qf, qd, qg, qh, qp, qw, qm, qe, ql, qq, qt, qr, qc, qo, qi⟩ := id hX
  obtain ⟨bn1, bn2, bn3, bn4, bn5, bn6, bn7, bn8⟩ := fB_n (B := B) (n := cn S 2) (o := o) (h1 := h1) (l1 := l1) (h2 := h2) (l2 := l2) (nl := nl) (el := el) (ha := ha)
  have bO : ∀ c, (c ≠ 4 ∧ c ≠ 5 ∧ c ≠ 410 ∧ c ≠ 411 ∧ c ≠ 412 ∧ c ≠ 413 ∧ c ≠ 170) → ∀ {i}, (fB B (cn S 2) o h1 l1 h2 l2 nl el ha) c i = B c i := fun c h i => fB_o (Or.inr (Or.inr h))
  obtain ⟨v5, v10, v48, v49, v56, v47⟩ := hV.2.2.1 (cn S 2) (Nat.le_refl _) hn
  have c5 : ca S 5 (cn S 2) = 0 := by unfold ca; rw [v5]; rfl
  have s2 : cn (sFeature S k p q) 2 = cn S 2 + 1 := by
    show (gi S 2 + 1).toNatClampNeg = _
    rw [hV.1.2.1.1, nI_s, nI_clamp (by omega)]
  have g3 : ∀ i, gA (sFeature S k p q) 3 i = if i = cn S 2 then k else gA S 3 i := fun i => gA_p (S := (wi S 0 0)) (k := 3)
  have g4 : ∀ i, gA (sFeature S k p q) 4 i = if i = cn S 2 then gi S 1 else gA S 4 i := fun i => gA_p (S := (wA (wi S 0 0) 3 (cn S 2) k)) (k := 4)
  have g14 : ∀ i, gA (sFeature S k p q) 14 i = if i = cn S 2 then -1 else gA S 14 i := fun i => gA_p (S := (wA (wA (wi S 0 0) 3 (cn S 2) k) 4 (cn S 2) (gi S 1))) (k := 14)
  have g5 : ∀ i, gA (sFeature S k p q) 5 i = if i = cn S 2 then 1 else gA S 5 i := fun i => by
    have h9 : gA (sFeature S k p q) 5 i = if i = cn S 2 then gA S 5 (cn S 2) + 1 else gA S 5 i := gA_p (S := (wA (wA (wA (wA (wi (wA (wA (wA (wi S 0 0) 3 (cn S 2) k) 4 (cn S 2) (gi S 1)) 14 (cn S 2) (-1)) 2 (gi S 2 + 1)) 6 (40 * cn S 2 + ca S 5 (cn S 2)) p) 7 (40 * cn S 2 + ca S 5 (cn S 2)) q) 8 (40 * cn S 2 + ca S 5 (cn S 2)) (gi S 1)) 9 (40 * cn S 2 + ca S 5 (cn S 2)) (gi S 1))) (k := 5)
    rw [h9, v5]; rfl
  have g6 : ∀ i, gA (sFeature S k p q) 6 i = if i = 40 * cn S 2 then p else gA S 6 i := fun i => by
    have h9 : gA (sFeature S k p q) 6 i = if i = (40 * cn S 2 + ca S 5 (cn S 2)) then p else gA S 6 i := gA_p (S := (wi (wA (wA (wA (wi S 0 0) 3 (cn S 2) k) 4 (cn S 2) (gi S 1)) 14 (cn S 2) (-1)) 2 (gi S 2 + 1))) (k := 6)
    rw [h9, c5, Nat.add_zero]
  have g7 : ∀ i, gA (sFeature S k p q) 7 i = if i = 40 * cn S 2 then q else gA S 7 i := fun i => by
    have h9 : gA (sFeature S k p q) 7 i = if i = (40 * cn S 2 + ca S 5 (cn S 2)) then q else gA S 7 i := gA_p (S := (wA (wi (wA (wA (wA (wi S 0 0) 3 (cn S 2) k) 4 (cn S 2) (gi S 1)) 14 (cn S 2) (-1)) 2 (gi S 2 + 1)) 6 (40 * cn S 2 + ca S 5 (cn S 2)) p)) (k := 7)
    rw [h9, c5, Nat.add_zero]
  have g8 : ∀ i, gA (sFeature S k p q) 8 i = if i = 40 * cn S 2 then gi S 1 else gA S 8 i := fun i => by
    have h9 : gA (sFeature S k p q) 8 i = if i = (40 * cn S 2 + ca S 5 (cn S 2)) then gi S 1 else gA S 8 i := gA_p (S := (wA (wA (wi (wA (wA (wA (wi S 0 0) 3 (cn S 2) k) 4 (cn S 2) (gi S 1)) 14 (cn S 2) (-1)) 2 (gi S 2 + 1)) 6 (40 * cn S 2 + ca S 5 (cn S 2)) p) 7 (40 * cn S 2 + ca S 5 (cn S 2)) q)) (k := 8)
    rw [h9, c5, Nat.add_zero]
  have g9 : ∀ i, gA (sFeature S k p q) 9 i = if i = 40 * cn S 2 then gi S 1 else gA S 9 i := fun i => by
    have h9 : gA (sFeature S k p q) 9 i = if i = (40 * cn S 2 + ca S 5 (cn S 2)) then gi S 1 else gA S 9 i := gA_p (S := (wA (wA (wA (wi (wA (wA (wA (wi S 0 0) 3 (cn S 2) k) 4 (cn S 2) (gi S 1)) 14 (cn S 2) (-1)) 2 (gi S 2 + 1)) 6 (40 * cn S 2 + ca S 5 (cn S 2)) p) 7 (40 * cn S 2 + ca S 5 (cn S 2)) q) 8 (40 * cn S 2 + ca S 5 (cn S 2)) (gi S 1))) (k := 9)
    rw [h9, c5, Nat.add_zero]
  have k400 : kd M (B 400 0) = 400 := qx.k 0 (by decide)
  have k40 : kd M (B 400 0) ≠ 0 := by rw [k400]; decide
  have hw := (fea_nwc (ke := 2) (v := p * 100 + q) (d := gi S 1) (n := gi S 1) ho hz.2.1 hf he).1
  have hN := fea_new (v := p * 100 + q) ho k400 hz hf he
  have g : agr (fun c _ => c = 400 ∨ c = 1400) M (psh (psh (entM M2 e 2 (p * 100 + q) (gi S 1) (gi S 1)) l1 e) (B 400 0) o) := agr_psh hw (c := 400) (by rw [k400]) (by decide) (fun k => Or.inl rfl) (Or.inr rfl)
  obtain ⟨y_X, y_S, y_F, y_D, y_G, y_H, y_P, y_W, y_M, y_E, y_L, y_Q, y_T, y_R, y_C, y_O, y_I⟩ := hX.fr hV g
  refine ⟨⟨?_, ?_, ?_, ?_, ?_, ?_, ?_, ?_, ?_, ?_, ?_, ?_, ?_, ?_, ?_, ?_, ?_⟩, g.mono (fun c k z => by unfold TC; omega)⟩
  · obtain ⟨a1, a2, a3, a4⟩ := y_X (fun c k z => by unfold uX at z; dsimp only; omega)
    refine ⟨a1, fun u hu => ?_, fun u hu => ?_, ?_⟩
    · rw [bO (xc u) (xc_f u hu)]; exact a2 u hu
    · rw [bO 1 (by decide), bO (172 + u) (by omega)]; exact a3 u hu
    · rw [bO 175 (by decide), bO 176 (by decide), bO 177 (by decide), bO 172 (by decide), bO 173 (by decide), bO 174 (by decide)]; exact a4
  · exact y_S (fun c k z => by unfold uS at z; dsimp only; omega)
  · refine ⟨?_, ?_⟩
    · rw [bO 400 (by decide), gl_ln hw k40, qf.1, s2]
    · intro f hf
      rw [s2] at hf
      by_cases e9 : f = cn S 2
      · rw [e9]
        unfold qF1
        rw [bO 400 (by decide), bn1, bn2, bn3, bn4, bn5, bn6, bn7, bn8, g3, if_pos rfl, g4, if_pos rfl]
        have hr := gl_new hw k40
        rw [qf.1] at hr
        exact ⟨hr, hN.1.1, ⟨hN.1.2.1, hN.1.2.2.1⟩, hN.2.1, hN.2.2.1, hN.2.2.2.1.1, hN.2.2.2.1.2.1, hN.2.2.2.1.2.2.2.2.2.2.1⟩
      · have hf2 : f < cn S 2 := by omega
        have h9 := (qf.2 f hf2).fr4 g (gl_old hw k40 (by rw [qf.1]; exact e9)) (fun k hk => by omega) (by omega) (by omega)
        unfold qF1 at h9 ⊢
        rw [bO 400 (by decide), fB_o (c := 4) (i := f) (Or.inr (Or.inl ⟨by decide, hf2⟩)), fB_o (c := 410) (i := f) (Or.inr (Or.inl ⟨by decide, hf2⟩)), fB_o (c := 411) (i := f) (Or.inr (Or.inl ⟨by decide, hf2⟩)), fB_o (c := 412) (i := f) (Or.inr (Or.inl ⟨by decide, hf2⟩)), fB_o (c := 413) (i := f) (Or.inr (Or.inl ⟨by decide, hf2⟩)), fB_o (c := 170) (i := f) (Or.inr (Or.inl ⟨by decide, hf2⟩)), fB_o (c := 5) (i := 2 * f) (Or.inl ⟨rfl, by omega⟩), fB_o (c := 5) (i := 2 * f + 1) (Or.inl ⟨rfl, by omega⟩), g3, if_neg e9, g4, if_neg e9]
        exact h9
  · intro f hf
    rw [s2] at hf
    by_cases e9 : f = cn S 2
    · rw [e9]
      unfold qD1
      rw [bn1, g14, if_pos rfl]
      exact Or.inl ⟨hN.1.2.2.2.1, rfl⟩
    · have hf2 : f < cn S 2 := by omega
      have h9 := y_D (fun c k z => by unfold uD at z; dsimp only; omega) f hf2
      unfold qD1 at h9 ⊢
      rw [fB_o (c := 4) (i := f) (Or.inr (Or.inl ⟨by decide, hf2⟩)), g14, if_neg e9]
      exact h9
  · intro f hf
    rw [s2] at hf
    by_cases e9 : f = cn S 2
    · rw [e9, bn1]
      exact ⟨hN.1.2.2.2.2.1.trans v48.symm, hN.1.2.2.2.2.2.1.trans v49.symm⟩
    · have hf2 : f < cn S 2 := by omega
      rw [fB_o (c := 4) (i := f) (Or.inr (Or.inl ⟨by decide, hf2⟩))]
      exact y_G (fun c k z => by unfold uG at z; dsimp only; omega) f hf2
  · intro f hf
    rw [s2] at hf
    by_cases e9 : f = cn S 2
    · intro t ht
      rw [e9, bn8, hN.2.2.2.1.2.2.2.2.2.2.2]
      exact (v47 t ht).symm
    · have hf2 : f < cn S 2 := by omega
      rw [fB_o (c := 170) (i := f) (Or.inr (Or.inl ⟨by decide, hf2⟩))]
      exact y_H (fun c k z => by unfold uH at z; dsimp only; omega) f hf2
  · intro f hf
    rw [s2] at hf
    by_cases e9 : f = cn S 2
    · rw [e9, bn6, hN.2.2.2.1.2.2.1, show ca (sFeature S k p q) 5 (cn S 2) = 1 from ca_v (by rw [g5, if_pos rfl]; rfl) (by decide)]
      refine ⟨rfl, fun i hi => ?_⟩
      have hi0 : i = 0 := by omega
      rw [hi0]
      unfold qP1
      rw [elt_new hN.2.2.2.2.1, Nat.add_zero, g6, if_pos rfl, g7, if_pos rfl, g8, if_pos rfl, g9, if_pos rfl]
      exact ⟨hN.2.2.2.2.1, hN.2.2.2.2.2⟩
    · have hf2 : f < cn S 2 := by omega
      obtain ⟨i1, i2⟩ := y_P (fun c k z => by unfold uPl at z; dsimp only; omega) f hf2
      rw [fB_o (c := 412) (i := f) (Or.inr (Or.inl ⟨by decide, hf2⟩)), show ca (sFeature S k p q) 5 f = ca S 5 f from ca_e (by rw [g5, if_neg e9])]
      refine ⟨i1, fun i hi => ?_⟩
      have h9 := i2 i hi
      have h40 : ca S 5 f ≤ 40 := (hV.2.1 f hf2).2.2.1.2
      have hne : ¬ 40 * f + i = 40 * cn S 2 := by omega
      unfold qP1 at h9 ⊢
      rw [g6, if_neg hne, g7, if_neg hne, g8, if_neg hne, g9, if_neg hne]
      exact h9
  · intro f hf
    rw [s2] at hf
    by_cases e9 : f = cn S 2
    · rw [e9, bn7, hN.2.2.2.1.2.2.2.1, show ca (sFeature S k p q) 10 (cn S 2) = 0 from by show (gA S 10 (cn S 2)).toNatClampNeg = 0; rw [v10]; rfl]
      exact ⟨rfl, fun i hi => absurd hi (Nat.not_lt_zero i)⟩
    · have hf2 : f < cn S 2 := by omega
      rw [fB_o (c := 413) (i := f) (Or.inr (Or.inl ⟨by decide, hf2⟩))]
      exact y_W (fun c k z => by unfold uW at z; dsimp only; omega) f hf2
  · have h9 := y_M (fun c k z => by unfold uM at z; dsimp only; omega)
    refine ⟨?_, fun n hn => ?_⟩
    · intro f hf
      rw [s2] at hf
      by_cases e9 : f = cn S 2
      · rw [e9, bn4, hN.2.2.2.1.2.2.2.2.1]
        exact (ctn_0 (fun i hi => decide_eq_false (fun z => by
          have h8 := hV.2.2.2.1 i hi
          have h7 : gA S 18 i = nI (cn S 2) := z
          rw [h8.1.1] at h7
          have := (nI_eq (by have := h8.1.2; omega) (by omega)).mp h7
          have := h8.2.1; omega))).symm
      · have hf2 : f < cn S 2 := by omega
        rw [fB_o (c := 410) (i := f) (Or.inr (Or.inl ⟨by decide, hf2⟩))]
        exact h9.1 f hf2
    · have h7 := h9.2 n hn
      have hlt : ca S 18 n < cn S 2 := (hV.2.2.2.1 n hn).2.1
      unfold qM1 at h7 ⊢
      rw [show ca (sFeature S k p q) 18 n = ca S 18 n from rfl, fB_o (c := 410) (i := ca S 18 n) (Or.inr (Or.inl ⟨by decide, hlt⟩)), bO 7 (by decide)]
      exact h7
  · have h9 := y_E (fun c k z => by unfold uE at z; dsimp only; omega)
    refine ⟨?_, fun n hn => ?_⟩
    · intro f hf
      rw [s2] at hf
      by_cases e9 : f = cn S 2
      · rw [e9, bn5, hN.2.2.2.1.2.2.2.2.2.1]
        exact (ctn_0 (fun i hi => decide_eq_false (fun z => by
          have h8 := hV.2.2.2.2.2.1 i hi
          have h7 : gA S 32 i = nI (cn S 2) := z
          rw [h8.1.1] at h7
          have := (nI_eq (by have := h8.1.2; omega) (by omega)).mp h7
          have := h8.2.1; omega))).symm
      · have hf2 : f < cn S 2 := by omega
        rw [fB_o (c := 411) (i := f) (Or.inr (Or.inl ⟨by decide, hf2⟩))]
        exact h9.1 f hf2
    · have h7 := h9.2 n hn
      have hlt : ca S 32 n < cn S 2 := (hV.2.2.2.2.2.1 n hn).2.1
      rw [show ca (sFeature S k p q) 32 n = ca S 32 n from rfl, fB_o (c := 411) (i := ca S 32 n) (Or.inr (Or.inl ⟨by decide, hlt⟩))]
      exact h7
  · have h9 := y_L (fun c k z => by unfold uLw at z; dsimp only; omega)
    unfold qL at h9 ⊢
    rw [bO 401 (by decide)]
    exact h9
  · have h9 := y_Q (fun c k z => by unfold uQ at z; dsimp only; omega)
    unfold qQ at h9 ⊢
    rw [bO 402 (by decide)]
    refine ⟨h9.1, fun u hp => ?_⟩
    have h7 := h9.2 u hp
    have hlt : ca S 37 u < cn S 2 := (hV.2.2.2.2.2.2.1 u hp).2.1
    unfold qQ1 at h7 ⊢
    rw [show ca (sFeature S k p q) 37 u = ca S 37 u from rfl, fB_o (c := 4) (i := ca S 37 u) (Or.inr (Or.inl ⟨by decide, hlt⟩)), bO 7 (by decide)]
    exact h7
  · have h9 := y_T (fun c k z => by unfold uT at z; dsimp only; omega)
    unfold qT at h9 ⊢
    rw [bO 403 (by decide)]
    refine ⟨h9.1, fun t ht => ?_⟩
    have h7 := h9.2 t ht
    unfold qT1 at h7 ⊢
    rw [bO 403 (by decide), bO 10 (by decide), bO 171 (by decide)]
    exact h7
  · have h9 := y_R (fun c k z => by unfold uR at z; dsimp only; omega)
    unfold qR at h9 ⊢
    rw [bO 404 (by decide)]
    exact h9
  · have h9 := y_C (fun c k z => by unfold uC at z; dsimp only; omega)
    intro s hs
    rw [bO 175 (by decide)]
    exact h9 s hs
  · have h9 := y_O (fun c k z => by unfold uO at z; dsimp only; omega)
    unfold qO at h9 ⊢
    rw [bO 405 (by decide)]
    refine ⟨h9.1, fun i hi => ?_, ?_⟩
    · have hlt : ca S 57 i < cn S 2 := (hV.2.2.2.2.2.2.2.2.2.2.2.1 i hi).2
      rw [show ca (sFeature S k p q) 57 i = ca S 57 i from rfl, fB_o (c := 4) (i := ca S 57 i) (Or.inr (Or.inl ⟨by decide, hlt⟩))]
      exact h9.2.1 i hi
    · intro f hf
      rw [s2] at hf
      by_cases e9 : f = cn S 2
      · rw [e9, bn1, hN.1.2.2.2.2.2.2.1]
        have h8 : wzL (gA S 57) (nI (cn S 2)) (cn S 58) = false := wzL_no (fun i hi z => by
          have h7 := hV.2.2.2.2.2.2.2.2.2.2.2.1 i hi
          rw [h7.1.1] at z
          have := (nI_eq (by have := h7.1.2; omega) (by omega)).mp z
          have := h7.2; omega)
        exact (congrArg b2i h8).symm
      · have hf2 : f < cn S 2 := by omega
        rw [fB_o (c := 4) (i := f) (Or.inr (Or.inl ⟨by decide, hf2⟩))]
        exact h9.2.2 f hf2
  · intro f hf
    rw [s2] at hf
    by_cases e9 : f = cn S 2
    · rw [e9, bn1, hN.1.2.2.2.2.2.2.2]
      exact v56.symm
    · have hf2 : f < cn S 2 := by omega
      rw [fB_o (c := 4) (i := f) (Or.inr (Or.inl ⟨by decide, hf2⟩))]
      exact y_I (fun c k z => by unfold uSg at z; dsimp only; omega) f hf2
