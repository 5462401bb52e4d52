theorem agr.K {T : Nat → Nat → Prop} {M M' : Mm} (g : agr T M M') {a : Nat} (h : kd M a ≠ 0) : kd M' a = kd M a := (g a h).1
theorem agr.K1 {T : Nat → Nat → Prop} {M M' : Mm} (g : agr T M M') {a c : Nat} (h : kd M a % 1000 = c) (h0 : c ≠ 0) : kd M' a = kd M a := (g a (fun z => h0 (by rw [← h, z]))).1
theorem agr.I {T : Nat → Nat → Prop} {M M' : Mm} (g : agr T M M') {a c k : Nat} (h : kd M a % 1000 = c) (h0 : c ≠ 0) (hn : ¬ T c k) : fI M' a k = fI M a k := ((g a (fun z => h0 (by rw [← h, z]))).2.1 k (by rw [h]; exact hn)).1
theorem agr.L {T : Nat → Nat → Prop} {M M' : Mm} (g : agr T M M') {a c k : Nat} (h : kd M a % 1000 = c) (h0 : c ≠ 0) (hn : ¬ T c k) : fL M' a k = fL M a k := ((g a (fun z => h0 (by rw [← h, z]))).2.1 k (by rw [h]; exact hn)).2.1
theorem agr.R {T : Nat → Nat → Prop} {M M' : Mm} (g : agr T M M') {a c k : Nat} (h : kd M a % 1000 = c) (h0 : c ≠ 0) (hn : ¬ T c k) : fR M' a k = fR M a k := ((g a (fun z => h0 (by rw [← h, z]))).2.1 k (by rw [h]; exact hn)).2.2
theorem agr.N {T : Nat → Nat → Prop} {M M' : Mm} (g : agr T M M') {a c : Nat} (h : kd M a % 1000 = c) (h0 : c ≠ 0) (hn : ¬ T (c + 1000) 0) : ln M' a = ln M a := (g a (fun z => h0 (by rw [← h, z]))).2.2 (by rw [h]; exact hn)
def uX (c k : Nat) : Prop := (c = 11 ∧ k < 10) ∨ (c = 1 ∧ k < 3) ∨ (k = 0 ∧ 1172 ≤ c ∧ c ≤ 1177)
def uS (c k : Nat) : Prop := c = 11 ∧ 10 ≤ k ∧ k ≤ 13
def uF (c k : Nat) : Prop := c = 400 ∨ (c = 4 ∧ k ≤ 6) ∨ (c = 5 ∧ k = 0) ∨ (c = 1170 ∧ k = 0) ∨ (c = 1400 ∧ k = 0)
def uD (c k : Nat) : Prop := c = 4 ∧ 7 ≤ k ∧ k ≤ 10
def uG (c k : Nat) : Prop := c = 4 ∧ 11 ≤ k ∧ k ≤ 12
def uH (c k : Nat) : Prop := c = 170 ∧ k < 4
def uPl (c _k : Nat) : Prop := c = 412 ∨ c = 2 ∨ c = 1412
def uW (c _k : Nat) : Prop := c = 413 ∨ c = 2 ∨ c = 1413
def uM (c _k : Nat) : Prop := c = 410 ∨ c = 7 ∨ c = 1410
def uE (c _k : Nat) : Prop := c = 411 ∨ c = 3 ∨ c = 1411
def uLw (c _k : Nat) : Prop := c = 401 ∨ c = 6 ∨ c = 1401
def uQ (c _k : Nat) : Prop := c = 402 ∨ c = 8 ∨ c = 1402
def uT (c _k : Nat) : Prop := c = 403 ∨ c = 10 ∨ c = 171 ∨ c = 1403 ∨ c = 1171
def uR (c _k : Nat) : Prop := c = 404 ∨ c = 9 ∨ c = 1404
def uC (c k : Nat) : Prop := c = 175 ∧ k < 4
def uO (c k : Nat) : Prop := c = 405 ∨ (c = 4 ∧ k = 13) ∨ c = 1405
def uSg (c k : Nat) : Prop := c = 4 ∧ k = 14
def spr (n T : Nat → Nat → Prop) : Prop := ∀ c k, n c k → ¬ T c k
theorem xc_0 : ∀ k, k < 10 → xc k % 1000 ≠ 0 := by decide
theorem qX.k {B : Nat → Nat → Nat} {x : Nat} {M : Mm} (h : qX B x M) (k : Nat) (hk : k < 10) : kd M (B (xc k) 0) = xc k := (h.2.1 k hk).2
theorem qX.fr {T : Nat → Nat → Prop} {B : Nat → Nat → Nat} {x : Nat} {M M' : Mm} (h : qX B x M) (g : agr T M M') (hT : spr uX T) : qX B x M' := by
  obtain ⟨h1, h2, h3, h4, h5, h6, h7, h8, h9⟩ := h
  have k11 : kd M x % 1000 = 11 := by rw [h1]
  have k1 : kd M (B 1 0) % 1000 = 1 := by rw [show kd M (B 1 0) = 1 from (h2 6 (by decide)).2]
  have n1 : ∀ c, 172 ≤ c → c ≤ 177 → ¬ T (c + 1000) 0 := fun c a b => hT (c + 1000) 0 (Or.inr (Or.inr ⟨rfl, by omega, by omega⟩))
  have kk : ∀ k, k < 3 → kd M (B (172 + k) 0) % 1000 = 172 + k := fun k hk => by rw [(h3 k hk).2]; omega
  have kx : ∀ k, k < 10 → kd M (B (xc k) 0) ≠ 0 := fun k hk => by rw [(h2 k hk).2]; intro z; exact xc_0 k hk (by rw [z])
  refine ⟨by rw [g.K1 k11 (by decide)]; exact h1, fun k hk => ?_, fun k hk => ?_, ?_, ?_, ?_, ?_, ?_, ?_⟩
  · rw [g.R k11 (by decide) (hT 11 k (Or.inl ⟨rfl, hk⟩)), g.K (kx k hk)]; exact h2 k hk
  · rw [g.R k1 (by decide) (hT 1 k (Or.inr (Or.inl ⟨rfl, hk⟩))), g.K1 (kk k hk) (by omega)]; exact h3 k hk
  · rw [g.N (c := 175) (by rw [show kd M (B 175 0) = 175 from (h2 7 (by decide)).2]) (by decide) (n1 _ (by decide) (by decide))]; exact h4
  · rw [g.N (c := 176) (by rw [show kd M (B 176 0) = 176 from (h2 8 (by decide)).2]) (by decide) (n1 _ (by decide) (by decide))]; exact h5
  · rw [g.N (c := 177) (by rw [show kd M (B 177 0) = 177 from (h2 9 (by decide)).2]) (by decide) (n1 _ (by decide) (by decide))]; exact h6
  · rw [g.N (c := 172) (kk 0 (by decide)) (by decide) (n1 _ (by decide) (by decide))]; exact h7
  · rw [g.N (c := 173) (kk 1 (by decide)) (by decide) (n1 _ (by decide) (by decide))]; exact h8
  · rw [g.N (c := 174) (kk 2 (by decide)) (by decide) (n1 _ (by decide) (by decide))]; exact h9
theorem qS.fr {T : Nat → Nat → Prop} {S : Ms} {x : Nat} {M M' : Mm} (h : qS x S M) (hk : kd M x = 11) (g : agr T M M') (hT : spr uS T) : qS x S M' := by
  have k11 : kd M x % 1000 = 11 := by rw [hk]
  have e : ∀ k, 10 ≤ k → k ≤ 13 → fI M' x k = fI M x k := fun k a b => g.I k11 (by decide) (hT 11 k ⟨rfl, a, b⟩)
  unfold qS
  rw [e 10 (by decide) (by decide), e 11 (by decide) (by decide), e 12 (by decide) (by decide), e 13 (by decide) (by decide)]
  exact h
theorem qF1.fr {T : Nat → Nat → Prop} {B : Nat → Nat → Nat} {S : Ms} {M M' : Mm} {f : Nat} (h4 : kd M (B 400 0) = 400) (h : qF1 B S M f) (g : agr T M M') (hT : spr uF T) : qF1 B S M' f := by
  obtain ⟨a1, a2, ⟨a3, a4⟩, ⟨b1, b2, b3, b4, b5⟩, ⟨c1, c2, c3, c4, c5, c6, c7⟩, d1, d2, d3⟩ := h
  have m4 : kd M (B 4 f) % 1000 = 4 := by rw [a2]; omega
  have m5 : kd M (B 5 (2 * f)) % 1000 = 5 := by rw [c1]; omega
  have m6 : kd M (B 5 (2 * f + 1)) % 1000 = 5 := by rw [c2]; omega
  have m7 : kd M (B 170 f) % 1000 = 170 := by rw [c7]; omega
  have t4 : ∀ k, k ≤ 6 → ¬ T 4 k := fun k hk => hT 4 k (Or.inr (Or.inl ⟨rfl, hk⟩))
  have t5 : ¬ T 5 0 := hT 5 0 (Or.inr (Or.inr (Or.inl ⟨rfl, rfl⟩)))
  unfold qF1
  rw [g.R (c := 400) (by rw [h4]) (by decide) (hT 400 f (Or.inl rfl)), g.K1 m4 (by decide), g.I m4 (by decide) (t4 0 (by decide)), g.I m4 (by decide) (t4 1 (by decide)), g.R m4 (by decide) (t4 2 (by decide)), g.R m4 (by decide) (t4 3 (by decide)),
    g.R m4 (by decide) (t4 4 (by decide)), g.R m4 (by decide) (t4 5 (by decide)), g.R m4 (by decide) (t4 6 (by decide)), g.K1 m5 (by decide), g.K1 m6 (by decide), g.K (a := B 410 f) (by rw [c3]; omega), g.K (a := B 411 f) (by rw [c4]; omega),
    g.K (a := B 412 f) (by rw [c5]; omega), g.K (a := B 413 f) (by rw [c6]; omega), g.K1 m7 (by decide), g.R m5 (by decide) t5, g.R m6 (by decide) t5, g.N m7 (by decide) (hT 1170 0 (Or.inr (Or.inr (Or.inr (Or.inl ⟨rfl, rfl⟩)))))]
  exact ⟨a1, a2, ⟨a3, a4⟩, ⟨b1, b2, b3, b4, b5⟩, ⟨c1, c2, c3, c4, c5, c6, c7⟩, d1, d2, d3⟩
theorem qF.fr {T : Nat → Nat → Prop} {B : Nat → Nat → Nat} {S : Ms} {M M' : Mm} (h : qF B S M) (h4 : kd M (B 400 0) = 400) (g : agr T M M') (hT : spr uF T) : qF B S M' := by
  refine ⟨?_, fun f hf => (h.2 f hf).fr h4 g hT⟩
  rw [g.N (c := 400) (by rw [h4]) (by decide) (hT 1400 0 (Or.inr (Or.inr (Or.inr (Or.inr ⟨rfl, rfl⟩)))))]; exact h.1
theorem qF.k4 {B : Nat → Nat → Nat} {S : Ms} {M : Mm} (h : qF B S M) {f : Nat} (hf : f < cn S 2) : kd M (B 4 f) % 1000 = 4 := by rw [(h.2 f hf).2.1]; omega
theorem qF.k170 {B : Nat → Nat → Nat} {S : Ms} {M : Mm} (h : qF B S M) {f : Nat} (hf : f < cn S 2) : kd M (B 170 f) % 1000 = 170 := by rw [(h.2 f hf).2.2.2.2.1.2.2.2.2.2.2]; omega
theorem qF.k410 {B : Nat → Nat → Nat} {S : Ms} {M : Mm} (h : qF B S M) {f : Nat} (hf : f < cn S 2) : kd M (B 410 f) % 1000 = 410 := by rw [(h.2 f hf).2.2.2.2.1.2.2.1]; omega
theorem qF.k411 {B : Nat → Nat → Nat} {S : Ms} {M : Mm} (h : qF B S M) {f : Nat} (hf : f < cn S 2) : kd M (B 411 f) % 1000 = 411 := by rw [(h.2 f hf).2.2.2.2.1.2.2.2.1]; omega
theorem qF.k412 {B : Nat → Nat → Nat} {S : Ms} {M : Mm} (h : qF B S M) {f : Nat} (hf : f < cn S 2) : kd M (B 412 f) % 1000 = 412 := by rw [(h.2 f hf).2.2.2.2.1.2.2.2.2.1]; omega
theorem qF.k413 {B : Nat → Nat → Nat} {S : Ms} {M : Mm} (h : qF B S M) {f : Nat} (hf : f < cn S 2) : kd M (B 413 f) % 1000 = 413 := by rw [(h.2 f hf).2.2.2.2.1.2.2.2.2.2.1]; omega
theorem qD.fr {T : Nat → Nat → Prop} {B : Nat → Nat → Nat} {S : Ms} {M M' : Mm} (h : qD B S M) (hF : qF B S M) (g : agr T M M') (hT : spr uD T) : qD B S M' := by
  intro f hf
  have e : ∀ k, 7 ≤ k → k ≤ 10 → fI M' (B 4 f) k = fI M (B 4 f) k := fun k a b => g.I (hF.k4 hf) (by decide) (hT 4 k ⟨rfl, a, b⟩)
  unfold qD1
  rw [e 7 (by decide) (by decide), e 8 (by decide) (by decide), e 9 (by decide) (by decide), e 10 (by decide) (by decide)]
  exact h f hf
theorem qG.fr {T : Nat → Nat → Prop} {B : Nat → Nat → Nat} {S : Ms} {M M' : Mm} (h : qG B S M) (hF : qF B S M) (g : agr T M M') (hT : spr uG T) : qG B S M' := by
  intro f hf
  rw [g.I (hF.k4 hf) (by decide) (hT 4 11 ⟨rfl, by decide, by decide⟩), g.I (hF.k4 hf) (by decide) (hT 4 12 ⟨rfl, by decide, by decide⟩)]
  exact h f hf
theorem qH.fr {T : Nat → Nat → Prop} {B : Nat → Nat → Nat} {S : Ms} {M M' : Mm} (h : qH B S M) (hF : qF B S M) (g : agr T M M') (hT : spr uH T) : qH B S M' := by
  intro f hf t ht
  rw [g.I (hF.k170 hf) (by decide) (hT 170 t ⟨rfl, ht⟩)]
  exact h f hf t ht
theorem elt_eq {M M' : Mm} {l i : Nat} (h : fR M' l i = fR M l i) : elt M' l i = elt M l i := by unfold elt; rw [h]
theorem qP1.fr {T : Nat → Nat → Prop} {S : Ms} {M M' : Mm} {l f i : Nat} (h : qP1 S M l f i) (g : agr T M M') (hr : fR M' l i = fR M l i) (h2 : ∀ k, ¬ T 2 k) : qP1 S M' l f i := by
  obtain ⟨a1, a2, a3, a4, a5⟩ := h
  unfold qP1
  rw [elt_eq hr, hr, g.K1 a2 (by decide), g.I a2 (by decide) (h2 0), g.I a2 (by decide) (h2 1), g.I a2 (by decide) (h2 2)]
  exact ⟨a1, a2, a3, a4, a5⟩
theorem qP.fr {T : Nat → Nat → Prop} {B : Nat → Nat → Nat} {S : Ms} {M M' : Mm} (h : qP B S M) (hF : qF B S M) (g : agr T M M') (hT : spr uPl T) : qP B S M' := by
  intro f hf
  rw [g.N (hF.k412 hf) (by decide) (hT 1412 0 (Or.inr (Or.inr rfl)))]
  exact ⟨(h f hf).1, fun i hi => ((h f hf).2 i hi).fr g (g.R (hF.k412 hf) (by decide) (hT 412 i (Or.inl rfl))) (fun k => hT 2 k (Or.inr (Or.inl rfl)))⟩
theorem qW1.fr {T : Nat → Nat → Prop} {S : Ms} {M M' : Mm} {l f i : Nat} (h : qW1 S M l f i) (g : agr T M M') (hr : fR M' l i = fR M l i) (h2 : ∀ k, ¬ T 2 k) : qW1 S M' l f i := by
  obtain ⟨a1, a2, a3, a4, a5⟩ := h
  unfold qW1
  rw [elt_eq hr, hr, g.K1 a2 (by decide), g.I a2 (by decide) (h2 0), g.I a2 (by decide) (h2 1), g.I a2 (by decide) (h2 2)]
  exact ⟨a1, a2, a3, a4, a5⟩
theorem qW.fr {T : Nat → Nat → Prop} {B : Nat → Nat → Nat} {S : Ms} {M M' : Mm} (h : qW B S M) (hF : qF B S M) (g : agr T M M') (hT : spr uW T) : qW B S M' := by
  intro f hf
  rw [g.N (hF.k413 hf) (by decide) (hT 1413 0 (Or.inr (Or.inr rfl)))]
  exact ⟨(h f hf).1, fun i hi => ((h f hf).2 i hi).fr g (g.R (hF.k413 hf) (by decide) (hT 413 i (Or.inl rfl))) (fun k => hT 2 k (Or.inr (Or.inl rfl)))⟩
theorem qM1.fr {T : Nat → Nat → Prop} {B : Nat → Nat → Nat} {S : Ms} {M M' : Mm} {n : Nat} (h : qM1 B S M n) (g : agr T M M') (hr : fR M' (B 410 (ca S 18 n)) (ctn (ofN S (ca S 18 n)) n) = fR M (B 410 (ca S 18 n)) (ctn (ofN S (ca S 18 n)) n)) (h2 : ∀ k, ¬ T 7 k) : qM1 B S M' n := by
  obtain ⟨a1, a2, a3, a4, a5, a6, a7⟩ := h
  have k7 : kd M (B 7 n) % 1000 = 7 := by rw [a2]; omega
  unfold qM1
  rw [hr, g.K1 k7 (by decide), g.I k7 (by decide) (h2 0), g.L k7 (by decide) (h2 1), g.I k7 (by decide) (h2 2), g.I k7 (by decide) (h2 3), g.I k7 (by decide) (h2 4), g.I k7 (by decide) (h2 5)]
  exact ⟨a1, a2, a3, a4, a5, a6, a7⟩
theorem qM.fr {T : Nat → Nat → Prop} {B : Nat → Nat → Nat} {S : Ms} {M M' : Mm} (h : qM B S M) (hF : qF B S M) (hV : vNam S) (g : agr T M M') (hT : spr uM T) : qM B S M' := by
  refine ⟨fun f hf => ?_, fun n hn => ?_⟩
  · rw [g.N (hF.k410 hf) (by decide) (hT 1410 0 (Or.inr (Or.inr rfl)))]; exact h.1 f hf
  · exact (h.2 n hn).fr g (g.R (hF.k410 (hV n hn).2.1) (by decide) (hT 410 _ (Or.inl rfl))) (fun k => hT 7 k (Or.inr (Or.inl rfl)))
theorem qE1.fr {T : Nat → Nat → Prop} {S : Ms} {M M' : Mm} {l i n : Nat} (h : qE1 S M l i n) (g : agr T M M') (hr : fR M' l i = fR M l i) (h2 : ∀ k, ¬ T 3 k) : qE1 S M' l i n := by
  obtain ⟨a1, a2, a3, a4, a5⟩ := h
  unfold qE1
  rw [elt_eq hr, hr, g.K1 a2 (by decide), g.I a2 (by decide) (h2 0), g.I a2 (by decide) (h2 1), g.I a2 (by decide) (h2 2)]
  exact ⟨a1, a2, a3, a4, a5⟩
theorem qE.fr {T : Nat → Nat → Prop} {B : Nat → Nat → Nat} {S : Ms} {M M' : Mm} (h : qE B S M) (hF : qF B S M) (hV : vExc S) (g : agr T M M') (hT : spr uE T) : qE B S M' := by
  refine ⟨fun f hf => ?_, fun n hn => ?_⟩
  · rw [g.N (hF.k411 hf) (by decide) (hT 1411 0 (Or.inr (Or.inr rfl)))]; exact h.1 f hf
  · exact (h.2 n hn).fr g (g.R (hF.k411 (hV n hn).2.1) (by decide) (hT 411 _ (Or.inl rfl))) (fun k => hT 3 k (Or.inr (Or.inl rfl)))
theorem qL1.fr {T : Nat → Nat → Prop} {S : Ms} {M M' : Mm} {l i q : Nat} (h : qL1 S M l i q) (g : agr T M M') (hr : fR M' l i = fR M l i) (h2 : ∀ k, ¬ T 6 k) : qL1 S M' l i q := by
  obtain ⟨a1, a2, a3, a4, a5, a6, a7, a8⟩ := h
  unfold qL1
  rw [elt_eq hr, hr, g.K1 a2 (by decide), g.I a2 (by decide) (h2 0), g.I a2 (by decide) (h2 1), g.I a2 (by decide) (h2 2), g.I a2 (by decide) (h2 3), g.I a2 (by decide) (h2 4), g.I a2 (by decide) (h2 5)]
  exact ⟨a1, a2, a3, a4, a5, a6, a7, a8⟩
theorem qL.fr {T : Nat → Nat → Prop} {B : Nat → Nat → Nat} {S : Ms} {M M' : Mm} (h : qL B S M) (h4 : kd M (B 401 0) = 401) (g : agr T M M') (hT : spr uLw T) : qL B S M' := by
  obtain ⟨h1, σ, h2, h3⟩ := h
  have k4 : kd M (B 401 0) % 1000 = 401 := by rw [h4]
  refine ⟨by rw [g.N k4 (by decide) (hT 1401 0 (Or.inr (Or.inr rfl)))]; exact h1, σ, fun i hi => ⟨(h2 i hi).1, (h2 i hi).2.fr g (g.R k4 (by decide) (hT 401 i (Or.inl rfl))) (fun k => hT 6 k (Or.inr (Or.inl rfl)))⟩, h3⟩
theorem qQ1.fr {T : Nat → Nat → Prop} {B : Nat → Nat → Nat} {S : Ms} {M M' : Mm} {l p : Nat} (h : qQ1 B S M l p) (g : agr T M M') (hr : fR M' l p = fR M l p) (h2 : ∀ k, ¬ T 8 k) : qQ1 B S M' l p := by
  obtain ⟨a1, a2, a3, a4, a5, a6, a7, a8, a9, b1, b2, b3⟩ := h
  have k8 : kd M (elt M l p) % 1000 = 8 := by rw [a2]; omega
  unfold qQ1
  rw [elt_eq hr, hr, g.K1 k8 (by decide), g.R k8 (by decide) (h2 0), g.I k8 (by decide) (h2 1), g.L k8 (by decide) (h2 2), g.I k8 (by decide) (h2 3), g.I k8 (by decide) (h2 4), g.I k8 (by decide) (h2 5), g.I k8 (by decide) (h2 6), g.I k8 (by decide) (h2 7), g.I k8 (by decide) (h2 8), g.R k8 (by decide) (h2 9)]
  exact ⟨a1, a2, a3, a4, a5, a6, a7, a8, a9, b1, b2, b3⟩
theorem qQ.fr {T : Nat → Nat → Prop} {B : Nat → Nat → Nat} {S : Ms} {M M' : Mm} (h : qQ B S M) (h4 : kd M (B 402 0) = 402) (g : agr T M M') (hT : spr uQ T) : qQ B S M' := by
  have k4 : kd M (B 402 0) % 1000 = 402 := by rw [h4]
  refine ⟨by rw [g.N k4 (by decide) (hT 1402 0 (Or.inr (Or.inr rfl)))]; exact h.1, fun p hp => (h.2 p hp).fr g (g.R k4 (by decide) (hT 402 p (Or.inl rfl))) (fun k => hT 8 k (Or.inr (Or.inl rfl)))⟩
theorem qT.fr {T : Nat → Nat → Prop} {B : Nat → Nat → Nat} {S : Ms} {M M' : Mm} (h : qT B S M) (h4 : kd M (B 403 0) = 403) (g : agr T M M') (hT : spr uT T) : qT B S M' := by
  have k4 : kd M (B 403 0) % 1000 = 403 := by rw [h4]
  refine ⟨by rw [g.N k4 (by decide) (hT 1403 0 (Or.inr (Or.inr (Or.inr (Or.inl rfl)))))]; exact h.1, fun t ht => ?_⟩
  obtain ⟨a1, a2, a3, a4, a5, a6⟩ := h.2 t ht
  have k10 : kd M (B 10 t) % 1000 = 10 := by rw [a2]; omega
  have k171 : kd M (B 171 t) % 1000 = 171 := by rw [a4]; omega
  unfold qT1
  rw [g.R k4 (by decide) (hT 403 t (Or.inl rfl)), g.K1 k10 (by decide), g.R k10 (by decide) (hT 10 0 (Or.inr (Or.inl rfl))), g.K1 k171 (by decide), g.N k171 (by decide) (hT 1171 0 (Or.inr (Or.inr (Or.inr (Or.inr rfl)))))]
  exact ⟨a1, a2, a3, a4, a5, fun l hl => by rw [g.I k171 (by decide) (hT 171 l (Or.inr (Or.inr (Or.inl rfl))))]; exact a6 l hl⟩
theorem qR1.fr {T : Nat → Nat → Prop} {S : Ms} {M M' : Mm} {l r : Nat} (h : qR1 S M l r) (g : agr T M M') (hr : fR M' l r = fR M l r) (h2 : ∀ k, ¬ T 9 k) : qR1 S M' l r := by
  obtain ⟨a1, a2, a3, a4, a5⟩ := h
  unfold qR1
  rw [elt_eq hr, hr, g.K1 a2 (by decide), g.L a2 (by decide) (h2 0), g.I a2 (by decide) (h2 1), g.I a2 (by decide) (h2 2)]
  exact ⟨a1, a2, a3, a4, a5⟩
theorem qR.fr {T : Nat → Nat → Prop} {B : Nat → Nat → Nat} {S : Ms} {M M' : Mm} (h : qR B S M) (h4 : kd M (B 404 0) = 404) (g : agr T M M') (hT : spr uR T) : qR B S M' := by
  have k4 : kd M (B 404 0) % 1000 = 404 := by rw [h4]
  refine ⟨by rw [g.N k4 (by decide) (hT 1404 0 (Or.inr (Or.inr rfl)))]; exact h.1, fun r hr => (h.2 r hr).fr g (g.R k4 (by decide) (hT 404 r (Or.inl rfl))) (fun k => hT 9 k (Or.inr (Or.inl rfl)))⟩
theorem qC.fr {T : Nat → Nat → Prop} {B : Nat → Nat → Nat} {S : Ms} {M M' : Mm} (h : qC B S M) (h4 : kd M (B 175 0) = 175) (g : agr T M M') (hT : spr uC T) : qC B S M' := by
  intro s hs
  rw [g.I (c := 175) (by rw [h4]) (by decide) (hT 175 s ⟨rfl, hs⟩)]; exact h s hs
theorem qO.fr {T : Nat → Nat → Prop} {B : Nat → Nat → Nat} {S : Ms} {M M' : Mm} (h : qO B S M) (hF : qF B S M) (h4 : kd M (B 405 0) = 405) (g : agr T M M') (hT : spr uO T) : qO B S M' := by
  have k4 : kd M (B 405 0) % 1000 = 405 := by rw [h4]
  refine ⟨by rw [g.N k4 (by decide) (hT 1405 0 (Or.inr (Or.inr rfl)))]; exact h.1, fun i hi => ?_, fun f hf => ?_⟩
  · rw [g.R k4 (by decide) (hT 405 i (Or.inl rfl))]; exact h.2.1 i hi
  · rw [g.I (hF.k4 hf) (by decide) (hT 4 13 (Or.inr (Or.inl ⟨rfl, rfl⟩)))]; exact h.2.2 f hf
theorem qI.fr {T : Nat → Nat → Prop} {B : Nat → Nat → Nat} {S : Ms} {M M' : Mm} (h : qI B S M) (hF : qF B S M) (g : agr T M M') (hT : spr uSg T) : qI B S M' := by
  intro f hf
  rw [g.L (hF.k4 hf) (by decide) (hT 4 14 ⟨rfl, rfl⟩)]; exact h f hf
theorem RX.fr {T : Nat → Nat → Prop} {B : Nat → Nat → Nat} {x : Nat} {S : Ms} {M M' : Mm} (h : RX B x S M) (hV : INV S) (g : agr T M M') :
    (spr uX T → qX B x M') ∧ (spr uS T → qS x S M') ∧ (spr uF T → qF B S M') ∧ (spr uD T → qD B S M') ∧ (spr uG T → qG B S M') ∧ (spr uH T → qH B S M') ∧ (spr uPl T → qP B S M') ∧ (spr uW T → qW B S M') ∧ (spr uM T → qM B S M') ∧ (spr uE T → qE B S M') ∧
    (spr uLw T → qL B S M') ∧ (spr uQ T → qQ B S M') ∧ (spr uT T → qT B S M') ∧ (spr uR T → qR B S M') ∧ (spr uC T → qC B S M') ∧ (spr uO T → qO B S M') ∧ (spr uSg T → qI B S M') := by
  obtain ⟨hX, hS, hF, hD, hG, hH, hP, hW, hM, hE, hL, hQ, hT, hR, hC, hO, hI⟩ := h
  obtain ⟨-, -, -, vN, -, vX, -⟩ := hV
  exact ⟨hX.fr g, hS.fr hX.1 g, hF.fr (hX.k 0 (by decide)) g, hD.fr hF g, hG.fr hF g, hH.fr hF g, hP.fr hF g, hW.fr hF g, hM.fr hF vN g, hE.fr hF vX g, hL.fr (hX.k 1 (by decide)) g, hQ.fr (hX.k 2 (by decide)) g, hT.fr (hX.k 3 (by decide)) g, hR.fr (hX.k 4 (by decide)) g, hC.fr (hX.k 7 (by decide)) g, hO.fr hF (hX.k 5 (by decide)) g, hI.fr hF g⟩
def TC (c _k : Nat) : Prop := (1 ≤ c % 1000 ∧ c % 1000 < 12) ∨ (170 ≤ c % 1000 ∧ c % 1000 < 180) ∨ (400 ≤ c % 1000 ∧ c % 1000 < 450)
theorem RX.all {T : Nat → Nat → Prop} {B : Nat → Nat → Nat} {x : Nat} {S : Ms} {M M' : Mm} (h : RX B x S M) (hV : INV S) (g : agr T M M') (hT : ∀ c k, TC c k → ¬ T c k) : RX B x S M' := by
  obtain ⟨g1, g2, g3, g4, g5, g6, g7, g8, g9, g10, g11, g12, g13, g14, g15, g16, g17⟩ := h.fr hV g
  refine ⟨g1 ?_, g2 ?_, g3 ?_, g4 ?_, g5 ?_, g6 ?_, g7 ?_, g8 ?_, g9 ?_, g10 ?_, g11 ?_, g12 ?_, g13 ?_, g14 ?_, g15 ?_, g16 ?_, g17 ?_⟩
  · intro c k z; refine hT c k ?_; unfold uX at z; unfold TC; omega
  · intro c k z; refine hT c k ?_; unfold uS at z; unfold TC; omega
  · intro c k z; refine hT c k ?_; unfold uF at z; unfold TC; omega
  · intro c k z; refine hT c k ?_; unfold uD at z; unfold TC; omega
  · intro c k z; refine hT c k ?_; unfold uG at z; unfold TC; omega
  · intro c k z; refine hT c k ?_; unfold uH at z; unfold TC; omega
  · intro c k z; refine hT c k ?_; unfold uPl at z; unfold TC; omega
  · intro c k z; refine hT c k ?_; unfold uW at z; unfold TC; omega
  · intro c k z; refine hT c k ?_; unfold uM at z; unfold TC; omega
  · intro c k z; refine hT c k ?_; unfold uE at z; unfold TC; omega
  · intro c k z; refine hT c k ?_; unfold uLw at z; unfold TC; omega
  · intro c k z; refine hT c k ?_; unfold uQ at z; unfold TC; omega
  · intro c k z; refine hT c k ?_; unfold uT at z; unfold TC; omega
  · intro c k z; refine hT c k ?_; unfold uR at z; unfold TC; omega
  · intro c k z; refine hT c k ?_; unfold uC at z; unfold TC; omega
  · intro c k z; refine hT c k ?_; unfold uO at z; unfold TC; omega
  · intro c k z; refine hT c k ?_; unfold uSg at z; unfold TC; omega
theorem RX_wi0 {B : Nat → Nat → Nat} {x : Nat} {S : Ms} {M : Mm} (v : Int32) (h : RX B x S M) : RX B x (wi S 0 v) M := h
