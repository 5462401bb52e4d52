def agr (T : Nat → Nat → Prop) (M M' : Mm) : Prop := ∀ a, kd M a ≠ 0 → kd M' a = kd M a ∧ (∀ k, ¬ T (kd M a % 1000) k → fI M' a k = fI M a k ∧ fL M' a k = fL M a k ∧ fR M' a k = fR M a k) ∧ (¬ T (kd M a % 1000 + 1000) 0 → ln M' a = ln M a)
theorem agr.rf {T : Nat → Nat → Prop} {M : Mm} : agr T M M := fun _ _ => ⟨rfl, fun _ _ => ⟨rfl, rfl, rfl⟩, fun _ => rfl⟩
theorem agr.tr {T : Nat → Nat → Prop} {M M1 M2 : Mm} (h : agr T M M1) (g : agr T M1 M2) : agr T M M2 := by
  intro a ha
  obtain ⟨h1, h2, h3⟩ := h a ha
  obtain ⟨g1, g2, g3⟩ := g a (by rw [h1]; exact ha)
  rw [h1] at g1 g2 g3
  refine ⟨g1, fun k hk => ?_, fun hk => (g3 hk).trans (h3 hk)⟩
  obtain ⟨a1, a2, a3⟩ := h2 k hk
  obtain ⟨b1, b2, b3⟩ := g2 k hk
  exact ⟨b1.trans a1, b2.trans a2, b3.trans a3⟩
theorem agr.mono {T T' : Nat → Nat → Prop} {M M' : Mm} (h : agr T M M') (hT : ∀ c k, T c k → T' c k) : agr T' M M' := by
  intro a ha
  obtain ⟨h1, h2, h3⟩ := h a ha
  exact ⟨h1, fun k hk => h2 k (fun z => hk (hT _ _ z)), fun hk => h3 (fun z => hk (hT _ _ z))⟩
theorem agr.same {T : Nat → Nat → Prop} {M M' : Mm} (h : ∀ a, kd M a ≠ 0 → same M M' a) : agr T M M' := by
  intro a ha
  obtain ⟨h1, h2, h3, h4, h5⟩ := h a ha
  exact ⟨h1.symm, fun k _ => ⟨by rw [h2], by rw [h3], by rw [h4]⟩, fun _ => h5.symm⟩
theorem agr.sI {T : Nat → Nat → Prop} {M : Mm} {b j : Nat} {v : Int32} (h : T (kd M b % 1000) j) : agr T M (sI M b j v) := by
  intro a ha
  refine ⟨rfl, fun k hk => ⟨?_, rfl, rfl⟩, fun _ => rfl⟩
  rw [fI_sI, if_neg]
  rintro ⟨rfl, rfl⟩
  exact hk h
theorem agr.sL {T : Nat → Nat → Prop} {M : Mm} {b j : Nat} {v : Int64} (h : T (kd M b % 1000) j) : agr T M (sL M b j v) := by
  intro a ha
  refine ⟨rfl, fun k hk => ⟨rfl, ?_, rfl⟩, fun _ => rfl⟩
  rw [fL_sL, if_neg]
  rintro ⟨rfl, rfl⟩
  exact hk h
theorem agr.sR {T : Nat → Nat → Prop} {M : Mm} {b j : Nat} {v : Option Nat} (h : T (kd M b % 1000) j) : agr T M (sR M b j v) := by
  intro a ha
  refine ⟨rfl, fun k hk => ⟨rfl, rfl, ?_⟩, fun _ => rfl⟩
  rw [fR_sR, if_neg]
  rintro ⟨rfl, rfl⟩
  exact hk h
theorem agr.sN {T : Nat → Nat → Prop} {M : Mm} {b n : Nat} (h : T (kd M b % 1000 + 1000) 0) : agr T M (sN M b n) := by
  intro a ha
  refine ⟨rfl, fun k hk => ⟨rfl, rfl, rfl⟩, fun hk => ?_⟩
  rw [ln_sN, if_neg]
  rintro rfl
  exact hk h
theorem agr.al {T : Nat → Nat → Prop} {M : Mm} {b c n : Nat} (h : kd M b = 0) : agr T M (al M b c n) :=
  agr.same (fun a ha => same.al (fun z => ha (by rw [z]; exact h)))
theorem agr.psh {T : Nat → Nat → Prop} {M : Mm} {b v : Nat} (h : ∀ k, T (kd M b % 1000) k) (hl : T (kd M b % 1000 + 1000) 0) : agr T M (psh M b v) :=
  (agr.sN hl).tr (agr.sR (h _))
theorem agr.rowI {T : Nat → Nat → Prop} {M : Mm} {b : Nat} {g : Nat → Int32} (h : ∀ k, T (kd M b % 1000) k) : agr T M (rowI M b g) := by
  intro a ha
  refine ⟨rfl, fun k hk => ⟨?_, rfl, rfl⟩, fun _ => rfl⟩
  rw [fI_rowI, if_neg]
  rintro rfl
  exact hk (h k)
theorem agr.sW {T : Nat → Nat → Prop} {M : Mm} {b : Nat} {g : Nat → Option Nat} (h : ∀ k, T (kd M b % 1000) k) : agr T M (sW M b g) := by
  intro a ha
  refine ⟨rfl, fun k hk => ⟨rfl, rfl, ?_⟩, fun _ => rfl⟩
  by_cases e : a = b
  · subst e; exact absurd (h k) hk
  · have h9 := (same.sW (M := M) (f := g) e).2.2.2.1
    rw [← h9]
def ctn (p : Nat → Bool) : Nat → Nat
  | 0 => 0
  | n + 1 => if p n = true then ctn p n + 1 else ctn p n
theorem ctn_le (p : Nat → Bool) : ∀ n, ctn p n ≤ n
  | 0 => Nat.le_refl _
  | n + 1 => by have := ctn_le p n; rw [ctn]; split <;> omega
theorem ctn_mono (p : Nat → Bool) {i : Nat} : ∀ {n}, i ≤ n → ctn p i ≤ ctn p n
  | 0, h => by rw [Nat.le_zero.mp h]; exact Nat.le_refl _
  | n + 1, h => by
    rcases Nat.lt_or_ge i (n + 1) with z | z
    · have := ctn_mono p (i := i) (n := n) (by omega)
      rw [ctn]; split <;> omega
    · rw [show i = n + 1 by omega]; exact Nat.le_refl _
theorem ctn_lt (p : Nat → Bool) {i n : Nat} (h : i < n) (hp : p i = true) : ctn p i < ctn p n := by
  have h1 := ctn_mono p (i := i + 1) (n := n) h
  rw [ctn, if_pos hp] at h1; omega
theorem ctn_sur (p : Nat → Bool) {j : Nat} : ∀ {n}, j < ctn p n → ∃ i, i < n ∧ p i = true ∧ ctn p i = j
  | 0, h => absurd h (Nat.not_lt_zero j)
  | n + 1, h => by
    rw [ctn] at h
    by_cases c : p n = true
    · rw [if_pos c] at h
      rcases Nat.lt_or_ge j (ctn p n) with z | z
      · obtain ⟨i, h1, h2, h3⟩ := ctn_sur p z
        exact ⟨i, by omega, h2, h3⟩
      · exact ⟨n, by omega, c, by omega⟩
    · rw [if_neg c] at h
      obtain ⟨i, h1, h2, h3⟩ := ctn_sur p h
      exact ⟨i, by omega, h2, h3⟩
theorem ctn_congr {p q : Nat → Bool} : ∀ {n}, (∀ i, i < n → p i = q i) → ctn p n = ctn q n
  | 0, _ => rfl
  | n + 1, h => by rw [ctn, ctn, h n (by omega), ctn_congr (fun i hi => h i (by omega))]
def ofN (S : Ms) (f : Nat) (n : Nat) : Bool := decide (gA S 18 n = nI f)
def ofE (S : Ms) (f : Nat) (n : Nat) : Bool := decide (gA S 32 n = nI f)
def xc (k : Nat) : Nat := if k < 6 then 400 + k else if k = 6 then 1 else 168 + k
def qX (B : Nat → Nat → Nat) (x : Nat) (M : Mm) : Prop := kd M x = 11 ∧ (∀ k, k < 10 → fR M x k = some (B (xc k) 0) ∧ kd M (B (xc k) 0) = xc k) ∧ (∀ k, k < 3 → fR M (B 1 0) k = some (B (172 + k) 0) ∧ kd M (B (172 + k) 0) = 172 + k) ∧
  ln M (B 175 0) = 4 ∧ ln M (B 176 0) = 24 ∧ ln M (B 177 0) = 9 ∧ ln M (B 172 0) = 4 ∧ ln M (B 173 0) = 16 ∧ ln M (B 174 0) = 16
def qS (x : Nat) (S : Ms) (M : Mm) : Prop := fI M x 10 = gi S 1 ∧ fI M x 11 = gi S 17 ∧ fI M x 12 = gi S 31 ∧ fI M x 13 = gi S 59
def qF1 (B : Nat → Nat → Nat) (S : Ms) (M : Mm) (f : Nat) : Prop := fR M (B 400 0) f = some (B 4 f) ∧ kd M (B 4 f) = 4 + 1000 * f ∧ (fI M (B 4 f) 0 = gA S 3 f ∧ fI M (B 4 f) 1 = gA S 4 f) ∧
  (fR M (B 4 f) 2 = some (B 5 (2 * f)) ∧ fR M (B 4 f) 3 = some (B 5 (2 * f + 1)) ∧ fR M (B 4 f) 4 = some (B 410 f) ∧ fR M (B 4 f) 5 = some (B 411 f) ∧ fR M (B 4 f) 6 = some (B 170 f)) ∧
  (kd M (B 5 (2 * f)) = 5 + 2000 * f ∧ kd M (B 5 (2 * f + 1)) = 1005 + 2000 * f ∧ kd M (B 410 f) = 410 + 1000 * f ∧ kd M (B 411 f) = 411 + 1000 * f ∧ kd M (B 412 f) = 412 + 1000 * f ∧ kd M (B 413 f) = 413 + 1000 * f ∧ kd M (B 170 f) = 170 + 1000 * f) ∧
  fR M (B 5 (2 * f)) 0 = some (B 412 f) ∧ fR M (B 5 (2 * f + 1)) 0 = some (B 413 f) ∧ ln M (B 170 f) = 4
def qF (B : Nat → Nat → Nat) (S : Ms) (M : Mm) : Prop := ln M (B 400 0) = cn S 2 ∧ ∀ f, f < cn S 2 → qF1 B S M f
def qD1 (B : Nat → Nat → Nat) (S : Ms) (M : Mm) (f : Nat) : Prop := (fI M (B 4 f) 7 = 0 ∧ gA S 14 f = -1) ∨ (fI M (B 4 f) 7 = 1 ∧ ¬ gA S 14 f = -1 ∧ fI M (B 4 f) 8 = gA S 16 f ∧ fI M (B 4 f) 9 = gA S 14 f ∧ fI M (B 4 f) 10 = gA S 15 f)
def qD (B : Nat → Nat → Nat) (S : Ms) (M : Mm) : Prop := ∀ f, f < cn S 2 → qD1 B S M f
def qG (B : Nat → Nat → Nat) (S : Ms) (M : Mm) : Prop := ∀ f, f < cn S 2 → fI M (B 4 f) 11 = gA S 48 f ∧ fI M (B 4 f) 12 = gA S 49 f
def qH (B : Nat → Nat → Nat) (S : Ms) (M : Mm) : Prop := ∀ f, f < cn S 2 → ∀ t, t < 4 → fI M (B 170 f) t = gA S 47 (4 * f + t)
def qP1 (S : Ms) (M : Mm) (l f i : Nat) : Prop := fR M l i = some (elt M l i) ∧ kd M (elt M l i) % 1000 = 2 ∧ fI M (elt M l i) 0 = gA S 6 (40 * f + i) * 100 + gA S 7 (40 * f + i) ∧ fI M (elt M l i) 1 = gA S 8 (40 * f + i) ∧ fI M (elt M l i) 2 = gA S 9 (40 * f + i)
def qP (B : Nat → Nat → Nat) (S : Ms) (M : Mm) : Prop := ∀ f, f < cn S 2 → ln M (B 412 f) = ca S 5 f ∧ ∀ i, i < ca S 5 f → qP1 S M (B 412 f) f i
def qW1 (S : Ms) (M : Mm) (l f i : Nat) : Prop := fR M l i = some (elt M l i) ∧ kd M (elt M l i) % 1000 = 2 ∧ fI M (elt M l i) 0 = gA S 11 (40 * f + i) ∧ fI M (elt M l i) 1 = gA S 12 (40 * f + i) ∧ fI M (elt M l i) 2 = gA S 13 (40 * f + i)
def qW (B : Nat → Nat → Nat) (S : Ms) (M : Mm) : Prop := ∀ f, f < cn S 2 → ln M (B 413 f) = ca S 10 f ∧ ∀ i, i < ca S 10 f → qW1 S M (B 413 f) f i
def qM1 (B : Nat → Nat → Nat) (S : Ms) (M : Mm) (n : Nat) : Prop := fR M (B 410 (ca S 18 n)) (ctn (ofN S (ca S 18 n)) n) = some (B 7 n) ∧ kd M (B 7 n) = 7 + 1000 * n ∧ fI M (B 7 n) 0 = gA S 19 n ∧ fL M (B 7 n) 1 = gL S 20 n ∧ fI M (B 7 n) 2 = gA S 21 n ∧ fI M (B 7 n) 3 = gA S 22 n ∧ ((fI M (B 7 n) 4 = 0 ∧ gA S 23 n = -1) ∨ (fI M (B 7 n) 4 = 1 ∧ ¬ gA S 23 n = -1 ∧ fI M (B 7 n) 5 = gA S 23 n))
def qM (B : Nat → Nat → Nat) (S : Ms) (M : Mm) : Prop := (∀ f, f < cn S 2 → ln M (B 410 f) = ctn (ofN S f) (cn S 17)) ∧ ∀ n, n < cn S 17 → qM1 B S M n
def qE1 (S : Ms) (M : Mm) (l i n : Nat) : Prop := fR M l i = some (elt M l i) ∧ kd M (elt M l i) % 1000 = 3 ∧ fI M (elt M l i) 0 = gA S 33 n ∧ fI M (elt M l i) 1 = gA S 34 n ∧ fI M (elt M l i) 2 = gA S 35 n
def qE (B : Nat → Nat → Nat) (S : Ms) (M : Mm) : Prop := (∀ f, f < cn S 2 → ln M (B 411 f) = ctn (ofE S f) (cn S 31)) ∧ ∀ n, n < cn S 31 → qE1 S M (B 411 (ca S 32 n)) (ctn (ofE S (ca S 32 n)) n) n
def qL1 (S : Ms) (M : Mm) (l i q : Nat) : Prop := fR M l i = some (elt M l i) ∧ kd M (elt M l i) % 1000 = 6 ∧ fI M (elt M l i) 0 = gA S 25 q ∧ fI M (elt M l i) 1 = gA S 26 q ∧ fI M (elt M l i) 2 = gA S 30 q ∧ fI M (elt M l i) 3 = gA S 27 q ∧ fI M (elt M l i) 4 = gA S 28 q ∧ fI M (elt M l i) 5 = gA S 29 q
def qL (B : Nat → Nat → Nat) (S : Ms) (M : Mm) : Prop := ln M (B 401 0) = cn S 24 ∧ ∃ σ : Nat → Nat, (∀ i, i < cn S 24 → σ i < cn S 24 ∧ qL1 S M (B 401 0) i (σ i)) ∧ (∀ i j, i < j → j < cn S 24 → lkey S (σ i) < lkey S (σ j)) ∧ (∀ q, q < cn S 24 → ∃ i, i < cn S 24 ∧ σ i = q)
def qQ1 (B : Nat → Nat → Nat) (S : Ms) (M : Mm) (l p : Nat) : Prop := fR M l p = some (elt M l p) ∧ kd M (elt M l p) = 8 + 1000 * p ∧ fR M (elt M l p) 0 = some (B 4 (ca S 37 p)) ∧ fI M (elt M l p) 1 = gA S 38 p ∧ fL M (elt M l p) 2 = gL S 39 p ∧ fI M (elt M l p) 3 = gA S 40 p ∧ fI M (elt M l p) 4 = gA S 41 p ∧ fI M (elt M l p) 5 = gA S 42 p ∧ fI M (elt M l p) 6 = gA S 43 p ∧ fI M (elt M l p) 7 = gA S 44 p ∧ fI M (elt M l p) 8 = gA S 45 p ∧ (gA S 41 p = 1 → fR M (elt M l p) 9 = some (B 7 (ca S 46 p)))
def qQ (B : Nat → Nat → Nat) (S : Ms) (M : Mm) : Prop := ln M (B 402 0) = cn S 36 ∧ ∀ p, p < cn S 36 → qQ1 B S M (B 402 0) p
def qT1 (B : Nat → Nat → Nat) (S : Ms) (M : Mm) (t : Nat) : Prop := fR M (B 403 0) t = some (B 10 t) ∧ kd M (B 10 t) = 10 + 1000 * t ∧ fR M (B 10 t) 0 = some (B 171 t) ∧ kd M (B 171 t) = 171 + 1000 * t ∧ ln M (B 171 t) = 27 ∧ ∀ l, l < 27 → fI M (B 171 t) l = gA S 50 (27 * t + l)
def qT (B : Nat → Nat → Nat) (S : Ms) (M : Mm) : Prop := ln M (B 403 0) = 4 ∧ ∀ t, t < 4 → qT1 B S M t
def qR1 (S : Ms) (M : Mm) (l r : Nat) : Prop := fR M l r = some (elt M l r) ∧ kd M (elt M l r) % 1000 = 9 ∧ fL M (elt M l r) 0 = gL S 52 r ∧ fI M (elt M l r) 1 = gA S 53 r ∧ fI M (elt M l r) 2 = gA S 54 r
def qR (B : Nat → Nat → Nat) (S : Ms) (M : Mm) : Prop := ln M (B 404 0) = cn S 51 ∧ ∀ r, r < cn S 51 → qR1 S M (B 404 0) r
def qC (B : Nat → Nat → Nat) (S : Ms) (M : Mm) : Prop := ∀ s, s < 4 → fI M (B 175 0) s = gA S 55 s
def wzL (o : Nat → Int32) (f : Int32) : Nat → Bool
  | 0 => false
  | n + 1 => wzL o f n || decide (o n = f)
theorem waiL_wz (S : Ms) (f : Int32) : ∀ n, waiL S f n = wzL (gA S 57) f n
  | 0 => rfl
  | n + 1 => by rw [waiL, wzL, waiL_wz S f n]
def qO (B : Nat → Nat → Nat) (S : Ms) (M : Mm) : Prop := ln M (B 405 0) = cn S 58 ∧ (∀ i, i < cn S 58 → fR M (B 405 0) i = some (B 4 (ca S 57 i))) ∧ ∀ f, f < cn S 2 → fI M (B 4 f) 13 = b2i (wzL (gA S 57) (nI f) (cn S 58))
def qI (B : Nat → Nat → Nat) (S : Ms) (M : Mm) : Prop := ∀ f, f < cn S 2 → fL M (B 4 f) 14 = gL S 56 f
def RX (B : Nat → Nat → Nat) (x : Nat) (S : Ms) (M : Mm) : Prop := qX B x M ∧ qS x S M ∧ qF B S M ∧ qD B S M ∧ qG B S M ∧ qH B S M ∧ qP B S M ∧ qW B S M ∧ qM B S M ∧ qE B S M ∧ qL B S M ∧ qQ B S M ∧ qT B S M ∧ qR B S M ∧ qC B S M ∧ qO B S M ∧ qI B S M
