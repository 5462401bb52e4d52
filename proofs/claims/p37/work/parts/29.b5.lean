theorem ite_z {P : Prop} [Decidable P] {x y : Nat} (hx : x ≠ 0) (h : (if P then x else y) = 0) : ¬ P ∧ y = 0 := by
  split at h
  · exact absurd h hx
  · rename_i h2; exact ⟨h2, h⟩
def exo (M M' : Mm) (o : Nat) : Prop := ∀ b, kd M b ≠ 0 → b ≠ o → same M M' b
theorem ln_alL {M : Mm} {a c b : Nat} : ln (alL M a c) b = if b = a then 0 else ln M b := by
  unfold alL; rw [ln_sN, ln_sK]; split
  · rfl
  · rename_i h; rw [ln_al, if_neg h]
theorem fR_alL {M : Mm} {a c b k : Nat} : fR (alL M a c) b k = if b = a then none else fR M b k := by
  unfold alL; rw [fR_sN, fR_sK, fR_al]
theorem fI_alL {M : Mm} {a c b k : Nat} : fI (alL M a c) b k = if b = a then 0 else fI M b k := by
  unfold alL; rw [fI_sN, fI_sK, fI_al]
theorem fL_alL {M : Mm} {a c b k : Nat} : fL (alL M a c) b k = if b = a then 0 else fL M b k := by
  unfold alL; rw [fL_sN, fL_sK, fL_al]
theorem same.alL {M : Mm} {a c b : Nat} (h : b ≠ a) : same M (alL M a c) b := ((same.al h).tr (same.sK h)).tr (same.sN h)
def hst (M : Mm) (h l kh kl : Nat) : Mm := sR (alL (al M h kh 0) l kl) h 0 (some l)
theorem kd_hst {M : Mm} {h l kh kl b : Nat} : kd (hst M h l kh kl) b = if b = l then kl else if b = h then kh else kd M b := by
  unfold hst; rw [kd_sR, kd_alL, kd_al]
theorem ln_hst {M : Mm} {h l kh kl b : Nat} : ln (hst M h l kh kl) b = if b = l then 0 else if b = h then 0 else ln M b := by
  unfold hst; rw [ln_sR, ln_alL, ln_al]
theorem fR_hst {M : Mm} {h l kh kl b k : Nat} : fR (hst M h l kh kl) b k = if b = h ∧ k = 0 then some l else if b = l then none else if b = h then none else fR M b k := by
  unfold hst; rw [fR_sR, fR_alL, fR_al]
theorem fI_hst {M : Mm} {h l kh kl b k : Nat} : fI (hst M h l kh kl) b k = if b = l then 0 else if b = h then 0 else fI M b k := by
  unfold hst; rw [fI_sR, fI_alL, fI_al]
theorem fL_hst {M : Mm} {h l kh kl b k : Nat} : fL (hst M h l kh kl) b k = if b = l then 0 else if b = h then 0 else fL M b k := by
  unfold hst; rw [fL_sR, fL_alL, fL_al]
theorem same.hst {M : Mm} {h l kh kl b : Nat} (n1 : b ≠ h) (n2 : b ≠ l) : same M (hst M h l kh kl) b := ((same.al n1).tr (same.alL n2)).tr (same.sR n1)
def FNew (M M' : Mm) (o f : Nat) (kn tl : Int32) (h1 l1 h2 l2 nl el ha : Nat) : Prop :=
  exo M M' o ∧ kd M' o = kd M o ∧
  (fI M' o 0 = kn ∧ fI M' o 1 = tl ∧ fI M' o 10 = -1 ∧ ∀ k, k ≠ 0 → k ≠ 1 → k ≠ 10 → fI M' o k = fI M o k) ∧ (∀ k, fL M' o k = fL M o k) ∧
  (fR M' o 2 = some h1 ∧ fR M' o 3 = some h2 ∧ fR M' o 4 = some nl ∧ fR M' o 5 = some el ∧ fR M' o 6 = some ha) ∧
  (kd M' h1 = 5 + 2000 * f ∧ kd M' l1 = 412 + 1000 * f ∧ kd M' h2 = 1005 + 2000 * f ∧ kd M' l2 = 413 + 1000 * f ∧ kd M' nl = 410 + 1000 * f ∧ kd M' el = 411 + 1000 * f ∧ kd M' ha = 170 + 1000 * f) ∧
  (fR M' h1 0 = some l1 ∧ fR M' h2 0 = some l2 ∧ ln M' l1 = 0 ∧ ln M' l2 = 0 ∧ ln M' nl = 0 ∧ ln M' el = 0 ∧ ln M' ha = 4 ∧ ∀ k, fI M' ha k = 0)
