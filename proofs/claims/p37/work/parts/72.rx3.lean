theorem ofN_f {S : Ms} {f n : Nat} (hf : f < 24) (h : ofN S f n = true) : ca S 18 n = f := by
  unfold ca
  rw [of_decide_eq_true h, nI_clamp (by omega)]
theorem ofE_f {S : Ms} {f n : Nat} (hf : f < 24) (h : ofE S f n = true) : ca S 32 n = f := by
  unfold ca
  rw [of_decide_eq_true h, nI_clamp (by omega)]
theorem INV.c2 {S : Ms} (h : INV S) : cn S 2 ≤ 24 := h.1.2.1.2
theorem INV.c17 {S : Ms} (h : INV S) : cn S 17 ≤ 100 := h.1.2.2.1.2
theorem qF.LK {B : Nat → Nat → Nat} {S : Ms} {M : Mm} (h : qF B S M) (h4 : kd M (B 400 0) = 400) (h24 : cn S 2 ≤ 24) : LK M (B 400 0) 4 := by
  refine ⟨by rw [h4]; decide, by rw [h.1]; omega, fun i hi => ?_⟩
  rw [h.1] at hi
  have e : elt M (B 400 0) i = B 4 i := by unfold elt; rw [(h.2 i hi).1]; rfl
  rw [e]; exact ⟨(h.2 i hi).1, h.k4 hi⟩
theorem qF.at4 {B : Nat → Nat → Nat} {S : Ms} {M : Mm} (h : qF B S M) {i : Nat} (hi : i < cn S 2) : elt M (B 400 0) i = B 4 i := by unfold elt; rw [(h.2 i hi).1]; rfl
theorem qP.LK {B : Nat → Nat → Nat} {S : Ms} {M : Mm} (h : qP B S M) (hF : qF B S M) (hV : INV S) {f : Nat} (hf : f < cn S 2) : LK M (B 412 f) 2 := by
  have h40 := (hV.2.1 f hf).2.2.1.2
  refine ⟨by rw [hF.k412 hf]; decide, by rw [(h f hf).1]; omega, fun i hi => ?_⟩
  rw [(h f hf).1] at hi
  obtain ⟨a1, a2, -⟩ := (h f hf).2 i hi
  exact ⟨a1, a2⟩
theorem qW.LK {B : Nat → Nat → Nat} {S : Ms} {M : Mm} (h : qW B S M) (hF : qF B S M) (hV : INV S) {f : Nat} (hf : f < cn S 2) : LK M (B 413 f) 2 := by
  have h40 := (hV.2.1 f hf).2.2.2.2.1.2
  refine ⟨by rw [hF.k413 hf]; decide, by rw [(h f hf).1]; omega, fun i hi => ?_⟩
  rw [(h f hf).1] at hi
  obtain ⟨a1, a2, -⟩ := (h f hf).2 i hi
  exact ⟨a1, a2⟩
theorem qM.at {B : Nat → Nat → Nat} {S : Ms} {M : Mm} (h : qM B S M) {f n : Nat} (hf : f < 24) (hn : n < cn S 17) (hp : ofN S f n = true) : fR M (B 410 f) (ctn (ofN S f) n) = some (B 7 n) := by
  have h1 := (h.2 n hn).1
  rw [ofN_f hf hp] at h1; exact h1
theorem qM.el7 {B : Nat → Nat → Nat} {S : Ms} {M : Mm} (h : qM B S M) {f n : Nat} (hf : f < 24) (hn : n < cn S 17) (hp : ofN S f n = true) : elt M (B 410 f) (ctn (ofN S f) n) = B 7 n := by
  unfold elt; rw [h.at hf hn hp]; rfl
theorem qM.LK {B : Nat → Nat → Nat} {S : Ms} {M : Mm} (h : qM B S M) (hF : qF B S M) (hV : INV S) {f : Nat} (hf : f < cn S 2) : LK M (B 410 f) 7 := by
  have h24 := hV.c2
  have h17 := hV.c17
  have hc := ctn_le (ofN S f) (cn S 17)
  refine ⟨by rw [hF.k410 hf]; decide, by rw [h.1 f hf]; omega, fun i hi => ?_⟩
  rw [h.1 f hf] at hi
  obtain ⟨n, h1, h2, rfl⟩ := ctn_sur (ofN S f) hi
  rw [h.el7 (by omega) h1 h2, h.at (by omega) h1 h2]
  exact ⟨rfl, by rw [(h.2 n h1).2.1]; omega⟩
theorem qE.e1 {B : Nat → Nat → Nat} {S : Ms} {M : Mm} (h : qE B S M) {f n : Nat} (hf : f < 24) (hn : n < cn S 31) (hp : ofE S f n = true) : qE1 S M (B 411 f) (ctn (ofE S f) n) n := by
  have h1 := h.2 n hn
  rw [ofE_f hf hp] at h1; exact h1
theorem qE.LK {B : Nat → Nat → Nat} {S : Ms} {M : Mm} (h : qE B S M) (hF : qF B S M) (hV : INV S) {f : Nat} (hf : f < cn S 2) : LK M (B 411 f) 3 := by
  have h24 := hV.c2
  have h31 := hV.1.2.2.2.2.1.2
  have hc := ctn_le (ofE S f) (cn S 31)
  refine ⟨by rw [hF.k411 hf]; decide, by rw [h.1 f hf]; omega, fun i hi => ?_⟩
  rw [h.1 f hf] at hi
  obtain ⟨n, h1, h2, rfl⟩ := ctn_sur (ofE S f) hi
  obtain ⟨a1, a2, -⟩ := h.e1 (by omega) h1 h2
  exact ⟨a1, a2⟩
theorem qL.LK {B : Nat → Nat → Nat} {S : Ms} {M : Mm} (h : qL B S M) (h4 : kd M (B 401 0) = 401) (hV : INV S) : LK M (B 401 0) 6 := by
  have h12 := hV.1.2.2.2.1.2
  obtain ⟨h1, σ, h2, -⟩ := h
  refine ⟨by rw [h4]; decide, by rw [h1]; omega, fun i hi => ?_⟩
  rw [h1] at hi
  obtain ⟨a1, a2, -⟩ := (h2 i hi).2
  exact ⟨a1, a2⟩
theorem qQ.LK {B : Nat → Nat → Nat} {S : Ms} {M : Mm} (h : qQ B S M) (h4 : kd M (B 402 0) = 402) (hV : INV S) : LK M (B 402 0) 8 := by
  have h12 := hV.1.2.2.2.2.2.1.2
  refine ⟨by rw [h4]; decide, by rw [h.1]; omega, fun i hi => ?_⟩
  rw [h.1] at hi
  obtain ⟨a1, a2, -⟩ := h.2 i hi
  exact ⟨a1, by rw [a2]; omega⟩
theorem qT.LK {B : Nat → Nat → Nat} {S : Ms} {M : Mm} (h : qT B S M) (h4 : kd M (B 403 0) = 403) : LK M (B 403 0) 10 := by
  refine ⟨by rw [h4]; decide, by rw [h.1]; decide, fun i hi => ?_⟩
  rw [h.1] at hi
  obtain ⟨a1, a2, -⟩ := h.2 i hi
  have e : elt M (B 403 0) i = B 10 i := by unfold elt; rw [a1]; rfl
  rw [e]; exact ⟨a1, by rw [a2]; omega⟩
theorem qT.at10 {B : Nat → Nat → Nat} {S : Ms} {M : Mm} (h : qT B S M) {i : Nat} (hi : i < 4) : elt M (B 403 0) i = B 10 i := by unfold elt; rw [(h.2 i hi).1]; rfl
theorem qR.LK {B : Nat → Nat → Nat} {S : Ms} {M : Mm} (h : qR B S M) (h4 : kd M (B 404 0) = 404) (hV : INV S) : LK M (B 404 0) 9 := by
  have h12 := hV.1.2.2.2.2.2.2.1.2
  refine ⟨by rw [h4]; decide, by rw [h.1]; omega, fun i hi => ?_⟩
  rw [h.1] at hi
  obtain ⟨a1, a2, -⟩ := h.2 i hi
  exact ⟨a1, a2⟩
theorem qO.LK {B : Nat → Nat → Nat} {S : Ms} {M : Mm} (h : qO B S M) (hF : qF B S M) (h4 : kd M (B 405 0) = 405) (hV : INV S) : LK M (B 405 0) 4 := by
  have h12 := hV.1.2.2.2.2.2.2.2.1.2
  refine ⟨by rw [h4]; decide, by rw [h.1]; omega, fun i hi => ?_⟩
  rw [h.1] at hi
  have e : elt M (B 405 0) i = B 4 (ca S 57 i) := by unfold elt; rw [h.2.1 i hi]; rfl
  have hb : ca S 57 i < cn S 2 := (hV.2.2.2.2.2.2.2.2.2.2.2.1 i hi).2
  rw [e]; exact ⟨h.2.1 i hi, hF.k4 hb⟩
theorem vOn_bst {M : Mm} {l : Nat} {d k : Int32} {dy tl vl : Nat → Int32} {p : Nat → Bool} : ∀ {n : Nat}, (∀ i, i < n → fI M (elt M l i) 1 = dy i ∧ fI M (elt M l i) 2 = tl i ∧ fI M (elt M l i) 0 = vl i ∧ ¬ dy i < -1) → (∀ i, i < n → p i = (!decide (d < dy i) && !decide (k < tl i))) →
    vOn M l d k n = match bst p dy n with
      | none => (-1, -1)
      | some q => (dy q, vl q)
  | 0, _, _ => rfl
  | n + 1, h, hp => by
    have ih := vOn_bst (n := n) (fun i hi => h i (by omega)) (fun i hi => hp i (by omega))
    obtain ⟨e1, e2, e3, e4⟩ := h n (by omega)
    have e5 := hp n (by omega)
    rw [vOn, bst, ih, e1, e2, e3]
    rcases hb : bst p dy n with _ | q
    · dsimp only
      by_cases c : ¬ d < dy n ∧ ¬ k < tl n ∧ ¬ dy n < -1
      · rw [if_pos c, if_pos ⟨by rw [e5, decide_eq_false c.1, decide_eq_false c.2.1]; rfl, rfl⟩]
      · rw [if_neg c, if_neg]
        rintro ⟨z, -⟩
        rw [e5, Bool.and_eq_true, Bool.not_eq_true', Bool.not_eq_true', decide_eq_false_iff_not, decide_eq_false_iff_not] at z
        exact c ⟨z.1, z.2, e4⟩
    · dsimp only
      by_cases c : ¬ d < dy n ∧ ¬ k < tl n ∧ ¬ dy n < dy q
      · rw [if_pos c, if_pos ⟨by rw [e5, decide_eq_false c.1, decide_eq_false c.2.1]; rfl, by show (!decide (dy n < dy q)) = true; rw [decide_eq_false c.2.2]; rfl⟩]
      · rw [if_neg c, if_neg]
        rintro ⟨z, z2⟩
        change (!decide (dy n < dy q)) = true at z2
        rw [e5, Bool.and_eq_true, Bool.not_eq_true', Bool.not_eq_true', decide_eq_false_iff_not, decide_eq_false_iff_not] at z
        rw [Bool.not_eq_true', decide_eq_false_iff_not] at z2
        exact c ⟨z.1, z.2, z2⟩
theorem nI_m1 {n : Nat} (h : n < 2 ^ 31) : ¬ nI n < -1 := fun z => nI_pos h (Int32.lt_trans z (by decide))
def plV (S : Ms) (f : Nat) (d k : Int32) : Int32 := match plA S f d k with
  | none => -1
  | some q => gA S 6 (40 * f + q) * 100 + gA S 7 (40 * f + q)
theorem vOn_pl {B : Nat → Nat → Nat} {S : Ms} {M : Mm} (h : qP B S M) (hV : INV S) {f : Nat} (hf : f < cn S 2) (d k : Int32) : (vOn M (B 412 f) d k (ln M (B 412 f))).2 = plV S f d k := by
  obtain ⟨h1, h2⟩ := h f hf
  have hv := (hV.2.1 f hf).2.2.2.2.2.1
  rw [h1, vOn_bst (dy := fun i => gA S 8 (40 * f + i)) (tl := fun i => gA S 9 (40 * f + i)) (vl := fun i => gA S 6 (40 * f + i) * 100 + gA S 7 (40 * f + i)) (p := pP (gA S 8) (gA S 9) (40 * f) d k) (fun i hi => ?_) (fun i _ => rfl)]
  · unfold plV plA
    split <;> rfl
  · obtain ⟨-, -, a3, a4, a5⟩ := h2 i hi
    refine ⟨a4, a5, a3, ?_⟩
    have := (hv i hi).2.2.1
    rw [this.1]; exact nI_m1 (by have := this.2; omega)
theorem vOn_wh {B : Nat → Nat → Nat} {S : Ms} {M : Mm} (h : qW B S M) (hV : INV S) {f : Nat} (hf : f < cn S 2) (d k : Int32) : (vOn M (B 413 f) d k (ln M (B 413 f))).2 = whA S f d k := by
  obtain ⟨h1, h2⟩ := h f hf
  have hv := (hV.2.1 f hf).2.2.2.2.2.2.2.1
  rw [h1, vOn_bst (dy := fun i => gA S 12 (40 * f + i)) (tl := fun i => gA S 13 (40 * f + i)) (vl := fun i => gA S 11 (40 * f + i)) (p := pP (gA S 12) (gA S 13) (40 * f) d k) (fun i hi => ?_) (fun i _ => rfl)]
  · unfold whA whI
    split <;> rename_i hq <;> rw [hq]
  · obtain ⟨-, -, a3, a4, a5⟩ := h2 i hi
    refine ⟨a4, a5, a3, ?_⟩
    have := (hv i hi).2.1
    rw [this.1]; exact nI_m1 (by have := this.2; omega)
theorem hEnd_en {B : Nat → Nat → Nat} {S : Ms} {M : Mm} (h : qD B S M) {f : Nat} (hf : f < cn S 2) (d k : Int32) : hEnd M (B 4 f) d k = enA S f d k := by
  unfold hEnd enA
  rcases h f hf with ⟨a1, a2⟩ | ⟨a1, a2, a3, a4, a5⟩
  · rw [a1, a2]; rfl
  · rw [a1, decide_eq_false a2, a3, a4]; rfl
theorem isTh_th {B : Nat → Nat → Nat} {S : Ms} {M : Mm} (hF : qF B S M) (h : qD B S M) {f : Nat} (hf : f < cn S 2) (d k : Int32) : isTh M (B 4 f) d k = thA S f d k := by
  unfold isTh thA
  rw [hEnd_en h hf, (hF.2 f hf).2.2.1.2]
theorem cnts_nm {B : Nat → Nat → Nat} {S : Ms} {M : Mm} {n : Nat} (h : qM1 B S M n) (k : Int32) : cnts M (B 7 n) k = (!decide (k < gA S 22 n) && (decide (gA S 23 n = -1) || !decide (gA S 23 n ≤ k))) := by
  obtain ⟨-, -, -, -, -, a6, a7⟩ := h
  unfold cnts
  rw [a6]
  rcases a7 with ⟨b1, b2⟩ | ⟨b1, b2, b3⟩
  · rw [b1, b2]; rfl
  · rw [b1, b3, decide_eq_false b2]; rfl
theorem nOn_nm {B : Nat → Nat → Nat} {S : Ms} {M : Mm} (h : qM B S M) {f : Nat} (hf : f < 24) (t d k : Int32) : ∀ n, n ≤ cn S 17 → nOn M (B 410 f) t d k (ctn (ofN S f) n) = (bst (nP S (nI f) t d k) (gA S 21) n).map (B 7)
  | 0, _ => rfl
  | n + 1, hn => by
    have ih := nOn_nm h hf t d k n (by omega)
    rw [ctn, bst]
    by_cases c : ofN S f n = true
    · rw [if_pos c, nOn, h.el7 hf (by omega) c, ih]
      obtain ⟨-, -, a3, -, a5, -, -⟩ := h.2 n (by omega)
      have hc := cnts_nm (h.2 n (by omega)) k
      rw [a3, a5]
      have hnl : nlat M (B 7 n) ((bst (nP S (nI f) t d k) (gA S 21) n).map (B 7)) = nl (gA S 21) n (bst (nP S (nI f) t d k) (gA S 21) n) := by
        rcases hb : bst (nP S (nI f) t d k) (gA S 21) n with _ | q
        · rfl
        · show (!decide (fI M (B 7 n) 2 < fI M (B 7 q) 2)) = !decide (gA S 21 n < gA S 21 q)
          rw [a5, (h.2 q (by have := (bst_mem hb).1; omega)).2.2.2.2.1]
      rw [hnl]
      have hP : nP S (nI f) t d k n = true ↔ (gA S 19 n = t ∧ ¬ d < gA S 21 n ∧ cnts M (B 7 n) k = true) := by
        unfold nP
        rw [show decide (gA S 18 n = nI f) = true from c, Bool.true_and, Bool.and_eq_true, Bool.and_eq_true, decide_eq_true_iff, Bool.not_eq_true', decide_eq_false_iff_not, hc]
      by_cases c2 : nP S (nI f) t d k n = true ∧ nl (gA S 21) n (bst (nP S (nI f) t d k) (gA S 21) n) = true
      · rw [if_pos c2, if_pos ⟨(hP.mp c2.1).1, (hP.mp c2.1).2.1, b2i_n0.mpr (hP.mp c2.1).2.2, c2.2⟩]; rfl
      · rw [if_neg c2, if_neg (fun z => c2 ⟨hP.mpr ⟨z.1, z.2.1, b2i_n0.mp z.2.2.1⟩, z.2.2.2⟩)]
    · rw [if_neg c, if_neg, ih]
      rintro ⟨z, -⟩
      unfold nP at z
      rw [Bool.and_eq_true] at z
      exact c z.1
theorem nOn_nmA {B : Nat → Nat → Nat} {S : Ms} {M : Mm} (h : qM B S M) (hV : INV S) {f : Nat} (hf : f < cn S 2) (t d k : Int32) : nOn M (B 410 f) t d k (ln M (B 410 f)) = (nmA S (nI f) t d k).map (B 7) := by
  rw [h.1 f hf, nOn_nm h (by have := hV.c2; omega) t d k _ (Nat.le_refl _)]; rfl
theorem xFr_ex {B : Nat → Nat → Nat} {S : Ms} {M : Mm} (h : qE B S M) {f : Nat} (hf : f < 24) (t k : Int32) : ∀ n, n ≤ cn S 31 → xFr M (B 411 f) t k (ctn (ofE S f) n) = exA S (nI f) t k n
  | 0, _ => rfl
  | n + 1, hn => by
    have ih := xFr_ex h hf t k n (by omega)
    rw [ctn, exA]
    by_cases c : ofE S f n = true
    · obtain ⟨-, -, a3, a4, a5⟩ := h.e1 hf (by omega) c
      rw [if_pos c, xFr, a3, a4, a5, ih]
      have hP : xP S (nI f) t k n = true ↔ (gA S 33 n = t ∧ ¬ k < gA S 35 n) := by
        unfold xP
        rw [show decide (gA S 32 n = nI f) = true from c, Bool.true_and, Bool.and_eq_true, decide_eq_true_iff, Bool.not_eq_true', decide_eq_false_iff_not]
      by_cases c1 : gA S 33 n = t ∧ ¬ k < gA S 35 n
      · rw [if_pos c1]
        by_cases c2 : gA S 34 n < exA S (nI f) t k n
        · rw [if_pos c2, if_pos ⟨hP.mpr c1, Int32.not_le.mpr c2⟩]
        · rw [if_neg c2, if_neg (fun z => c2 (Int32.not_le.mp z.2))]
      · rw [if_neg c1, if_neg (fun z => c1 (hP.mp z.1))]
    · rw [if_neg c, if_neg, ih]
      rintro ⟨z, -⟩
      unfold xP at z
      rw [Bool.and_eq_true] at z
      exact c z.1
theorem xFr_exA {B : Nat → Nat → Nat} {S : Ms} {M : Mm} (h : qE B S M) (hV : INV S) {f : Nat} (hf : f < cn S 2) (t k : Int32) : xFr M (B 411 f) t k (ln M (B 411 f)) = exA S (nI f) t k (cn S 31) := by
  rw [h.1 f hf, xFr_ex h (by have := hV.c2; omega) t k _ (Nat.le_refl _)]
theorem hBeen_wt {B : Nat → Nat → Nat} {S : Ms} {M : Mm} (h : qM B S M) {f : Nat} (hf : f < 24) (w : Int64) : ∀ n, n ≤ cn S 17 → hBeen M (B 410 f) w (ctn (ofN S f) n) = wtL S f w n
  | 0, _ => rfl
  | n + 1, hn => by
    have ih := hBeen_wt h hf w n (by omega)
    rw [ctn, wtL]
    by_cases c : ofN S f n = true
    · rw [if_pos c, hBeen, h.el7 hf (by omega) c, ih, (h.2 n (by omega)).2.2.2.1, show decide (gA S 18 n = nI f) = true from c, Bool.true_and]
    · rw [if_neg c, ih, show decide (gA S 18 n = nI f) = false from Bool.eq_false_iff.mpr c, Bool.false_and, Bool.or_false]
theorem hBeen_wtL {B : Nat → Nat → Nat} {S : Ms} {M : Mm} (h : qM B S M) (hV : INV S) {f : Nat} (hf : f < cn S 2) (w : Int64) : hBeen M (B 410 f) w (ln M (B 410 f)) = wtL S f w (cn S 17) := by
  rw [h.1 f hf, hBeen_wt h (by have := hV.c2; omega) w _ (Nat.le_refl _)]
