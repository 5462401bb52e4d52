theorem nI_gm1 {n : Nat} (h : n < 2 ^ 31) : -1 < nI n := Int32.lt_of_lt_of_le (by decide : (-1 : Int32) < 0) (nI_pos' h)
theorem rk_sk {S : Ms} (hV : INV S) {f : Nat} (hf : f < cn S 2) {w : Int64} {x y : Nat} (hx : x ≤ 99) (hy : y ≤ 99) : ∃ a, a ≤ 198 ∧ ((rkA S w (nI x) (nI y) f = -1 ∧ skA S w (nI x) (nI y) f = -1) ∨
    (∃ e, e < 2 ∧ rkA S w (nI x) (nI y) f = nI (100000 * e + 100 * a + f) ∧ skA S w (nI x) (nI y) f = nI (4800 * e + 24 * a + f))) := by
  obtain ⟨a, ha, hb⟩ := awy_nI hV hf hx hy
  refine ⟨a, hb, ?_⟩
  unfold rkA skA
  rw [ha]
  have h100 : (100 : Int32) = nI 100 := rfl
  have h24 : (24 : Int32) = nI 24 := rfl
  have h200 : (200 : Int32) = nI 200 := rfl
  have hk : (100000 : Int32) = nI 100000 := rfl
  by_cases c1 : frL S f w 4 = true
  · refine Or.inr ⟨0, by decide, ?_, ?_⟩
    · rw [if_pos (by rw [c1]; rfl), if_pos c1, Int32.zero_add, h100, pk_mul, nI_add]
      congr 1; omega
    · rw [if_pos c1, h24, pk_mul, nI_add]
      congr 1; omega
  · by_cases c2 : wtL S f w (cn S 17) = true
    · refine Or.inr ⟨1, by decide, ?_, ?_⟩
      · rw [if_pos (by rw [c2, Bool.or_true]), if_neg c1, hk, h100, pk_mul, nI_add, nI_add]
      · rw [if_neg c1, if_pos c2, h200, h24, nI_add, pk_mul, nI_add]
        congr 1; omega
    · left
      rw [if_neg (by rw [Bool.eq_false_iff.mpr c1, Bool.eq_false_iff.mpr c2]; decide), if_neg c1, if_neg c2]
      exact ⟨rfl, rfl⟩
theorem rk_OK {S : Ms} (hV : INV S) {w : Int64} {x y : Nat} (hx : x ≤ 99) (hy : y ≤ 99) : rkOK (rkA S w (nI x) (nI y)) (cn S 2) := by
  have h24 := hV.c2
  refine ⟨fun k hk => ?_, fun j k hj hk hne hr e => ?_⟩
  · obtain ⟨a, ha, ⟨h1, -⟩ | ⟨e, he, h1, -⟩⟩ := rk_sk hV hk (w := w) hx hy
    · exact Or.inl h1
    · right; rw [h1]; exact nI_gm1 (by omega)
  · obtain ⟨a, ha, ⟨h1, -⟩ | ⟨e1, he1, h1, -⟩⟩ := rk_sk hV hj (w := w) hx hy
    · rw [h1] at hr; exact Int32.lt_irrefl hr
    · obtain ⟨b, hb, ⟨h2, -⟩ | ⟨e2, he2, h2, -⟩⟩ := rk_sk hV hk (w := w) hx hy
      · rw [e, h2] at hr; exact Int32.lt_irrefl hr
      · rw [h1, h2, nI_eq (by omega) (by omega)] at e
        omega
theorem ord_lex {e1 a1 j e2 a2 k : Nat} (h1 : e1 < 2) (h2 : e2 < 2) (h3 : a1 ≤ 198) (h4 : a2 ≤ 198) (h5 : j < 24) (h6 : k < 24) : 4800 * e1 + 24 * a1 + j < 4800 * e2 + 24 * a2 + k ↔ 100000 * e1 + 100 * a1 + j < 100000 * e2 + 100 * a2 + k := by
  rcases Nat.lt_trichotomy e1 e2 with z | z | z
  · constructor <;> intro _ <;> omega
  · subst z
    rcases Nat.lt_trichotomy a1 a2 with y | y | y
    · constructor <;> intro _ <;> omega
    · subst y; constructor <;> intro _ <;> omega
    · constructor <;> intro _ <;> omega
  · constructor <;> intro _ <;> omega
theorem rk_ord {S : Ms} (hV : INV S) {w : Int64} {x y : Nat} (hx : x ≤ 99) (hy : y ≤ 99) {g : Nat → Int32} (hg : ∀ i, i < cn S 2 → g i = skA S w (nI x) (nI y) i) : ordK (rkA S w (nI x) (nI y)) g (cn S 2) := by
  have h24 := hV.c2
  refine ⟨fun k hk => ?_, fun j k hj hk hr hr2 => ?_⟩
  · rw [hg k hk]
    obtain ⟨a, ha, ⟨h1, h2⟩ | ⟨e, he, h1, h2⟩⟩ := rk_sk hV hk (w := w) hx hy
    · rw [h1, h2]; exact ⟨fun _ => Int32.lt_irrefl, fun _ => rfl⟩
    · rw [h1, h2]; exact ⟨fun z => absurd z (nI_m1n (by omega)), fun z => absurd (nI_gm1 (by omega)) z⟩
  · rw [hg j hj, hg k hk]
    obtain ⟨a, ha, ⟨h1, h2⟩ | ⟨e1, he1, h1, h2⟩⟩ := rk_sk hV hj (w := w) hx hy
    · rw [h1] at hr; exact absurd hr Int32.lt_irrefl
    · obtain ⟨b, hb, ⟨h3, -⟩ | ⟨e2, he2, h3, h4⟩⟩ := rk_sk hV hk (w := w) hx hy
      · rw [h3] at hr2; exact absurd hr2 Int32.lt_irrefl
      · rw [h1, h2, h3, h4, nI_ltI (by omega) (by omega), nI_ltI (by omega) (by omega)]
        exact ord_lex he1 he2 ha hb (by omega) (by omega)
theorem cfA_cut {g : Nat → Int32} {v : Int32} {a : Nat} : ∀ {n}, a ≤ n → (∀ i, a ≤ i → i < n → g i = -1) → cfA g v n = cfA g v a
  | 0, h, _ => by rw [Nat.le_zero.mp h]
  | n + 1, h, hg => by
    rcases Nat.lt_or_ge a (n + 1) with z | z
    · rw [cfA, if_neg (fun y => y.1 (hg n (by omega) (by omega)))]
      exact cfA_cut (by omega) (fun i h1 h2 => hg i h1 (by omega))
    · rw [show a = n + 1 by omega]
theorem find_at {S : Ms} (hV : INV S) {w : Int64} {x y : Nat} (hx : x ≤ 99) (hy : y ≤ 99) {g : Nat → Int32} (hg : ∀ i, i < cn S 2 → g i = skA S w (nI x) (nI y) i) (hg2 : ∀ i, cn S 2 ≤ i → i < 24 → g i = -1) {i r : Nat} (hi : i < 24) (hr : r < 2 ^ 31) (hgi : ¬ g i = -1) (hc : cfA g (g i) 24 = r) : vFind S w (nI x) (nI y) (nI r) = nI i := by
  have h24 := hV.c2
  have hi2 : i < cn S 2 := by
    rcases Nat.lt_or_ge i (cn S 2) with z | z
    · exact z
    · exact absurd (hg2 i z hi) hgi
  rw [cfA_cut (a := cn S 2) h24 hg2] at hc
  unfold vFind
  rw [nI_clamp hr, fn_found (rk_OK hV hx hy) (rk_ord hV hx hy hg) hi2 hgi hc]
  dsimp only
  obtain ⟨a, ha, ⟨-, h2⟩ | ⟨e, he, h1, -⟩⟩ := rk_sk hV hi2 (w := w) hx hy
  · exact absurd ((hg i hi2).trans h2) hgi
  · rw [h1, show (100 : Int32) = nI 100 from rfl, pk_rem (by omega) (by decide) (by decide)]
    congr 1; omega
theorem find_no {S : Ms} (hV : INV S) {w : Int64} {x y : Nat} (hx : x ≤ 99) (hy : y ≤ 99) {g : Nat → Int32} (hg : ∀ i, i < cn S 2 → g i = skA S w (nI x) (nI y) i) (hg2 : ∀ i, cn S 2 ≤ i → i < 24 → g i = -1) {r : Nat} (hr : r < 2 ^ 31) (h : ∀ i, i < 24 → ¬ g i = -1 → cfA g (g i) 24 ≠ r) : vFind S w (nI x) (nI y) (nI r) = -1 := by
  have h24 := hV.c2
  unfold vFind
  rw [nI_clamp hr, fn_none (rk_OK hV hx hy) (rk_ord hV hx hy hg) (fun i hi hgi => by
    have := h i (by omega) hgi
    rw [cfA_cut (a := cn S 2) h24 hg2] at this; exact this)]
