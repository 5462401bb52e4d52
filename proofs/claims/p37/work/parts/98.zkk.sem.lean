/-! ===== what isInOrder asks, said of the state (by hand) ===== -/
theorem inB_t {a b : Nat} (h : a ≤ b) (hb : b < 2 ^ 30) : inB (nI a) 0 (nI b) = true := by
  unfold inB
  rw [decide_eq_false (nI_pos (by omega)), decide_eq_false (fun z => by rw [nI_ltI (by omega) (by omega)] at z; omega)]; rfl
theorem isF_t {S : Ms} (h : INV S) {j : Nat} (hj : j < cn S 2) : isF S (nI j) = true := by
  unfold isF
  rw [h.1.2.1.1, show nI (cn S 2) - 1 = nI (cn S 2 - 1) from pk_sub (b := 1) (by omega)]
  exact inB_t (by omega) (by have := h.1.2.1.2; omega)
theorem isP_t {S : Ms} (h : INV S) {j : Nat} (hj : j < cn S 36) : isP S (nI j) = true := by
  unfold isP
  rw [h.1.2.2.2.2.2.1.1, show nI (cn S 36) - 1 = nI (cn S 36 - 1) from pk_sub (b := 1) (by omega)]
  exact inB_t (by omega) (by have := h.c36; omega)
theorem c_form0 {S : Ms} (h : INV S) {j t d k : Nat} (hj : j < cn S 2) (ht : t ≤ 3) (hd : d ≤ 9999) (hk : k ≤ 9999) : cForm S (nI j) (nI t) (nI d) (nI k) = 0 := by
  unfold cForm
  rw [isF_t h hj, show inB (nI t) 0 3 = true from inB_t (b := 3) ht (by decide), show inB (nI d) 0 9999 = true from inB_t (b := 9999) hd (by decide), show inB (nI k) 0 9999 = true from inB_t (b := 9999) hk (by decide)]
  rfl
theorem c_shown0 {S : Ms} (h : INV S) {j d : Nat} (hj : j < cn S 2) (hd : d ≤ 9999) : cShown S (nI j) (nI d) = 0 := by
  unfold cShown
  rw [isF_t h hj, show inB (nI d) 0 9999 = true from inB_t (b := 9999) hd (by decide)]
  rfl
theorem c_sign0 {S : Ms} (h : INV S) {j : Nat} (hj : j < cn S 2) : cSign S (nI j) = 0 := by
  unfold cSign
  rw [isF_t h hj]; rfl
theorem c_of0 {S : Ms} (h : INV S) {j w d k : Nat} (hj : j < cn S 2) (hw : w ≤ 4) (hd : d ≤ 9999) (hk : k ≤ 9999) : cOf S (nI j) (nI w) (nI d) (nI k) = 0 := by
  unfold cOf
  rw [isF_t h hj, show inB (nI w) 0 4 = true from inB_t (b := 4) hw (by decide), show inB (nI d) 0 9999 = true from inB_t (b := 9999) hd (by decide), show inB (nI k) 0 9999 = true from inB_t (b := 9999) hk (by decide)]
  rfl
theorem c_petOf0 {S : Ms} (h : INV S) {j w : Nat} (hj : j < cn S 36) (hw : w ≤ 4) : cPetOf S (nI j) (nI w) = 0 := by
  unfold cPetOf
  rw [isP_t h hj, show inB (nI w) 0 4 = true from inB_t (b := 4) hw (by decide)]
  rfl
/-- of what is there the place is there -/
theorem sm_th {S : Ms} (h : INV S) (J : JV S) {j d k : Nat} (hj : j < cn S 2) (hd : d ≤ 9999) (hk : k ≤ 9999) (ht : thA S j (nI d) (nI k) = true) : ∃ q, q < ca S 5 j ∧ plA S j (nI d) (nI k) = some q := by
  obtain ⟨a3, a4, a5, a50, -, a6, -⟩ := h.2.1 j hj
  obtain ⟨j8, j9⟩ := J.2.1 j hj
  have hb1 := h.1.1.2
  unfold thA at ht
  rw [Bool.and_eq_true, Bool.and_eq_true, Bool.not_eq_true', Bool.not_eq_true', decide_eq_false_iff_not, decide_eq_false_iff_not, a4.1, nI_ltI (by omega) (by have := a4.2; omega), nI_ltI (by omega) (by have := a4.2; omega)] at ht
  have h0 := a6 0 a50
  have hp0 : pP (gA S 8) (gA S 9) (40 * j) (nI d) (nI k) 0 = true := by
    unfold pP
    rw [h0.2.2.1.1, h0.2.2.2.1, decide_eq_false (fun z => by rw [nI_ltI (by omega) (by have := h0.2.2.1.2; omega), Nat.add_zero] at z; omega), decide_eq_false (fun z => by rw [nI_ltI (by omega) (by have := h0.2.2.2.2; omega), Nat.add_zero] at z; omega)]
    rfl
  obtain ⟨q, hq⟩ := bst_ex (dy := fun n => gA S 8 (40 * j + n)) hp0 a50
  exact ⟨q, (bst_mem hq).1, hq⟩
theorem sm_of12 {S : Ms} (h : INV S) (J : JV S) {j d k : Nat} (hj : j < cn S 2) (hd : d ≤ 9999) (hk : k ≤ 9999) (ht : thA S j (nI d) (nI k) = true) : ¬ vOf S (nI j) 1 (nI d) (nI k) < 0 ∧ ¬ vOf S (nI j) 2 (nI d) (nI k) < 0 := by
  have hcl : (nI j).toNatClampNeg = j := nI_clamp (by have := h.1.2.1.2; omega)
  obtain ⟨q, h1, h2⟩ := sm_th h J hj hd hk ht
  have hv := (h.2.1 j hj).2.2.2.2.2.1 q h1
  unfold vOf
  rw [if_neg (by decide), if_neg (by decide), if_neg (by decide), if_neg (by decide), hcl, h2]
  dsimp only
  rw [if_pos rfl, if_neg (by decide), hv.1.1, hv.2.1.1]
  exact ⟨nI_pos (by have := hv.1.2; omega), nI_pos (by have := hv.2.1.2; omega)⟩
theorem sm_of0 {S : Ms} {f d k : Int32} (hn : ¬ vOf S f 0 d k = 0) : thA S f.toNatClampNeg d k = true := by
  unfold vOf at hn
  rw [if_neg (by decide), if_pos rfl] at hn
  by_cases e : thA S f.toNatClampNeg d k = true
  · exact e
  · rw [if_neg e] at hn; exact absurd rfl hn
theorem sm_of3 {S : Ms} (h : INV S) (J : JV S) {j : Nat} {d k : Int32} (hj : j < cn S 2) : ¬ nI j ≤ vOf S (nI j) 3 d k := by
  have hj24 := h.1.2.1.2
  have hcl : (nI j).toNatClampNeg = j := nI_clamp (by omega)
  have e : vOf S (nI j) 3 d k = whA S j d k := by
    unfold vOf; rw [if_pos (by decide), if_pos rfl, hcl]
  have hm1 : ¬ nI j ≤ -1 := fun z => absurd (Int32.lt_of_lt_of_le (nI_gm1 (show j < 2 ^ 31 by omega)) z) Int32.lt_irrefl
  rw [e]
  unfold whA
  rcases hq : whI S j d k with _ | q
  · exact hm1
  · have h1 := (bst_mem hq).1
    dsimp only
    rcases J.2.2.1 j hj q h1 with z | z
    · rw [z]; exact hm1
    · rcases ((h.2.1 j hj).2.2.2.2.2.2.2.1 q h1).1 with y | y
      · rw [y]; exact hm1
      · rw [y.1, nI_leI (by omega) (by omega)]; omega
theorem sm_mono {S : Ms} (h : INV S) {j n : Nat} {d : Int32} (hj : j < cn S 2) (hn : gi S 1 = nI n) (hn9 : n ≤ 9000) : ¬ vOf S (nI j) 0 d (nI n + 9) < vOf S (nI j) 0 d (nI n) := by
  have hj24 := h.1.2.1.2
  have hcl : (nI j).toNatClampNeg = j := nI_clamp (by omega)
  have e1 : cn S 1 = n := by unfold cn; rw [hn, nI_clamp (by omega)]
  obtain ⟨a3, a4, -, -, -, -, -, -, a14, -⟩ := h.2.1 j hj
  rw [show nI n + 9 = nI (n + 9) from nI_add n 9]
  have e0 : ∀ k, vOf S (nI j) 0 d k = if thA S j d k = true then 1 else 0 := fun k => by
    unfold vOf
    rw [if_neg (by decide), if_pos rfl, hcl]
  rw [e0, e0]
  have key : thA S j d (nI n) = true → thA S j d (nI (n + 9)) = true := by
    unfold thA
    rw [Bool.and_eq_true, Bool.and_eq_true, Bool.and_eq_true, Bool.and_eq_true]
    rintro ⟨q1, q2, q3⟩
    refine ⟨q1, ?_, ?_⟩
    · rw [Bool.not_eq_true', decide_eq_false_iff_not, a4.1, nI_ltI (by omega) (by have := a4.2; omega)] at q2 ⊢; omega
    · rw [Bool.not_eq_true'] at q3 ⊢
      unfold enA at q3 ⊢
      rcases a14 with z | ⟨-, z2, -⟩
      · rw [z]; rfl
      · have e2 : decide (nI n < gA S 16 j) = false := decide_eq_false (fun z => by rw [z2.1, nI_ltI (by omega) (by have := z2.2; omega)] at z; have := z2.2; omega)
        have e3 : decide (nI (n + 9) < gA S 16 j) = false := decide_eq_false (fun z => by rw [z2.1, nI_ltI (by omega) (by have := z2.2; omega)] at z; have := z2.2; omega)
        rw [e2] at q3
        rw [e3]; exact q3
  by_cases c : thA S j d (nI n) = true
  · rw [if_pos c, if_pos (key c)]; decide
  · rw [if_neg c]; split <;> decide
theorem shL_x {S : Ms} {f : Nat} {d : Int32} : ∀ m, m ≤ 4 → (∃ x, x < 2 ^ m ∧ (shL S f d m).1 = nI x ∧ ∀ t, x.testBit t = true → t < m ∧ formA S (nI f) (nI t) d (gi S 1) ≠ 0) ∧
    ((∃ q, (shL S f d m).2 = some q ∧ q < m ∧ formA S (nI f) (nI q) d (gi S 1) ≠ 0) ∨ ((shL S f d m).2 = none ∧ ∀ t, t < m → formA S (nI f) (nI t) d (gi S 1) = 0))
  | 0, _ => ⟨⟨0, by decide, rfl, fun t ht => by rw [Nat.zero_testBit] at ht; exact absurd ht (by decide)⟩, Or.inr ⟨rfl, fun t ht => absurd ht (Nat.not_lt_zero t)⟩⟩
  | m + 1, hm => by
    obtain ⟨⟨x, h1, h2, h3⟩, h4⟩ := shL_x (S := S) (f := f) (d := d) m (by omega)
    have hp : 2 ^ m < 2 ^ (m + 1) := Nat.pow_lt_pow_right (by decide) (by omega)
    rw [shL]
    by_cases c : formA S (nI f) (nI m) d (gi S 1) = 0
    · rw [if_pos c]
      refine ⟨⟨x, by omega, h2, fun t ht => ⟨by have := (h3 t ht).1; omega, (h3 t ht).2⟩⟩, ?_⟩
      rcases h4 with ⟨q, q1, q2, q3⟩ | ⟨q1, q2⟩
      · exact Or.inl ⟨q, q1, by omega, q3⟩
      · refine Or.inr ⟨q1, fun t ht => ?_⟩
        rcases Nat.lt_or_ge t m with z | z
        · exact q2 t z
        · rw [show t = m by omega]; exact c
    · rw [if_neg c]
      refine ⟨?_, ?_⟩
      · by_cases c2 : gA S 47 (4 * f + m) < 20
        · refine ⟨x, by omega, ?_, fun t ht => ⟨by have := (h3 t ht).1; omega, (h3 t ht).2⟩⟩
          dsimp only
          rw [if_pos c2, h2, show (0 : Int32) = nI 0 from rfl, nI_or, Nat.or_zero]
        · refine ⟨x ||| 2 ^ m, Nat.or_lt_two_pow (by omega) hp, ?_, fun t ht => ?_⟩
          · dsimp only
            rw [if_neg c2, h2, sh1 m (by omega), nI_or]
          · rw [Nat.testBit_or, Bool.or_eq_true] at ht
            rcases ht with z | z
            · exact ⟨by have := (h3 t z).1; omega, (h3 t z).2⟩
            · rw [Nat.testBit_two_pow] at z
              have z2 := of_decide_eq_true z
              subst z2
              exact ⟨by omega, c⟩
      · left
        dsimp only
        rcases h4 with ⟨q, q1, q2, q3⟩ | ⟨q1, q2⟩
        · rw [q1]
          dsimp only
          by_cases c3 : gA S 47 (4 * f + m) ≤ gA S 47 (4 * f + q)
          · rw [if_pos c3]; exact ⟨q, rfl, by omega, q3⟩
          · rw [if_neg c3]; exact ⟨m, rfl, by omega, c⟩
        · rw [q1]; exact ⟨m, rfl, by omega, c⟩
theorem sm_shown {S : Ms} (h : INV S) {j : Nat} (hj : j < cn S 2) (d : Int32) : ∃ x, x < 16 ∧ vShown S (nI j) d = nI x ∧ (∀ t, x.testBit t = true → formA S (nI j) (nI t) d (gi S 1) ≠ 0) ∧ ∀ t, t < 4 → formA S (nI j) (nI t) d (gi S 1) ≠ 0 → 0 < x := by
  have hcl : (nI j).toNatClampNeg = j := nI_clamp (by have := h.1.2.1.2; omega)
  obtain ⟨⟨x, h1, h2, h3⟩, h4⟩ := shL_x (S := S) (f := j) (d := d) 4 (Nat.le_refl _)
  unfold vShown
  rw [hcl]
  by_cases c : (shL S j d 4).1 = 0
  · rw [if_neg (fun z => z c)]
    rcases h4 with ⟨q, q1, q2, q3⟩ | ⟨q1, q2⟩
    · rw [q1]
      refine ⟨2 ^ q, Nat.lt_of_lt_of_le (Nat.pow_lt_pow_right (by decide : 1 < 2) q2) (by decide), sh1 q (by omega), fun t ht => ?_, fun _ _ _ => Nat.two_pow_pos q⟩
      rw [Nat.testBit_two_pow] at ht
      rw [← of_decide_eq_true ht]; exact q3
    · rw [q1]
      exact ⟨0, by decide, rfl, fun t ht => by rw [Nat.zero_testBit] at ht; exact absurd ht (by decide), fun t ht hf => absurd (q2 t ht) hf⟩
  · rw [if_pos c]
    refine ⟨x, h1, h2, fun t ht => (h3 t ht).2, fun _ _ _ => ?_⟩
    rcases Nat.eq_zero_or_pos x with z | z
    · rw [h2, z] at c; exact absurd rfl c
    · exact z
theorem JW_pos {w : Int64} (h : JW w) (hn : w ≠ 0) : 0 < w := by
  obtain ⟨r, h1, rfl⟩ := h
  have h2 := h1.lt63 (Nat.le_refl _)
  rw [show (0 : Int64) = lN 0 from rfl, pk_lLT (by decide) h2]
  rcases Nat.eq_zero_or_pos (lv r) with z | z
  · rw [z] at hn; exact absurd rfl hn
  · exact z
theorem JW_isWd {w : Int64} (h : JW w) (hn : w ≠ 0) : isWd 12 w = true := by
  have hp := JW_pos h hn
  obtain ⟨r, h1, rfl⟩ := h
  unfold isWd
  rw [Bool.and_eq_true]
  refine ⟨decide_eq_true hp, ?_⟩
  rw [pk_lT (h1.lt63 (Nat.le_refl _))]
  exact (wN_iff 12 _).mpr ⟨r, h1, rfl⟩
theorem frL_t {S : Ms} {f : Nat} {w : Int64} {t : Nat} (h : formA S (nI f) (nI t) (gi S 1) (gi S 1) = w) : ∀ n, t < n → frL S f w n = true
  | 0, hn => absurd hn (Nat.not_lt_zero t)
  | n + 1, hn => by
    rw [frL]
    rcases Nat.lt_or_ge t n with z | z
    · rw [frL_t h n z]; rfl
    · rw [show n = t by omega, decide_eq_true h, Bool.or_true]
theorem sm_find {S : Ms} (h : INV S) {j : Nat} {w : Int64} (hj : j < cn S 2) (hf : frL S j w 4 = true) : ¬ vFind S w 0 0 0 < 0 := by
  have h24 := h.c2
  obtain ⟨a, ha, hb⟩ := awy_nI h hj (x := 0) (y := 0) (by decide) (by decide)
  have hk : ¬ rkA S w (nI 0) (nI 0) j ≤ -1 := by
    unfold rkA
    rw [if_pos (by rw [hf]; rfl), if_pos hf, ha, Int32.zero_add, show (100 : Int32) = nI 100 from rfl, pk_mul, nI_add]
    exact fun z => absurd (Int32.lt_of_lt_of_le (nI_gm1 (by omega)) z) Int32.lt_irrefl
  have h1 := (mnA_min (rk := rkA S w (nI 0) (nI 0)) (la := -1) (Int32.le_refl _) hj hk).1
  obtain ⟨k, k1, k2, k3⟩ := mnA_mem h1
  have e : fnA (rkA S w (nI 0) (nI 0)) (cn S 2) 1 = some (mnA (rkA S w (nI 0) (nI 0)) (-1) (cn S 2)) := by
    rw [fnA, fnA]
    dsimp only
    rw [if_neg h1]
  show ¬ vFind S w (nI 0) (nI 0) 0 < 0
  unfold vFind
  rw [show (0 : Int32).toNatClampNeg + 1 = 1 from rfl, e]
  dsimp only
  rw [← k2]
  obtain ⟨b, hb2, ⟨y1, -⟩ | ⟨e2, he, y1, -⟩⟩ := rk_sk h k1 (w := w) (x := 0) (y := 0) (by decide) (by decide)
  · rw [y1] at k3; exact absurd (Int32.le_refl _) k3
  · rw [y1, show (100 : Int32) = nI 100 from rfl, pk_rem (by omega) (by decide) (by decide)]
    exact nI_pos (by omega)
theorem c_find0 {S : Ms} {w : Int64} (hw : isWd 12 w = true) : cFind S w 0 0 0 = 0 := by
  unfold cFind
  rw [if_neg (by decide), hw]
  rfl
