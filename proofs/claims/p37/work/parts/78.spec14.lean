def rkOK (rk : Nat → Int32) (nF : Nat) : Prop := (∀ k, k < nF → rk k = -1 ∨ -1 < rk k) ∧ ∀ j k, j < nF → k < nF → j ≠ k → -1 < rk j → rk j ≠ rk k
theorem mnA_min {rk : Nat → Int32} {la : Int32} (hla : -1 ≤ la) : ∀ {n k : Nat}, k < n → ¬ rk k ≤ la → mnA rk la n ≠ -1 ∧ mnA rk la n ≤ rk k
  | 0, k, h, _ => absurd h (Nat.not_lt_zero k)
  | n + 1, k, h, hk => by
    rw [mnA]
    by_cases c : ¬ rk n ≤ la ∧ (mnA rk la n = -1 ∨ ¬ mnA rk la n ≤ rk n)
    · rw [if_pos c]
      refine ⟨fun z => c.1 (by rw [z]; exact hla), ?_⟩
      rcases Nat.lt_or_ge k n with z | z
      · obtain ⟨i1, i2⟩ := mnA_min hla z hk
        rcases c.2 with y | y
        · exact absurd y i1
        · exact Int32.le_trans (Int32.le_of_lt (Int32.not_le.mp y)) i2
      · rw [show k = n by omega]; exact Int32.le_refl _
    · rw [if_neg c]
      rcases Nat.lt_or_ge k n with z | z
      · exact mnA_min hla z hk
      · have e : k = n := by omega
        subst e
        by_cases y : mnA rk la k = -1
        · exact absurd ⟨hk, Or.inl y⟩ c
        · refine ⟨y, ?_⟩
          by_cases q : mnA rk la k ≤ rk k
          · exact q
          · exact absurd ⟨hk, Or.inr q⟩ c
theorem cLe_next {rk : Nat → Int32} {la lb : Int32} {k0 : Nat} (hk : rk k0 = lb) (h1 : ¬ lb ≤ la) (h2 : -1 < lb) : ∀ {n : Nat}, (∀ j, j < n → j ≠ k0 → rk j ≠ lb) → (∀ j, j < n → ¬ rk j ≤ la → lb ≤ rk j) → cLe rk lb n = cLe rk la n + if k0 < n then 1 else 0
  | 0, _, _ => rfl
  | n + 1, hd, hm => by
    have ih := cLe_next hk h1 h2 (n := n) (fun j hj => hd j (by omega)) (fun j hj => hm j (by omega))
    rw [cLe, cLe, ih]
    by_cases e : n = k0
    · subst e
      rw [hk, if_neg (Nat.lt_irrefl n), if_pos (show -1 < lb ∧ lb ≤ lb from ⟨h2, Int32.le_refl _⟩), if_neg (fun z : -1 < lb ∧ lb ≤ la => h1 z.2), if_pos (show n < n + 1 by omega)]
    · have hx : (-1 < rk n ∧ rk n ≤ lb) ↔ (-1 < rk n ∧ rk n ≤ la) := by
        constructor
        · rintro ⟨q1, q2⟩
          refine ⟨q1, ?_⟩
          by_cases c : rk n ≤ la
          · exact c
          · exact absurd (Int32.le_antisymm q2 (hm n (by omega) c)) (hd n (by omega) e)
        · rintro ⟨q1, q2⟩
          exact ⟨q1, Int32.le_trans q2 (Int32.le_of_lt (Int32.not_le.mp h1))⟩
      by_cases c : -1 < rk n ∧ rk n ≤ la
      · rw [if_pos (hx.mpr c), if_pos c]
        by_cases d : k0 < n
        · rw [if_pos d, if_pos (by omega)]
        · rw [if_neg d, if_neg (by omega)]
      · rw [if_neg (fun z => c (hx.mp z)), if_neg c]
        by_cases d : k0 < n
        · rw [if_pos d, if_pos (by omega)]
        · rw [if_neg d, if_neg (by omega)]
theorem fnA_ex {rk : Nat → Int32} {nF : Nat} (hO : rkOK rk nF) : ∀ {n : Nat} {la : Int32}, fnA rk nF n = some la → cLe rk la nF = n ∧ -1 ≤ la ∧ (0 < n → ∃ k, k < nF ∧ rk k = la ∧ -1 < la)
  | 0, la, h => by
    cases h
    refine ⟨?_, Int32.le_refl _, fun h => absurd h (Nat.lt_irrefl _)⟩
    have : ∀ m, cLe rk (-1) m = 0 := by
      intro m
      induction m with
      | zero => rfl
      | succ m ih => rw [cLe, ih, if_neg (fun z => Int32.lt_irrefl (Int32.lt_of_lt_of_le z.1 z.2))]
    exact this nF
  | n + 1, la, h => by
    rw [fnA] at h
    rcases ho : fnA rk nF n with _ | lb
    · rw [ho] at h; cases h
    · rw [ho] at h
      dsimp only at h
      by_cases c : mnA rk lb nF = -1
      · rw [if_pos c] at h; cases h
      · rw [if_neg c] at h
        cases h
        obtain ⟨i1, i2, -⟩ := fnA_ex hO ho
        obtain ⟨k, h1, h2, h3⟩ := mnA_mem c
        have h5 : -1 < mnA rk lb nF := Int32.lt_of_le_of_lt i2 (Int32.not_le.mp (by rw [← h2]; exact h3))
        refine ⟨?_, Int32.le_of_lt h5, fun _ => ⟨k, h1, h2, h5⟩⟩
        rw [cLe_next (k0 := k) h2 (by rw [← h2]; exact h3) h5 (fun j hj hjk => ?_) (fun j hj hl => (mnA_min i2 hj hl).2), i1, if_pos h1]
        intro z
        exact hO.2 j k hj h1 hjk (by rw [z]; exact h5) (by rw [z, h2])
theorem fnA_no {rk : Nat → Int32} {nF : Nat} (hO : rkOK rk nF) : ∀ {n : Nat}, fnA rk nF n = none → ∀ v, cLe rk v nF < n
  | 0, h, _ => nomatch h
  | n + 1, h, v => by
    rw [fnA] at h
    rcases ho : fnA rk nF n with _ | lb
    · have := fnA_no hO ho v; omega
    · rw [ho] at h
      dsimp only at h
      by_cases c : mnA rk lb nF = -1
      · obtain ⟨i1, i2, -⟩ := fnA_ex hO ho
        have key : ∀ m, m ≤ nF → cLe rk v m ≤ cLe rk lb m := by
          intro m
          induction m with
          | zero => intro _; exact Nat.le_refl _
          | succ m ih =>
            intro hm
            have ih := ih (by omega)
            rw [cLe, cLe]
            by_cases d : -1 < rk m ∧ rk m ≤ v
            · have hl : rk m ≤ lb := by
                by_cases e : rk m ≤ lb
                · exact e
                · exact absurd c (mnA_min i2 (show m < nF by omega) e).1
              rw [if_pos d, if_pos ⟨d.1, hl⟩]; omega
            · rw [if_neg d]; omega
        have := key nF (Nat.le_refl _)
        omega
      · rw [if_neg c] at h; cases h
def ordK (rk g : Nat → Int32) (nF : Nat) : Prop := (∀ k, k < nF → (g k = -1 ↔ ¬ -1 < rk k)) ∧ ∀ j k, j < nF → k < nF → -1 < rk j → -1 < rk k → (g j < g k ↔ rk j < rk k)
theorem cfA_cLe {rk g : Nat → Int32} {nF : Nat} (hO : rkOK rk nF) (hK : ordK rk g nF) {i : Nat} (hi : i < nF) (hr : -1 < rk i) : ∀ n, n ≤ nF → cfA g (g i) n + (if i < n then 1 else 0) = cLe rk (rk i) n
  | 0, _ => rfl
  | n + 1, hn => by
    have ih := cfA_cLe hO hK hi hr n (by omega)
    rw [cfA, cLe, ← ih]
    by_cases e : n = i
    · subst e
      rw [if_neg (fun z : ¬ g n = -1 ∧ ¬ g n ≤ g n => z.2 (Int32.le_refl _)), if_neg (Nat.lt_irrefl n), if_pos (show -1 < rk n ∧ rk n ≤ rk n from ⟨hr, Int32.le_refl _⟩), if_pos (show n < n + 1 by omega)]
      first | done | rfl
    · have hx : (¬ g n = -1 ∧ ¬ g i ≤ g n) ↔ (-1 < rk n ∧ rk n ≤ rk i) := by
        constructor
        · rintro ⟨q1, q2⟩
          have q3 : -1 < rk n := by
            by_cases c : -1 < rk n
            · exact c
            · exact absurd ((hK.1 n (by omega)).mpr c) q1
          exact ⟨q3, Int32.le_of_lt ((hK.2 n i (by omega) hi q3 hr).mp (Int32.not_le.mp q2))⟩
        · rintro ⟨q1, q2⟩
          refine ⟨fun z => ((hK.1 n (by omega)).mp z) q1, Int32.not_le.mpr ((hK.2 n i (by omega) hi q1 hr).mpr ?_)⟩
          by_cases c : rk i ≤ rk n
          · exact absurd (Int32.le_antisymm q2 c) (hO.2 n i (by omega) hi e q1)
          · exact Int32.not_le.mp c
      by_cases c : ¬ g n = -1 ∧ ¬ g i ≤ g n
      · rw [if_pos c, if_pos (hx.mp c)]
        by_cases d : i < n
        · rw [if_pos d, if_pos (by omega)]
        · rw [if_neg d, if_neg (by omega)]
      · rw [if_neg c, if_neg (fun z => c (hx.mpr z))]
        by_cases d : i < n
        · rw [if_pos d, if_pos (by omega)]
        · rw [if_neg d, if_neg (by omega)]
theorem fn_found {rk g : Nat → Int32} {nF : Nat} (hO : rkOK rk nF) (hK : ordK rk g nF) {i r : Nat} (hi : i < nF) (hg : ¬ g i = -1) (hc : cfA g (g i) nF = r) : fnA rk nF (r + 1) = some (rk i) := by
  have hr : -1 < rk i := by
    by_cases c : -1 < rk i
    · exact c
    · exact absurd ((hK.1 i hi).mpr c) hg
  have h1 := cfA_cLe hO hK hi hr nF (Nat.le_refl _)
  rw [hc, if_pos hi] at h1
  rcases ho : fnA rk nF (r + 1) with _ | la
  · have := fnA_no hO ho (rk i); omega
  · obtain ⟨h2, h3, h4⟩ := fnA_ex hO ho
    obtain ⟨k, h5, h6, h7⟩ := h4 (by omega)
    by_cases e : k = i
    · rw [← h6, e]
    · exfalso
      have hne : rk k ≠ rk i := hO.2 k i h5 hi e (by rw [h6]; exact h7)
      rcases Int32.lt_or_lt_of_ne hne with z | z
      · have := cLe_lt (rk := rk) (Int32.le_of_lt z) rfl (Int32.not_le.mpr z) hr nF hi
        rw [h6] at this; omega
      · have := cLe_lt (rk := rk) (Int32.le_of_lt z) rfl (Int32.not_le.mpr z) (by rw [h6]; exact h7) nF h5
        rw [h6] at this; omega
theorem fn_none {rk g : Nat → Int32} {nF : Nat} (hO : rkOK rk nF) (hK : ordK rk g nF) {r : Nat} (h : ∀ i, i < nF → ¬ g i = -1 → cfA g (g i) nF ≠ r) : fnA rk nF (r + 1) = none := by
  rcases ho : fnA rk nF (r + 1) with _ | la
  · rfl
  · exfalso
    obtain ⟨h2, h3, h4⟩ := fnA_ex hO ho
    obtain ⟨k, h5, h6, h7⟩ := h4 (by omega)
    have hr : -1 < rk k := by rw [h6]; exact h7
    have h1 := cfA_cLe hO hK h5 hr nF (Nat.le_refl _)
    rw [if_pos h5, h6, h2] at h1
    exact h k h5 (fun z => ((hK.1 k h5).mp z) hr) (by omega)
theorem ab_99a : ∀ u, u < 100 → ∀ v, v < 100 → abI (nI u - nI v) = nI (abI (nI u - nI v)).toNatClampNeg ∧ (abI (nI u - nI v)).toNatClampNeg ≤ 99 := by decide +kernel
theorem ab_99 (u : Nat) (hu : u < 100) (v : Nat) (hv : v < 100) : ∃ c, abI (nI u - nI v) = nI c ∧ c ≤ 99 := ⟨_, (ab_99a u hu v hv).1, (ab_99a u hu v hv).2⟩
theorem awy_nI {S : Ms} (hV : INV S) {f : Nat} (hf : f < cn S 2) {x y : Nat} (hx : x ≤ 99) (hy : y ≤ 99) : ∃ a, awyA S f (nI x) (nI y) = nI a ∧ a ≤ 198 := by
  obtain ⟨q, h1, h2⟩ := plA_ex hV hf
  have hv := (hV.2.1 f hf).2.2.2.2.2.1 q h2
  obtain ⟨c1, e1, b1⟩ := ab_99 _ (Nat.lt_succ_of_le hv.1.2) x (Nat.lt_succ_of_le hx)
  obtain ⟨c2, e2, b2⟩ := ab_99 _ (Nat.lt_succ_of_le hv.2.1.2) y (Nat.lt_succ_of_le hy)
  refine ⟨c1 + c2, ?_, by omega⟩
  unfold awyA
  rw [h1]
  dsimp only
  rw [hv.1.1, hv.2.1.1, e1, e2, nI_add]
