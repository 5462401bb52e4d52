/-! ===== no way is there just where no cost is (by hand) ===== -/
def pcs (s : Nat) : Nat := ([0, 1, 1, 2, 1, 2, 2, 3, 1, 2, 2, 3, 2, 3, 3, 4] : List Nat)[s]?.getD 0
def WK (b l : Nat) (P : WL) (s : Nat) : Prop := ∃ w, P.1 s = nI w ∧ w ≤ b ∧ ((w = 0 ∧ P.2 s = -1) ∨ (0 < w ∧ ∃ y, y ≤ l ∧ P.2 s = nI y))
theorem WK.mono {b l b' l' : Nat} {P : WL} {s : Nat} (h : WK b l P s) (hb : b ≤ b') (hl : l ≤ l') : WK b' l' P s := by
  obtain ⟨w, h1, h2, h3⟩ := h
  refine ⟨w, h1, by omega, ?_⟩
  rcases h3 with z | ⟨z1, y, y1, y2⟩
  · exact Or.inl z
  · exact Or.inr ⟨z1, y, by omega, y2⟩
theorem WK.same {b l : Nat} {P Q : WL} {s : Nat} (h : WK b l P s) (h1 : Q.1 s = P.1 s) (h2 : Q.2 s = P.2 s) : WK b l Q s := by
  unfold WK; rw [h1, h2]; exact h
theorem nI_nm1 {n : Nat} (h : n < 2 ^ 31) : nI n ≠ -1 := fun z => absurd (show (-1 : Int32) < -1 from z ▸ nI_gm1 h) Int32.lt_irrefl
theorem jSo {P : WL} {s b : Nat} {c : Int32} {i : Nat} (h : i ≠ s) : (joS P s b c).1 i = P.1 i ∧ (joS P s b c).2 i = P.2 i := by
  unfold joS
  split
  · exact ⟨rfl, rfl⟩
  · exact ⟨if_neg h, if_neg h⟩
theorem joS_WK {P : WL} {s b B0 B1 l : Nat} {c : Int32} (hB : B0 + B1 < 2 ^ 30) (hl : l < 2 ^ 20) (hc : c = -1 ∨ ∃ z, z ≤ 60 ∧ c = nI z) (h : WK B1 (l + 60) P s) (hr : rs s b ≠ s → WK B0 l P (rs s b)) : WK (B1 + if rs s b = s then 0 else B0) (l + 60) (joS P s b c) s := by
  unfold joS
  by_cases c1 : c = -1 ∨ rs s b = s ∨ P.1 (rs s b) = 0
  · rw [if_pos c1]
    exact h.mono (by omega) (Nat.le_refl _)
  · rw [if_neg c1]
    have n1 : c ≠ -1 := fun z => c1 (Or.inl z)
    have n2 : rs s b ≠ s := fun z => c1 (Or.inr (Or.inl z))
    have n3 : P.1 (rs s b) ≠ 0 := fun z => c1 (Or.inr (Or.inr z))
    obtain ⟨w, h1, h2, h3⟩ := h
    obtain ⟨u, g1, g2, g3⟩ := hr n2
    obtain ⟨z, z1, z2⟩ := hc.resolve_left n1
    have hu : 0 < u := by
      rcases Nat.eq_zero_or_pos u with y | y
      · rw [g1, y] at n3; exact absurd rfl n3
      · exact y
    obtain ⟨y, y1, y2⟩ : ∃ y, y ≤ l ∧ P.2 (rs s b) = nI y := by
      rcases g3 with q | ⟨-, q⟩
      · omega
      · exact q
    rw [if_neg n2]
    refine ⟨w + u, ?_, by omega, Or.inr ⟨by omega, ?_⟩⟩
    · show pu P.1 s (P.1 s + P.1 (rs s b)) s = _
      unfold pu
      rw [if_pos rfl, h1, g1, nI_add]
    · show ∃ q, q ≤ l + 60 ∧ pu P.2 s (if P.2 s = -1 ∨ ¬ P.2 s ≤ P.2 (rs s b) + c then P.2 (rs s b) + c else P.2 s) s = nI q
      unfold pu
      rw [if_pos rfl, y2, z2, nI_add]
      by_cases c2 : P.2 s = -1 ∨ ¬ P.2 s ≤ nI (y + z)
      · rw [if_pos c2]; exact ⟨y + z, by omega, rfl⟩
      · rw [if_neg c2]
        rcases h3 with q | ⟨-, q⟩
        · exact absurd (Or.inl q.2) c2
        · exact q
theorem rs_16 : ∀ s, s < 16 → ∀ b, b < 4 → rs s b < 16 := by decide
theorem rs_lt : ∀ s, s < 16 → ∀ b, b < 4 → rs s b ≠ s → rs s b < s := by decide
theorem pw_le : ∀ n, n < 24 → ∀ s, s < 16 → n ^ pcs s + (if rs s 0 = s then 0 else n ^ pcs (rs s 0)) + (if rs s 1 = s then 0 else n ^ pcs (rs s 1)) + (if rs s 2 = s then 0 else n ^ pcs (rs s 2)) + (if rs s 3 = s then 0 else n ^ pcs (rs s 3)) ≤ (n + 1) ^ pcs s := by decide +kernel
theorem pw_lt : ∀ n, n < 25 → ∀ s, s < 16 → n ^ pcs s < 2 ^ 20 := by decide +kernel
theorem jo4_WK {P : WL} {s n : Nat} {c : Nat → Int32} (hn : n < 24) (hs : s < 16) (hc : ∀ b, c b = -1 ∨ ∃ z, z ≤ 60 ∧ c b = nI z) (h : ∀ i, i ≤ s → WK (n ^ pcs i) (60 * n) P i) : WK ((n + 1) ^ pcs s) (60 * n + 60) (jo4 P s c) s := by
  have p0 : ∀ i, i < 16 → n ^ pcs i < 2 ^ 20 := fun i hi => pw_lt n (by omega) i hi
  have r16 : ∀ b, b < 4 → rs s b < 16 := fun b hb => rs_16 s hs b hb
  have b0 := p0 s hs
  have q0 := p0 _ (r16 0 (by decide))
  have q1 := p0 _ (r16 1 (by decide))
  have q2 := p0 _ (r16 2 (by decide))
  have q3 := p0 _ (r16 3 (by decide))
  have e0 : WK (n ^ pcs s) (60 * n + 60) P s := (h s (Nat.le_refl _)).mono (Nat.le_refl _) (by omega)
  have hr : ∀ b, b < 4 → rs s b ≠ s → WK (n ^ pcs (rs s b)) (60 * n) P (rs s b) := fun b hb hne => h _ (Nat.le_of_lt (rs_lt s hs b hb hne))
  have i0 : ∀ x : Nat, (if rs s 0 = s then 0 else n ^ pcs (rs s 0)) ≤ n ^ pcs (rs s 0) := fun _ => by split <;> omega
  have i1 : ∀ x : Nat, (if rs s 1 = s then 0 else n ^ pcs (rs s 1)) ≤ n ^ pcs (rs s 1) := fun _ => by split <;> omega
  have i2 : ∀ x : Nat, (if rs s 2 = s then 0 else n ^ pcs (rs s 2)) ≤ n ^ pcs (rs s 2) := fun _ => by split <;> omega
  have j0 := i0 0
  have j1 := i1 0
  have j2 := i2 0
  unfold jo4
  have e1 := joS_WK (b := 0) (c := c 0) (by omega) (by omega) (hc 0) e0 (hr 0 (by decide))
  have e2 := joS_WK (b := 1) (c := c 1) (by omega) (by omega) (hc 1) e1 (fun hne => (hr 1 (by decide) hne).same (jSo hne).1 (jSo hne).2)
  have e3 := joS_WK (b := 2) (c := c 2) (by omega) (by omega) (hc 2) e2 (fun hne => ((hr 2 (by decide) hne).same (jSo hne).1 (jSo hne).2).same (jSo hne).1 (jSo hne).2)
  have e4 := joS_WK (b := 3) (c := c 3) (by omega) (by omega) (hc 3) e3 (fun hne => (((hr 3 (by decide) hne).same (jSo hne).1 (jSo hne).2).same (jSo hne).1 (jSo hne).2).same (jSo hne).1 (jSo hne).2)
  exact e4.mono (pw_le n hn s hs) (Nat.le_refl _)
theorem j4o {P : WL} {s : Nat} {c : Nat → Int32} {i : Nat} (h : i ≠ s) : (jo4 P s c).1 i = P.1 i ∧ (jo4 P s c).2 i = P.2 i := by
  unfold jo4
  exact ⟨(jSo h).1.trans ((jSo h).1.trans ((jSo h).1.trans (jSo h).1)), (jSo h).2.trans ((jSo h).2.trans ((jSo h).2.trans (jSo h).2))⟩
theorem asF_WK {n : Nat} {c : Nat → Int32} (hn : n < 24) (hc : ∀ b, c b = -1 ∨ ∃ z, z ≤ 60 ∧ c b = nI z) : ∀ m, m < 16 → ∀ P : WL, (∀ i, i ≤ m → WK (n ^ pcs i) (60 * n) P i) → (∀ i, m < i → i < 16 → WK ((n + 1) ^ pcs i) (60 * n + 60) P i) → ∀ i, i < 16 → WK ((n + 1) ^ pcs i) (60 * n + 60) (asF c P m) i
  | 0, _, P, h1, h2, i, hi => by
    show WK _ _ P i
    rcases Nat.eq_zero_or_pos i with z | z
    · subst z; exact (h1 0 (Nat.le_refl _)).mono (Nat.le_refl _) (by omega)
    · exact h2 i z hi
  | m + 1, hm, P, h1, h2, i, hi => by
    rw [asF]
    refine asF_WK hn hc m (by omega) _ (fun k hk => ?_) (fun k hk hk2 => ?_) i hi
    · have hne : k ≠ m + 1 := by omega
      exact (h1 k (by omega)).same (j4o hne).1 (j4o hne).2
    · by_cases e : k = m + 1
      · subst e; exact jo4_WK hn hm hc h1
      · exact (h2 k (by omega) hk2).same (j4o e).1 (j4o e).2
theorem cstL_x {S : Ms} (h : INV S) {rd f : Nat} (hr : rd < cn S 51) : ∀ n, n ≤ cn S 17 → cstL S rd f n = -1 ∨ ∃ l, l ≤ 16 ∧ cstL S rd f n = nI l
  | 0, _ => Or.inl rfl
  | n + 1, hn => by
    have ih := cstL_x h hr (f := f) n (by omega)
    have w1 := (h.2.2.2.2.2.2.2.2.2.1 rd hr).1
    have w2 := (h.2.2.2.1 n (by omega)).2.2.2.1
    have hl := lev_le (wr (gL S 52 rd)) (wr (gL S 20 n))
    have l1 := w1.1.1
    have l2 := w2.1.1
    rw [cstL]
    split
    · split
      · exact Or.inr ⟨_, by omega, rfl⟩
      · exact ih
    · exact ih
theorem cst_x {S : Ms} (h : INV S) {rd f : Nat} (hr : rd < cn S 51) (hf : f < cn S 2) : cstA S rd f = -1 ∨ ∃ z, z ≤ 60 ∧ cstA S rd f = nI z := by
  obtain ⟨w1, a53, a54⟩ := h.2.2.2.2.2.2.2.2.2.1 rd hr
  obtain ⟨a, ha, hb⟩ := awy_nI h hf a53.2 a54.2
  unfold cstA
  split
  · exact Or.inl rfl
  rename_i c1
  rcases cstL_x h hr (f := f) (cn S 17) (Nat.le_refl _) with z | ⟨l, l1, l2⟩
  · exact absurd (Or.inl z) c1
  · rw [l2, a53.1, a54.1, ha, show (10 : Int32) = nI 10 from rfl, pk_mul, nI_add]
    split
    · exact Or.inl rfl
    · rename_i c2
      rw [show (60 : Int32) = nI 60 from rfl, nI_ltI (by decide) (by omega)] at c2
      exact Or.inr ⟨_, by omega, rfl⟩
theorem asA_WK {S : Ms} (h : INV S) : ∀ n, n ≤ cn S 2 → ∀ i, i < 16 → WK (n ^ pcs i) (60 * n) (asA S n) i
  | 0, _, i, hi => by
    rcases Nat.eq_zero_or_pos i with z | z
    · subst z; exact ⟨1, rfl, by decide, Or.inr ⟨by decide, 0, by decide, rfl⟩⟩
    · exact ⟨0, if_neg (by omega), Nat.zero_le _, Or.inl ⟨rfl, if_neg (by omega)⟩⟩
  | n + 1, hn, i, hi => by
    have h24 := h.c2
    have ih := asA_WK h n (by omega)
    rw [asA]
    have hc : ∀ b, csv S n b = -1 ∨ ∃ z, z ≤ 60 ∧ csv S n b = nI z := by
      intro b
      unfold csv
      split
      · rename_i hb; exact cst_x h hb (by omega)
      · exact Or.inl rfl
    have := asF_WK (n := n) (by omega) hc 15 (by decide) (asA S n) (fun i hi => ih i (by omega)) (fun i h1 h2 => by omega) i hi
    rw [show 60 * (n + 1) = 60 * n + 60 by omega]
    exact this
theorem sm_ways {S : Ms} (h : INV S) : vWays S = 0 ∧ vAssign S = -1 ∨ vWays S ≠ 0 ∧ vAssign S ≠ -1 := by
  have h24 := h.c2
  have h51 := h.1.2.2.2.2.2.2.1.2
  have hi : 2 ^ cn S 51 - 1 < 16 := by
    have : ∀ k, k ≤ 4 → 2 ^ k - 1 < 16 := by decide
    exact this _ h51
  obtain ⟨w, h1, h2, h3⟩ := asA_WK h (cn S 2) (Nat.le_refl _) _ hi
  have hp := pw_lt (cn S 2) (by omega) _ hi
  unfold vWays vAssign
  rcases h3 with ⟨z1, z2⟩ | ⟨z1, y, y1, y2⟩
  · exact Or.inl ⟨by rw [h1, z1]; rfl, z2⟩
  · refine Or.inr ⟨by rw [h1]; exact nI_ne0 z1 (by omega), by rw [y2]; exact nI_nm1 (by omega)⟩
