def atW (P : WL) (t : Nat) : Int32 × Int32 := (P.1 t, P.2 t)
def jv (c : Int32) (v a : Int32 × Int32) : Int32 × Int32 := if c = -1 ∨ a.1 = 0 then v else (v.1 + a.1, if v.2 = -1 ∨ ¬ v.2 ≤ a.2 + c then a.2 + c else v.2)
def gv (C : Nat → Int32) (P : WL) (t : Nat) : Nat → Int32 × Int32
  | 0 => atW P t
  | b + 1 => if t.testBit b = true then jv (C b) (gv C P t b) (atW P (t - 2 ^ b)) else gv C P t b
theorem gv_congr {C D : Nat → Int32} {P Q : WL} (hC : ∀ b, b < 4 → C b = D b) (h : eq16 P Q) {t : Nat} (ht : t < 16) : ∀ k, k ≤ 4 → gv C P t k = gv D Q t k
  | 0, _ => Prod.ext (h t ht).1 (h t ht).2
  | k + 1, hk => by
    have e : atW P (t - 2 ^ k) = atW Q (t - 2 ^ k) := Prod.ext (h _ (Nat.lt_of_le_of_lt (Nat.sub_le t (2 ^ k)) ht)).1 (h _ (Nat.lt_of_le_of_lt (Nat.sub_le t (2 ^ k)) ht)).2
    rw [gv, gv, gv_congr hC h ht k (by omega), hC k (by omega), e]
theorem joS_o {P : WL} {s b t : Nat} {c : Int32} (h : t ≠ s) : atW (joS P s b c) t = atW P t := by
  unfold joS
  split
  · rfl
  · unfold atW pu
    dsimp only
    rw [if_neg h, if_neg h]
theorem joS_s {P : WL} {s b : Nat} {c : Int32} (hb : s.testBit b = true → s - 2 ^ b ≠ s) : atW (joS P s b c) s = if s.testBit b = true then jv c (atW P s) (atW P (s - 2 ^ b)) else atW P s := by
  unfold joS rs jv
  by_cases h : s.testBit b = true
  · rw [if_pos h, if_pos h]
    by_cases c1 : c = -1 ∨ P.1 (s - 2 ^ b) = 0
    · rw [if_pos (c1.elim Or.inl (fun z => Or.inr (Or.inr z)))]
      rw [if_pos (show c = -1 ∨ (atW P (s - 2 ^ b)).1 = 0 from c1)]
    · rw [if_neg (fun z => z.elim (fun y => c1 (Or.inl y)) (fun y => y.elim (hb h) (fun q => c1 (Or.inr q))))]
      rw [if_neg (show ¬ (c = -1 ∨ (atW P (s - 2 ^ b)).1 = 0) from c1)]
      unfold atW pu
      dsimp only
      rw [if_pos rfl, if_pos rfl]
  · rw [if_neg h, if_neg h, if_pos (Or.inr (Or.inl rfl))]
theorem bit_lt : ∀ s, s < 16 → ∀ b, b < 4 → s.testBit b = true → s - 2 ^ b ≠ s ∧ s - 2 ^ b < s := by decide +kernel
theorem jo4_o {P : WL} {s t : Nat} {c : Nat → Int32} (h : t ≠ s) : atW (jo4 P s c) t = atW P t := by
  unfold jo4
  rw [joS_o h, joS_o h, joS_o h, joS_o h]
theorem jo4_s {P : WL} {s : Nat} {c : Nat → Int32} (hs : s < 16) : atW (jo4 P s c) s = gv c P s 4 := by
  have hb : ∀ b, b < 4 → s.testBit b = true → s - 2 ^ b ≠ s := fun b h1 h2 => (bit_lt s hs b h1 h2).1
  have e : ∀ b, b < 4 → ∀ Q : WL, (∀ t, t ≠ s → atW Q t = atW P t) → atW (joS Q s b (c b)) s = if s.testBit b = true then jv (c b) (atW Q s) (atW P (s - 2 ^ b)) else atW Q s := by
    intro b h1 Q hQ
    rw [joS_s (hb b h1)]
    by_cases h : s.testBit b = true
    · rw [if_pos h, if_pos h, hQ _ (hb b h1 h)]
    · rw [if_neg h, if_neg h]
  unfold jo4
  rw [e 3 (by decide) _ (fun t ht => by rw [joS_o ht, joS_o ht, joS_o ht]), e 2 (by decide) _ (fun t ht => by rw [joS_o ht, joS_o ht]), e 1 (by decide) _ (fun t ht => by rw [joS_o ht]), e 0 (by decide) _ (fun t _ => rfl)]
  rfl
theorem asF_gv {C : Nat → Int32} {P : WL} : ∀ {m : Nat} {Q : WL}, m < 16 → (∀ t, t ≤ m → atW Q t = atW P t) → (∀ t, m < t → t < 16 → atW Q t = gv C P t 4) → ∀ t, t < 16 → atW (asF C Q m) t = gv C P t 4
  | 0, Q, _, h1, h2, t, ht => by
    rcases Nat.eq_zero_or_pos t with z | z
    · subst z; exact h1 0 (Nat.le_refl _)
    · exact h2 t z ht
  | m + 1, Q, hm, h1, h2, t, ht => by
    refine asF_gv (m := m) (Q := jo4 Q (m + 1) C) (by omega) (fun t h => ?_) (fun t h h3 => ?_) t ht
    · rw [jo4_o (by omega)]; exact h1 t (by omega)
    · by_cases e : t = m + 1
      · subst e
        rw [jo4_s hm]
        have hb : ∀ b, b < 4 → (m + 1).testBit b = true → atW Q (m + 1 - 2 ^ b) = atW P (m + 1 - 2 ^ b) := fun b q1 q2 => h1 _ (Nat.le_of_lt (bit_lt (m + 1) hm b q1 q2).2)
        have key : ∀ k, k ≤ 4 → gv C Q (m + 1) k = gv C P (m + 1) k := by
          intro k
          induction k with
          | zero => intro _; exact h1 _ (Nat.le_refl _)
          | succ k ih =>
            intro hk
            rw [gv, gv, ih (by omega)]
            by_cases c : (m + 1).testBit k = true
            · rw [if_pos c, if_pos c, hb k (by omega) c]
            · rw [if_neg c, if_neg c]
        exact key 4 (Nat.le_refl _)
      · rw [jo4_o e]; exact h2 t (by omega) h3
def frB (m r : Nat) : Bool := !m.testBit r
theorem fr_iff : ∀ m, m < 16 → ∀ r, r < 4 → ((nI m &&& (1 <<< (nI r &&& 31))) = 0 ↔ frB m r = true) ∧ (frB m r = true → m + 2 ^ r < 16 ∧ m + 2 ^ r ≠ m) := by decide +kernel
theorem stp_o {C : Nat → Int32} {S : WL} {m r t : Nat} (h : ¬ (frB m r = true ∧ t = m + 2 ^ r)) (hm : m < 16) (hr : r < 4) : atW (stp C S m r) t = atW S t := by
  unfold stp
  by_cases c : (nI m &&& (1 <<< (nI r &&& 31))) = 0 ∧ ¬ C r = -1 ∧ ¬ S.1 m ≤ 0
  · rw [if_pos c]
    have hf := ((fr_iff m hm r hr).1).mp c.1
    have ht : t ≠ m + 2 ^ r := fun z => h ⟨hf, z⟩
    unfold exS
    split <;> (unfold atW pu; dsimp only; rw [if_neg ht])
    rw [if_neg ht]
  · rw [if_neg c]
theorem stp_s {C : Nat → Int32} {S : WL} {m r : Nat} (h : frB m r = true) (hm : m < 16) (hr : r < 4) (h0 : ¬ S.1 m < 0) : atW (stp C S m r) (m + 2 ^ r) = jv (C r) (atW S (m + 2 ^ r)) (atW S m) := by
  unfold stp jv
  have h1 := ((fr_iff m hm r hr).1).mpr h
  by_cases c : C r = -1 ∨ S.1 m = 0
  · rw [if_pos (show C r = -1 ∨ (atW S m).1 = 0 from c), if_neg]
    rintro ⟨-, q1, q2⟩
    rcases c with z | z
    · exact q1 z
    · exact q2 (by rw [z]; exact Int32.le_refl _)
  · rw [if_neg (show ¬ (C r = -1 ∨ (atW S m).1 = 0) from c), if_pos ⟨h1, fun z => c (Or.inl z), fun z => c (Or.inr (Int32.le_antisymm z (Int32.not_lt.mp h0)))⟩]
    unfold exS
    by_cases c2 : S.2 (m + 2 ^ r) = -1 ∨ ¬ S.2 (m + 2 ^ r) ≤ S.2 m + C r
    · rw [if_pos c2]
      unfold atW pu
      dsimp only
      rw [if_pos rfl, if_pos rfl, if_pos c2]
    · rw [if_neg c2]
      unfold atW pu
      dsimp only
      rw [if_pos rfl, if_neg c2]
def hvG (C : Nat → Int32) (m t : Nat) (a v : Int32 × Int32) : Nat → Int32 × Int32
  | 0 => v
  | r + 1 => if (frB m r && decide (t = m + 2 ^ r)) = true then jv (C r) (hvG C m t a v r) a else hvG C m t a v r
theorem afI_at {C : Nat → Int32} {Q : WL} {m : Nat} (hm : m < 16) (h0 : ¬ Q.1 m < 0) : ∀ k, k ≤ 4 → atW (afI C Q m k) m = atW Q m ∧ ∀ t, atW (afI C Q m k) t = hvG C m t (atW Q m) (atW Q t) k
  | 0, _ => ⟨rfl, fun _ => rfl⟩
  | k + 1, hk => by
    obtain ⟨i1, i2⟩ := afI_at (C := C) hm h0 k (by omega)
    have hne : ¬ (frB m k = true ∧ m = m + 2 ^ k) := fun z => ((fr_iff m hm k (by omega)).2 z.1).2 z.2.symm
    refine ⟨by rw [afI, stp_o hne hm (by omega)]; exact i1, fun t => ?_⟩
    rw [afI, hvG]
    by_cases c : frB m k = true ∧ t = m + 2 ^ k
    · rw [if_pos (by rw [c.1, decide_eq_true c.2]; rfl), c.2, stp_s c.1 hm (by omega) (by rw [show (afI C Q m k).1 m = Q.1 m from congrArg Prod.fst i1]; exact h0), i1, i2]
    · rw [if_neg (fun z => c (by rw [Bool.and_eq_true, decide_eq_true_iff] at z; exact z)), stp_o c hm (by omega)]; exact i2 t
def qB (t m b : Nat) : Bool := t.testBit b && decide (m ≤ t - 2 ^ b)
def gq (C : Nat → Int32) (P : WL) (t m : Nat) : Nat → Int32 × Int32
  | 0 => atW P t
  | b + 1 => if qB t m b = true then jv (C b) (gq C P t m b) (atW P (t - 2 ^ b)) else gq C P t m b
def hB (m t r : Nat) : Bool := frB m r && decide (t = m + 2 ^ r)
theorem q_n : ∀ t, t < 16 → ∀ m, m < 16 → (hB m t 0 || hB m t 1 || hB m t 2 || hB m t 3) = false → qB t m 0 = qB t (m + 1) 0 ∧ qB t m 1 = qB t (m + 1) 1 := by decide +kernel
theorem q_n2 : ∀ t, t < 16 → ∀ m, m < 16 → (hB m t 0 || hB m t 1 || hB m t 2 || hB m t 3) = false → qB t m 2 = qB t (m + 1) 2 ∧ qB t m 3 = qB t (m + 1) 3 := by decide +kernel
theorem q_0 : ∀ t, t < 16 → ∀ m, m < 16 → hB m t 0 = true → hB m t 1 = false ∧ hB m t 2 = false ∧ hB m t 3 = false ∧ t - 2 ^ 0 = m := by decide +kernel
theorem q_0b : ∀ t, t < 16 → ∀ m, m < 16 → hB m t 0 = true → qB t m 0 = true ∧ qB t (m + 1) 0 = false ∧ qB t m 1 = false ∧ qB t (m + 1) 1 = false := by decide +kernel
theorem q_0c : ∀ t, t < 16 → ∀ m, m < 16 → hB m t 0 = true → qB t m 2 = false ∧ qB t (m + 1) 2 = false ∧ qB t m 3 = false ∧ qB t (m + 1) 3 = false := by decide +kernel
theorem q_1 : ∀ t, t < 16 → ∀ m, m < 16 → hB m t 1 = true → hB m t 0 = false ∧ hB m t 2 = false ∧ hB m t 3 = false ∧ t - 2 ^ 1 = m := by decide +kernel
theorem q_1b : ∀ t, t < 16 → ∀ m, m < 16 → hB m t 1 = true → qB t m 0 = qB t (m + 1) 0 ∧ qB t m 1 = true ∧ qB t (m + 1) 1 = false ∧ qB t m 2 = false ∧ qB t (m + 1) 2 = false ∧ qB t m 3 = false ∧ qB t (m + 1) 3 = false := by decide +kernel
theorem q_2 : ∀ t, t < 16 → ∀ m, m < 16 → hB m t 2 = true → hB m t 0 = false ∧ hB m t 1 = false ∧ hB m t 3 = false ∧ t - 2 ^ 2 = m := by decide +kernel
theorem q_2b : ∀ t, t < 16 → ∀ m, m < 16 → hB m t 2 = true → qB t m 0 = qB t (m + 1) 0 ∧ qB t m 1 = qB t (m + 1) 1 ∧ qB t m 2 = true ∧ qB t (m + 1) 2 = false ∧ qB t m 3 = false ∧ qB t (m + 1) 3 = false := by decide +kernel
theorem q_3 : ∀ t, t < 16 → ∀ m, m < 16 → hB m t 3 = true → hB m t 0 = false ∧ hB m t 1 = false ∧ hB m t 2 = false ∧ t - 2 ^ 3 = m := by decide +kernel
theorem q_3b : ∀ t, t < 16 → ∀ m, m < 16 → hB m t 3 = true → qB t m 0 = qB t (m + 1) 0 ∧ qB t m 1 = qB t (m + 1) 1 ∧ qB t m 2 = qB t (m + 1) 2 ∧ qB t m 3 = true ∧ qB t (m + 1) 3 = false := by decide +kernel
theorem gq_step {C : Nat → Int32} {P : WL} {t m : Nat} (ht : t < 16) (hm : m < 16) : hvG C m t (atW P m) (gq C P t (m + 1) 4) 4 = gq C P t m 4 := by
  have hv : ∀ a v, hvG C m t a v 4 = if hB m t 3 = true then jv (C 3) (if hB m t 2 = true then jv (C 2) (if hB m t 1 = true then jv (C 1) (if hB m t 0 = true then jv (C 0) v a else v) a else (if hB m t 0 = true then jv (C 0) v a else v)) a else (if hB m t 1 = true then jv (C 1) (if hB m t 0 = true then jv (C 0) v a else v) a else (if hB m t 0 = true then jv (C 0) v a else v))) a else (if hB m t 2 = true then jv (C 2) (if hB m t 1 = true then jv (C 1) (if hB m t 0 = true then jv (C 0) v a else v) a else (if hB m t 0 = true then jv (C 0) v a else v)) a else (if hB m t 1 = true then jv (C 1) (if hB m t 0 = true then jv (C 0) v a else v) a else (if hB m t 0 = true then jv (C 0) v a else v))) := fun a v => rfl
  rw [hv]
  have g1 : ∀ n b, gq C P t n (b + 1) = if qB t n b = true then jv (C b) (gq C P t n b) (atW P (t - 2 ^ b)) else gq C P t n b := fun n b => rfl
  have g0 : ∀ n, gq C P t n 0 = atW P t := fun n => rfl
  have nt : ¬ (false = true) := Bool.false_ne_true
  by_cases h0 : hB m t 0 = true
  · obtain ⟨a1, a2, a3, e⟩ := q_0 t ht m hm h0
    obtain ⟨b0, d0, b1, d1⟩ := q_0b t ht m hm h0
    obtain ⟨b2, d2, b3, d3⟩ := q_0c t ht m hm h0
    rw [h0, a1, a2, a3]
    simp only [g1, g0, b0, b1, b2, b3, d0, d1, d2, d3, if_neg nt, if_pos, e]
  by_cases h1 : hB m t 1 = true
  · obtain ⟨a0, a2, a3, e⟩ := q_1 t ht m hm h1
    obtain ⟨b0, b1, d1, b2, d2, b3, d3⟩ := q_1b t ht m hm h1
    rw [a0, h1, a2, a3]
    simp only [g1, g0, b0, b1, b2, b3, d1, d2, d3, if_neg nt, if_pos, e]
  by_cases h2 : hB m t 2 = true
  · obtain ⟨a0, a1, a3, e⟩ := q_2 t ht m hm h2
    obtain ⟨b0, b1, b2, d2, b3, d3⟩ := q_2b t ht m hm h2
    rw [a0, a1, h2, a3]
    simp only [g1, g0, b0, b1, b2, b3, d2, d3, if_neg nt, if_pos, e]
  by_cases h3 : hB m t 3 = true
  · obtain ⟨a0, a1, a2, e⟩ := q_3 t ht m hm h3
    obtain ⟨b0, b1, b2, b3, d3⟩ := q_3b t ht m hm h3
    rw [a0, a1, a2, h3]
    simp only [g1, g0, b0, b1, b2, b3, d3, if_neg nt, if_pos, e]
  · have a0 := Bool.eq_false_iff.mpr h0
    have a1 := Bool.eq_false_iff.mpr h1
    have a2 := Bool.eq_false_iff.mpr h2
    have a3 := Bool.eq_false_iff.mpr h3
    have hz : (hB m t 0 || hB m t 1 || hB m t 2 || hB m t 3) = false := by rw [a0, a1, a2, a3]; rfl
    obtain ⟨b0, b1⟩ := q_n t ht m hm hz
    obtain ⟨b2, b3⟩ := q_n2 t ht m hm hz
    rw [a0, a1, a2, a3]
    simp only [g1, g0, b0, b1, b2, b3, if_neg nt]
theorem q_own : ∀ m, m < 16 → ∀ b, b < 4 → qB m (m + 1) b = false := by decide +kernel
theorem q_top : ∀ t, t < 16 → ∀ b, b < 4 → qB t 16 b = false := by decide +kernel
theorem q_bot : ∀ t, t < 16 → ∀ b, b < 4 → qB t 0 b = t.testBit b := by decide +kernel
theorem gq_none {C : Nat → Int32} {P : WL} {t m : Nat} (h : ∀ b, b < 4 → qB t m b = false) : ∀ k, k ≤ 4 → gq C P t m k = atW P t
  | 0, _ => rfl
  | k + 1, hk => by rw [gq, if_neg (by rw [h k (by omega)]; exact Bool.false_ne_true)]; exact gq_none h k (by omega)
theorem gq_gv {C : Nat → Int32} {P : WL} {t : Nat} (ht : t < 16) : ∀ k, k ≤ 4 → gq C P t 0 k = gv C P t k
  | 0, _ => rfl
  | k + 1, hk => by rw [gq, gv, q_bot t ht k (by omega), gq_gv ht k (by omega)]
theorem afO_gq {C : Nat → Int32} {P : WL} (h0 : ∀ s, s < 16 → ¬ P.1 s < 0) : ∀ {m : Nat} {Q : WL}, m ≤ 16 → (∀ t, t < 16 → atW Q t = gq C P t m 4) → ∀ t, t < 16 → atW (afO C Q m) t = gv C P t 4
  | 0, Q, _, h, t, ht => by rw [afO, h t ht, gq_gv ht 4 (Nat.le_refl _)]
  | m + 1, Q, hm, h, t, ht => by
    have hq : atW Q m = atW P m := by rw [h m (by omega), gq_none (q_own m (by omega)) 4 (Nat.le_refl _)]
    refine afO_gq h0 (m := m) (Q := afI C Q m 4) (by omega) (fun t ht => ?_) t ht
    rw [(afI_at (by omega) (by rw [show Q.1 m = P.1 m from congrArg Prod.fst hq]; exact h0 m (by omega)) 4 (Nat.le_refl _)).2 t, hq, h t ht]
    exact gq_step ht (by omega)
theorem afO_asF {C D : Nat → Int32} {P Q : WL} (hC : ∀ b, b < 4 → C b = D b) (h : eq16 P Q) (h0 : ∀ s, s < 16 → ¬ Q.1 s < 0) : eq16 (afO C P 16) (asF D Q 15) := by
  intro t ht
  have h1 := afO_gq (C := C) (P := P) (fun s hs => by rw [(h s hs).1]; exact h0 s hs) (m := 16) (Q := P) (Nat.le_refl _) (fun t ht => (gq_none (q_top t ht) 4 (Nat.le_refl _)).symm) t ht
  have h2 := asF_gv (C := D) (P := Q) (m := 15) (Q := Q) (by decide) (fun _ _ => rfl) (fun t q1 q2 => by omega) t ht
  rw [gv_congr hC h ht 4 (Nat.le_refl _)] at h1
  have h3 := h1.trans h2.symm
  exact ⟨congrArg Prod.fst h3, congrArg Prod.snd h3⟩
def pcw (t : Nat) : Nat → Nat
  | 0 => 0
  | b + 1 => if t.testBit b = true then pcw t b + 1 else pcw t b
theorem pcw_sub : ∀ t, t < 16 → ∀ b, b < 4 → t.testBit b = true → pcw (t - 2 ^ b) 4 + 1 = pcw t 4 ∧ t - 2 ^ b < 16 := by decide +kernel
theorem pcw_le : ∀ t, t < 16 → pcw t 4 ≤ 4 := by decide +kernel
theorem pw_s : ∀ n, n < 24 → ∀ p, p < 5 → n ^ p + p * n ^ (p - 1) ≤ (n + 1) ^ p ∧ (n + 1) ^ p ≤ 331776 := by decide +kernel
def wBd (P : WL) (n : Nat) : Prop := ∀ t, t < 16 → ∃ w, P.1 t = nI w ∧ w ≤ n ^ pcw t 4
theorem asF_bd {C : Nat → Int32} {P : WL} {n : Nat} (hn : n < 24) (h : wBd P n) : wBd (asF C P 15) (n + 1) := by
  intro t ht
  have h2 := asF_gv (C := C) (P := P) (m := 15) (Q := P) (by decide) (fun _ _ => rfl) (fun t q1 q2 => by omega) t ht
  have e : (asF C P 15).1 t = (gv C P t 4).1 := congrArg Prod.fst h2
  have hp := pcw_le t ht
  obtain ⟨hs, hs2⟩ := pw_s n hn (pcw t 4) (by omega)
  have key : ∀ k, k ≤ 4 → ∃ w, (gv C P t k).1 = nI w ∧ w ≤ n ^ pcw t 4 + pcw t k * n ^ (pcw t 4 - 1) := by
    intro k
    induction k with
    | zero =>
      intro _
      obtain ⟨w, h1, h2⟩ := h t ht
      exact ⟨w, h1, by omega⟩
    | succ k ih =>
      intro hk
      obtain ⟨w, h1, h2⟩ := ih (by omega)
      rw [gv]
      by_cases c : t.testBit k = true
      · rw [if_pos c]
        obtain ⟨q1, q2⟩ := pcw_sub t ht k (by omega) c
        obtain ⟨v, h3, h4⟩ := h _ q2
        have e9 : pcw t (k + 1) = pcw t k + 1 := by rw [pcw, if_pos c]
        rw [show pcw (t - 2 ^ k) 4 = pcw t 4 - 1 by omega] at h4
        rw [e9, Nat.add_mul, Nat.one_mul]
        unfold jv
        by_cases c2 : C k = -1 ∨ (atW P (t - 2 ^ k)).1 = 0
        · rw [if_pos c2]; exact ⟨w, h1, by omega⟩
        · rw [if_neg c2]
          refine ⟨w + v, ?_, by omega⟩
          show (gv C P t k).1 + P.1 (t - 2 ^ k) = _
          rw [h1, h3, nI_add]
      · rw [if_neg c]
        have e9 : pcw t (k + 1) = pcw t k := by rw [pcw, if_neg c]
        rw [e9]; exact ⟨w, h1, h2⟩
  obtain ⟨w, h1, h3⟩ := key 4 (Nat.le_refl _)
  exact ⟨w, e.trans h1, Nat.le_trans h3 hs⟩
theorem asA_bd (S : Ms) : ∀ n, n ≤ 24 → wBd (asA S n) n
  | 0, _ => by
    intro t ht
    rcases Nat.eq_zero_or_pos t with z | z
    · subst z; exact ⟨1, rfl, by decide⟩
    · refine ⟨0, if_neg (by omega), Nat.zero_le _⟩
  | n + 1, hn => asF_bd (by omega) (asA_bd S n (by omega))
theorem asA_nn (S : Ms) {n : Nat} (hn : n ≤ 24) {s : Nat} (hs : s < 16) : ¬ (asA S n).1 s < 0 := by
  obtain ⟨w, h1, h2⟩ := asA_bd S n hn s hs
  have hp := pcw_le s hs
  have : w ≤ 331776 := by
    rcases Nat.eq_zero_or_pos n with z | z
    · subst z
      have : (0 : Nat) ^ pcw s 4 ≤ 1 := by
        rcases Nat.eq_zero_or_pos (pcw s 4) with y | y
        · rw [y]; exact Nat.le_refl _
        · rw [Nat.zero_pow y]; exact Nat.zero_le _
      omega
    · have h3 := (pw_s (n - 1) (by omega) (pcw s 4) (by omega)).2
      rw [show n - 1 + 1 = n by omega] at h3
      omega
  rw [h1]; exact nI_pos (by omega)
