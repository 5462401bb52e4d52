/-! ===== two lands in one memory: kinds of one awake, of the other asleep (by hand) ===== -/
def sw (c : Nat) : Nat := if 1 ≤ c % 1000 ∧ c % 1000 ≤ 11 then c + 50 else if 51 ≤ c % 1000 ∧ c % 1000 ≤ 61 then c - 50 else if 170 ≤ c % 1000 ∧ c % 1000 < 180 then c - 20 else if 150 ≤ c % 1000 ∧ c % 1000 < 160 then c + 20 else if 400 ≤ c % 1000 ∧ c % 1000 < 450 then c + 50 else if 450 ≤ c % 1000 ∧ c % 1000 < 500 then c - 50 else c
theorem sw_cases (c : Nat) : (1 ≤ c % 1000 ∧ c % 1000 ≤ 11 ∧ sw c = c + 50) ∨ (51 ≤ c % 1000 ∧ c % 1000 ≤ 61 ∧ sw c + 50 = c) ∨ (170 ≤ c % 1000 ∧ c % 1000 < 180 ∧ sw c + 20 = c) ∨ (150 ≤ c % 1000 ∧ c % 1000 < 160 ∧ sw c = c + 20) ∨ (400 ≤ c % 1000 ∧ c % 1000 < 450 ∧ sw c = c + 50) ∨ (450 ≤ c % 1000 ∧ c % 1000 < 500 ∧ sw c + 50 = c) ∨
    (¬ (1 ≤ c % 1000 ∧ c % 1000 ≤ 11) ∧ ¬ (51 ≤ c % 1000 ∧ c % 1000 ≤ 61) ∧ ¬ (170 ≤ c % 1000 ∧ c % 1000 < 180) ∧ ¬ (150 ≤ c % 1000 ∧ c % 1000 < 160) ∧ ¬ (400 ≤ c % 1000 ∧ c % 1000 < 500) ∧ sw c = c) := by
  unfold sw
  by_cases h1 : 1 ≤ c % 1000 ∧ c % 1000 ≤ 11
  · rw [if_pos h1]; omega
  rw [if_neg h1]
  by_cases h2 : 51 ≤ c % 1000 ∧ c % 1000 ≤ 61
  · rw [if_pos h2]; omega
  rw [if_neg h2]
  by_cases h3 : 170 ≤ c % 1000 ∧ c % 1000 < 180
  · rw [if_pos h3]; omega
  rw [if_neg h3]
  by_cases h4 : 150 ≤ c % 1000 ∧ c % 1000 < 160
  · rw [if_pos h4]; omega
  rw [if_neg h4]
  by_cases h5 : 400 ≤ c % 1000 ∧ c % 1000 < 450
  · rw [if_pos h5]; omega
  rw [if_neg h5]
  by_cases h6 : 450 ≤ c % 1000 ∧ c % 1000 < 500
  · rw [if_pos h6]; omega
  rw [if_neg h6]
  omega
theorem sw_sw (c : Nat) : sw (sw c) = c := by
  rcases sw_cases c with h | h | h | h | h | h | h <;> rcases sw_cases (sw c) with g | g | g | g | g | g | g <;> omega
theorem sw_0 (c : Nat) : sw c = 0 ↔ c = 0 := by
  rcases sw_cases c with h | h | h | h | h | h | h <;> omega
theorem sw_1 (c : Nat) : (sw c % 1000 < 100 ↔ c % 1000 < 100) ∧ (100 ≤ sw c % 1000 ↔ 100 ≤ c % 1000) ∧ (sw c % 1000 < 200 ↔ c % 1000 < 200) := by
  rcases sw_cases c with h | h | h | h | h | h | h <;> omega
theorem sw_2 (c : Nat) : (200 ≤ sw c % 1000 ↔ 200 ≤ c % 1000) ∧ (sw c % 1000 < 300 ↔ c % 1000 < 300) ∧ (300 ≤ sw c % 1000 ↔ 300 ≤ c % 1000) ∧ (sw c % 1000 < 390 ↔ c % 1000 < 390) := by
  rcases sw_cases c with h | h | h | h | h | h | h <;> omega
theorem sw_3 (c : Nat) : (390 ≤ sw c % 1000 ↔ 390 ≤ c % 1000) ∧ (sw c % 1000 < 400 ↔ c % 1000 < 400) ∧ (400 ≤ sw c % 1000 ↔ 400 ≤ c % 1000) := by
  rcases sw_cases c with h | h | h | h | h | h | h <;> omega
theorem sw_ro {c : Nat} (h : ro c) : ro (sw c) := by
  unfold ro at h ⊢
  rcases sw_cases c with g | g | g | g | g | g | g <;> omega
theorem cix50 : ∀ d, 1 ≤ d → d ≤ 11 → cix (d + 50) = cix d ∧ cds (d + 50) = cds d := by
  intro d h1 h2
  match d, h1, h2 with
  | 1, _, _ => exact ⟨rfl, rfl⟩
  | 2, _, _ => exact ⟨rfl, rfl⟩
  | 3, _, _ => exact ⟨rfl, rfl⟩
  | 4, _, _ => exact ⟨rfl, rfl⟩
  | 5, _, _ => exact ⟨rfl, rfl⟩
  | 6, _, _ => exact ⟨rfl, rfl⟩
  | 7, _, _ => exact ⟨rfl, rfl⟩
  | 8, _, _ => exact ⟨rfl, rfl⟩
  | 9, _, _ => exact ⟨rfl, rfl⟩
  | 10, _, _ => exact ⟨rfl, rfl⟩
  | 11, _, _ => exact ⟨rfl, rfl⟩
  | n + 12, _, h => omega
theorem sw_lo {c : Nat} (h : c % 1000 < 100) : cix (sw c % 1000) = cix (c % 1000) ∧ cds (sw c % 1000) = cds (c % 1000) := by
  rcases sw_cases c with g | g | g | g | g | g | g
  · have e : sw c % 1000 = c % 1000 + 50 := by omega
    rw [e]; exact cix50 _ g.1 g.2.1
  · have e : c % 1000 = sw c % 1000 + 50 := by omega
    rw [e]
    have h9 := cix50 (sw c % 1000) (by omega) (by omega)
    exact ⟨h9.1.symm, h9.2.symm⟩
  · omega
  · omega
  · omega
  · omega
  · rw [g.2.2.2.2.2]; exact ⟨rfl, rfl⟩
/-- the other land awake -/
def swp (M : Mm) : Mm := (fun a => sw (M.1 a), M.2)
theorem kd_swp {M : Mm} {a : Nat} : kd (swp M) a = sw (kd M a) := rfl
theorem swp_swp (M : Mm) : swp (swp M) = M := by
  show ((fun a => sw (sw (M.1 a)), M.2) : Mm) = M
  simp only [sw_sw]
theorem okc_swp {D : va_G} {cy : Nat → ClassId} {eD : Nat} {M : Mm} {ed : Nat → Nat} {a : Nat} {H : Heap} (h : okc D cy eD M ed a H) : okc D cy eD (swp M) ed a H := by
  obtain ⟨q1, q2, q3, q4, q5⟩ := h
  have s1 := sw_1 (kd M a)
  have s2 := sw_2 (kd M a)
  have s3 := sw_3 (kd M a)
  refine ⟨fun z => ?_, fun z y => ?_, fun z y => ?_, fun z y => ?_, fun z => ?_⟩
  · rw [kd_swp] at z ⊢
    have z2 := s1.1.mp z
    have h9 := sw_lo z2
    rw [h9.1, h9.2, show fvs (swp M) a 0 (cds (kd M a % 1000)) = fvs M a 0 (cds (kd M a % 1000)) from fvs_same (M := swp M) (M' := M) (a := a) rfl rfl rfl 0 _]
    exact q1 z2
  · rw [kd_swp] at z y
    exact q2 (s1.2.1.mp z) (s1.2.2.mp y)
  · rw [kd_swp] at z y
    exact q3 (s2.1.mp z) (s2.2.1.mp y)
  · rw [kd_swp] at z y
    exact q4 (s2.2.2.1.mp z) (s2.2.2.2.mp y)
  · rw [kd_swp] at z
    exact q5 (s3.2.2.mp z)
theorem rl_swp {D : va_G} {cy : Nat → ClassId} {base eD : Nat} {M : Mm} {H : Heap} (h : rl D cy base eD M H) : rl D cy base eD (swp M) H := by
  obtain ⟨ed, h1, h2, h3, h4, h5, h6⟩ := h
  refine ⟨ed, fun a ha => ?_, fun a ha => ?_, ?_, h4, h5, fun a y1 y2 => ?_⟩
  · rw [kd_swp] at ha ⊢
    obtain ⟨g1, g2⟩ := h1 a (fun z => ha ((sw_0 _).mpr z))
    exact ⟨okc_swp g1, g2.imp id sw_ro⟩
  · rw [kd_swp] at ha
    rcases h2 a ((sw_3 _).2.2.mp ha) with y | ⟨y1, y2, y3⟩
    · exact Or.inl y
    · refine Or.inr ⟨(sw_0 _).mpr y1, y2, fun b hb e => y3 b ?_ e⟩
      rw [kd_swp] at hb
      exact (sw_3 _).2.2.mp hb
  · rw [kd_swp, h3]; decide
  · rw [kd_swp] at y1 y2
    exact h6 a ((sw_3 _).1.mp y1) ((sw_3 _).2.1.mp y2)
theorem z_swp {X : Cx} {M : Mm} {cs sl pc : Nat} {L : List (Nat × Value)} {st : List Value} (kk : Z X (swp M) cs sl pc L st) : Z X M cs sl pc L st := by
  obtain ⟨p, l, e, R, s, m, args, below, meth, c, D, cy, base, eD, nL, Q⟩ := X
  exact fun H locs ls hr hS hl => kk H locs ls (rl_swp hr) hS hl
/-- the sleeping land's own kinds -/
def TS (c _k : Nat) : Prop := (51 ≤ c % 1000 ∧ c % 1000 ≤ 61) ∨ (150 ≤ c % 1000 ∧ c % 1000 < 160) ∨ (450 ≤ c % 1000 ∧ c % 1000 < 500)
theorem TC_TS {c k : Nat} (h : TC (c % 1000) k) : TS (sw c % 1000) k := by
  unfold TC at h
  unfold TS
  rcases sw_cases c with g | g | g | g | g | g | g <;> omega
theorem TC_TSn {c : Nat} (h : TC (c % 1000 + 1000) 0) : TS (sw c % 1000 + 1000) 0 := by
  unfold TC at h
  unfold TS
  rcases sw_cases c with g | g | g | g | g | g | g <;> omega
theorem agr_sl {M M' : Mm} (g : agr TC M M') : agr TS (swp M) (swp M') := by
  intro a ha
  rw [kd_swp] at ha
  obtain ⟨h1, h2, h3⟩ := g a (fun z => ha ((sw_0 _).mpr z))
  refine ⟨by rw [kd_swp, kd_swp, h1], fun k hk => ?_, fun hk => ?_⟩
  · rw [kd_swp] at hk
    exact h2 k (fun z => hk (TC_TS z))
  · rw [kd_swp] at hk
    exact h3 (fun z => hk (TC_TSn z))
/-- two lands: x awake says S, y asleep says T -/
def TL2 (x y : Nat) (S T : Ms) (M : Mm) : Prop := (∃ B, RX B x S M) ∧ ∃ C, RX C y T (swp M)
theorem TL2.flip {x y : Nat} {S T : Ms} {M : Mm} (h : TL2 x y S T M) : TL2 y x T S (swp M) := ⟨h.2, by rw [swp_swp]; exact h.1⟩
theorem TL2.step {x y : Nat} {S S' T : Ms} {M M' : Mm} (h : TL2 x y S T M) (hT : INV T) (g : agr TC M M') (hX : ∃ B, RX B x S' M') : TL2 x y S' T M' := by
  obtain ⟨C, hC⟩ := h.2
  exact ⟨hX, C, hC.all hT (agr_sl g) (fun c k z y => by unfold TC at z; unfold TS at y; omega)⟩
theorem TL2.k {x y : Nat} {S T : Ms} {M : Mm} (h : TL2 x y S T M) : kd M x % 1000 = 11 := by
  obtain ⟨⟨B, hB⟩, -⟩ := h
  rw [hB.1.1]
