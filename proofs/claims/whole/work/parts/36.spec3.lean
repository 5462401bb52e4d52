/-! ===== the model's calls: what they write ===== -/
theorem szIL {k : Nat} (h : 0 < szI k) : szL k = 0 := by
  have : ∀ k, k < 68 → 0 < szI k → szL k = 0 := by decide +kernel
  exact this k (szI_lt h) h
theorem gi_wA {S : Ms} {k j i : Nat} {v : Int32} : gi (wA S k j v) i = gi S i := rfl
theorem gL_wA {S : Ms} {k j i : Nat} {v : Int32} : gL (wA S k j v) i = gL S i := rfl
theorem gA_wi {S : Ms} {k i : Nat} {v : Int32} : gA (wi S k v) i = gA S i := rfl
theorem gL_wi {S : Ms} {k i : Nat} {v : Int32} : gL (wi S k v) i = gL S i := rfl
theorem gi_wL {S : Ms} {k j i : Nat} {v : Int64} : gi (wL S k j v) i = gi S i := rfl
theorem gA_wL {S : Ms} {k j i : Nat} {v : Int64} : gA (wL S k j v) i = gA S i := rfl
theorem gi_wi {S : Ms} {k i : Nat} {v : Int32} : gi (wi S k v) i = if i = k then v else gi S i := rfl
theorem gA_wA {S : Ms} {k j i : Nat} {v : Int32} : gA (wA S k j v) i = if i = k then pu (gA S k) j v else gA S i := by
  by_cases h : i = k
  · subst h
    rw [if_pos rfl]
    funext q
    show (if i = i ∧ q = j then v else S.2.1 i q) = if q = j then v else S.2.1 i q
    by_cases h2 : q = j
    · rw [if_pos ⟨rfl, h2⟩, if_pos h2]
    · rw [if_neg (fun z => h2 z.2), if_neg h2]
  · rw [if_neg h]
    funext q
    exact if_neg (fun z => h z.1)
def pul (f : Nat → Int64) (k : Nat) (v : Int64) : Nat → Int64 := fun j => if j = k then v else f j
theorem gL_wL {S : Ms} {k j i : Nat} {v : Int64} : gL (wL S k j v) i = if i = k then pul (gL S k) j v else gL S i := by
  by_cases h : i = k
  · subst h
    rw [if_pos rfl]
    funext q
    show (if i = i ∧ q = j then v else S.2.2 i q) = if q = j then v else S.2.2 i q
    by_cases h2 : q = j
    · rw [if_pos ⟨rfl, h2⟩, if_pos h2]
    · rw [if_neg (fun z => h2 z.2), if_neg h2]
  · rw [if_neg h]
    funext q
    exact if_neg (fun z => h z.1)
theorem RM.AI {A : Nat → Nat} {m : Nat} {S : Ms} {M : Mm} (h : RM A m S M) {k j : Nat} (hk : 0 < szI k) (hj : 0 < szI j) (e : A k = A j) : k = j := by
  by_cases z : k = j
  · exact z
  · exact absurd e (h.ne hk hj z)
theorem RM.wA {A : Nat → Nat} {m : Nat} {S : Ms} {M : Mm} (h : RM A m S M) {k j : Nat} {v : Int32} (hk : 0 < szI k) : RM A m (wA S k j v) (sI M (A k) j v) := by
  refine ⟨h.1, h.2.1, h.2.2.1, fun i h1 h2 => ?_, fun i hi h6 => ?_, h.2.2.2.2.2⟩
  · rw [fI_sI, if_neg (fun z => h.nem hk z.1)]; exact h.sc h1 h2
  · funext q
    rw [gA_wA, fI_sI]
    by_cases e : i = k
    · subst e
      rw [if_pos rfl]
      unfold pu
      by_cases e2 : q = j
      · rw [if_pos ⟨rfl, e2⟩, if_pos e2]
      · rw [if_neg (fun z => e2 z.2), if_neg e2, h.row hi h6]
    · rw [if_neg e, if_neg (fun z => e (h.AI hi hk z.1)), h.row hi h6]
theorem RM.wi {A : Nat → Nat} {m : Nat} {S : Ms} {M : Mm} (h : RM A m S M) {k : Nat} {v : Int32} : RM A m (wi S k v) (sI M m k v) := by
  refine ⟨h.1, h.2.1, h.2.2.1, fun i h1 h2 => ?_, fun i hi h6 => ?_, h.2.2.2.2.2⟩
  · rw [fI_sI, gi_wi]
    by_cases e : i = k
    · rw [if_pos ⟨rfl, e⟩, if_pos e]
    · rw [if_neg (fun z => e z.2), if_neg e]; exact h.sc h1 h2
  · funext q
    rw [fI_sI, if_neg (fun z => h.nem hi z.1.symm), h.row hi h6]; rfl
theorem RM.nemL {A : Nat → Nat} {m : Nat} {S : Ms} {M : Mm} (h : RM A m S M) {k : Nat} (hk : 0 < szL k) : m ≠ A k := fun z => by
  have h1 := h.kL1 hk
  have h2 := h.1
  have := szL_lt hk
  rw [← z] at h1; omega
theorem RM.wL {A : Nat → Nat} {m : Nat} {S : Ms} {M : Mm} (h : RM A m S M) {k j : Nat} {v : Int64} (hk : 0 < szL k) : RM A m (wL S k j v) (sL M (A k) j v) := by
  refine ⟨h.1, h.2.1, h.2.2.1, h.2.2.2.1, h.2.2.2.2.1, fun i hi => ?_⟩
  funext q
  rw [gL_wL, fL_sL]
  by_cases e : i = k
  · subst e
    rw [if_pos rfl]
    unfold pul
    by_cases e2 : q = j
    · rw [if_pos ⟨rfl, e2⟩, if_pos e2]
    · rw [if_neg (fun z => e2 z.2), if_neg e2, h.rowL hi]
  · have hne : A i ≠ A k := fun z => by
      have h1 := h.kL hi
      have h2 := h.kL hk
      rw [z] at h1; omega
    rw [if_neg e, if_neg (fun z => hne z.1), h.rowL hi]
/-- nothing but the model has changed -/
def FM (A : Nat → Nat) (m : Nat) (M M' : Mm) : Prop := (∀ b, kd M' b = kd M b) ∧ (∀ b, ln M' b = ln M b) ∧ (∀ b, fR M' b = fR M b) ∧
  (∀ b, b ≠ m → (∀ k, 0 < szI k → b ≠ A k) → fI M' b = fI M b) ∧ (∀ b, (∀ k, 0 < szL k → b ≠ A k) → fL M' b = fL M b)
theorem FM.rf {A : Nat → Nat} {m : Nat} {M : Mm} : FM A m M M := ⟨fun _ => rfl, fun _ => rfl, fun _ => rfl, fun _ _ _ => rfl, fun _ _ => rfl⟩
theorem FM.tr {A : Nat → Nat} {m : Nat} {M M1 M2 : Mm} (h : FM A m M M1) (g : FM A m M1 M2) : FM A m M M2 :=
  ⟨fun b => (g.1 b).trans (h.1 b), fun b => (g.2.1 b).trans (h.2.1 b), fun b => (g.2.2.1 b).trans (h.2.2.1 b), fun b a1 a2 => (g.2.2.2.1 b a1 a2).trans (h.2.2.2.1 b a1 a2), fun b a1 => (g.2.2.2.2 b a1).trans (h.2.2.2.2 b a1)⟩
theorem SE.FM {A : Nat → Nat} {m : Nat} {M M' : Mm} (g : SE A m M M') : FM A m M M' :=
  ⟨g.1, g.2.1, g.2.2.1, fun b h1 h2 => funext fun k => g.2.2.2.2 b k (h2 60 (by decide)) (h2 61 (by decide)) (h2 63 (by decide)) (h2 65 (by decide)) (fun z => h1 z.1), fun b _ => g.2.2.2.1 b⟩
theorem FM.A {A : Nat → Nat} {m : Nat} {M : Mm} {k j : Nat} {v : Int32} (hk : 0 < szI k) : FM A m M (sI M (A k) j v) :=
  ⟨fun _ => rfl, fun _ => rfl, fun _ => rfl, fun b _ h2 => up2_na _ _ (h2 k hk), fun _ _ => rfl⟩
theorem FM.i {A : Nat → Nat} {m : Nat} {M : Mm} {k : Nat} {v : Int32} : FM A m M (sI M m k v) :=
  ⟨fun _ => rfl, fun _ => rfl, fun _ => rfl, fun b h _ => up2_na _ _ h, fun _ _ => rfl⟩
theorem FM.L {A : Nat → Nat} {m : Nat} {M : Mm} {k j : Nat} {v : Int64} (hk : 0 < szL k) : FM A m M (sL M (A k) j v) :=
  ⟨fun _ => rfl, fun _ => rfl, fun _ => rfl, fun b _ _ => rfl, fun b h => up2_na _ _ (h k hk)⟩
/-- an index of something that is there, or not -/
theorem inN {n : Nat} (hn : n < 2 ^ 30) (f : Int32) : inB f 0 (nI n - 1) = false ∨ ∃ j, j < n ∧ f = nI j ∧ inB f 0 (nI n - 1) = true := by
  rcases pk_ix f (n := n) (by omega) with h | h | ⟨j, h1, h2⟩
  · left; unfold inB; rw [decide_eq_true h]; rfl
  · left
    unfold inB
    have : nI n - 1 < f := by
      rcases Nat.eq_zero_or_pos n with z | z
      · subst z
        exact Int32.lt_of_lt_of_le (by decide) h
      · rw [show nI n - 1 = nI (n - 1) from pk_sub (b := 1) z]
        exact Int32.lt_of_lt_of_le (nI_lt (by omega) (by omega)) h
    rw [decide_eq_true this]; cases (!decide (f < 0)) <;> rfl
  · right
    refine ⟨j, h1, h2, ?_⟩
    rw [show nI n - 1 = nI (n - 1) from pk_sub (b := 1) (by omega), h2]
    unfold inB
    rw [decide_eq_false (nI_pos (by omega)), decide_eq_false (fun z => absurd ((nI_ltI (by omega) (by omega)).mp z) (by omega))]; rfl
theorem in4 (t : Int32) : inB t 0 3 = false ∨ ∃ j, j < 4 ∧ t = nI j ∧ inB t 0 3 = true := inN (n := 4) (by decide) t
theorem inb {v : Int32} {a b : Nat} (hb : b < 2 ^ 30) (h : inB v (nI a) (nI b) = true) (ha : a < 2 ^ 31) : ∃ j, a ≤ j ∧ j ≤ b ∧ v = nI j := by
  unfold inB at h
  rw [Bool.and_eq_true, Bool.not_eq_true', Bool.not_eq_true', decide_eq_false_iff_not, decide_eq_false_iff_not] at h
  rcases pk_ix v (n := b + 1) (by omega) with z | z | ⟨j, h1, rfl⟩
  · rcases Nat.eq_zero_or_pos a with e | e
    · subst e; exact absurd z h.1
    · exact absurd (Int32.lt_trans z (nI_lt e ha)) h.1
  · exact absurd (Int32.lt_of_lt_of_le (nI_lt (show b < b + 1 by omega) (by omega)) z) h.2
  · refine ⟨j, ?_, by omega, rfl⟩
    rw [nI_ltI (by omega) (by omega)] at h; omega
