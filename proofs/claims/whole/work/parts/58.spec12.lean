/-! ===== a new model ===== -/
/-- the rows of the fields below d are made -/
def PMk (A : Nat → Nat) (d m : Nat) (bv : Int32) (M0 M : Mm) : Prop := exo M0 M m ∧ kd M m = 12 ∧ (∀ k, fI M m k = if k = 59 then bv else 0) ∧
  (∀ k, k < d → 0 < szI k → fR M m k = some (A k) ∧ kd M (A k) = 100 + k ∧ ln M (A k) = szI k ∧ fI M (A k) = fun _ => 0) ∧
  (∀ k, k < d → 0 < szL k → fR M m k = some (A k) ∧ kd M (A k) = 200 + k ∧ ln M (A k) = szL k ∧ fL M (A k) = fun _ => 0) ∧
  (∀ k, k < d → (0 < szI k ∨ 0 < szL k) → kd M0 (A k) = 0)
theorem PMk.skip {bv : Int32} {A : Nat → Nat} {d m : Nat} {M0 M : Mm} (h : PMk A d m bv M0 M) (h1 : szI d = 0) (h2 : szL d = 0) : PMk A (d + 1) m bv M0 M := by
  refine ⟨h.1, h.2.1, h.2.2.1, fun k hk hz => h.2.2.2.1 k ?_ hz, fun k hk hz => h.2.2.2.2.1 k ?_ hz, fun k hk hz => h.2.2.2.2.2 k ?_ hz⟩
  · rcases Nat.lt_or_ge k d with z | z
    · exact z
    · rw [show k = d by omega] at hz; omega
  · rcases Nat.lt_or_ge k d with z | z
    · exact z
    · rw [show k = d by omega] at hz; omega
  · rcases Nat.lt_or_ge k d with z | z
    · exact z
    · rw [show k = d by omega] at hz; omega
theorem PMk.add {bv : Int32} {A : Nat → Nat} {d m a n c : Nat} {M0 M : Mm} (h : PMk A d m bv M0 M) (hm0 : kd M0 m ≠ 0) (ha : kd M a = 0) (hn : (0 < szI d ∧ n = szI d ∧ c = 100 + d) ∨ (0 < szL d ∧ n = szL d ∧ c = 200 + d)) (hd : szI d = 0 ∨ szL d = 0) :
    PMk (fun k => if k = d then a else A k) (d + 1) m bv M0 (sR (al M a c n) m d (some a)) := by
  obtain ⟨h1, h2, h3, h4, h5, h6⟩ := h
  have hma : m ≠ a := fun z => by rw [z, ha] at h2; cases h2
  have hAI : ∀ k, k < d → 0 < szI k → A k ≠ a := fun k q1 q2 z => by
    have := (h4 k q1 q2).2.1; rw [z, ha] at this; omega
  have hAL : ∀ k, k < d → 0 < szL k → A k ≠ a := fun k q1 q2 z => by
    have := (h5 k q1 q2).2.1; rw [z, ha] at this; omega
  refine ⟨fun b hb hbm => ?_, ?_, fun k => ?_, fun k hk hz => ?_, fun k hk hz => ?_, fun k hk hz => ?_⟩
  · have s1 := h1 b hb hbm
    have hba : b ≠ a := fun z => by
      have := s1.1; rw [z, ha] at this; rw [z] at hb; exact hb this
    exact (s1.tr (same.al hba)).tr (same.sR hbm)
  · rw [kd_sR, kd_al, if_neg hma]; exact h2
  · rw [fI_sR, fI_al, if_neg hma]; exact h3 k
  · by_cases e : k = d
    · subst e
      rcases hn with ⟨-, q1, q2⟩ | ⟨q0, -, -⟩
      · dsimp only
        rw [if_pos rfl, fR_sR, if_pos ⟨rfl, rfl⟩, kd_sR, kd_al, if_pos rfl, ln_sR, ln_al, if_pos rfl]
        exact ⟨rfl, q2, q1, by funext j; rw [fI_sR, fI_al, if_pos rfl]⟩
      · omega
    · obtain ⟨q1, q2, q3, q4⟩ := h4 k (by omega) hz
      have hne := hAI k (by omega) hz
      dsimp only
      rw [if_neg e, fR_sR, if_neg (fun z => e z.2), fR_al, if_neg hma, kd_sR, kd_al, if_neg hne, ln_sR, ln_al, if_neg hne]
      exact ⟨q1, q2, q3, by rw [← q4]; funext j; rw [fI_sR, fI_al, if_neg hne]⟩
  · by_cases e : k = d
    · subst e
      rcases hn with ⟨q0, -, -⟩ | ⟨-, q1, q2⟩
      · omega
      · dsimp only
        rw [if_pos rfl, fR_sR, if_pos ⟨rfl, rfl⟩, kd_sR, kd_al, if_pos rfl, ln_sR, ln_al, if_pos rfl]
        exact ⟨rfl, q2, q1, by funext j; rw [fL_sR, fL_al, if_pos rfl]⟩
    · obtain ⟨q1, q2, q3, q4⟩ := h5 k (by omega) hz
      have hne := hAL k (by omega) hz
      dsimp only
      rw [if_neg e, fR_sR, if_neg (fun z => e z.2), fR_al, if_neg hma, kd_sR, kd_al, if_neg hne, ln_sR, ln_al, if_neg hne]
      exact ⟨q1, q2, q3, by rw [← q4]; funext j; rw [fL_sR, fL_al, if_neg hne]⟩
  · dsimp only
    by_cases e : k = d
    · rw [if_pos e]
      by_cases z : kd M0 a = 0
      · exact z
      · have := (h1 a z hma.symm).1; rw [ha] at this; exact this
    · rw [if_neg e]; exact h6 k (by omega) hz
theorem m_newI {bv : Int32} {X : Cx} {cc : ByteArray} {own : String} {A : Nat → Nat} {m : Nat} {M0 M : Mm} {cs sl pc idx : Nat} {L : List (Nat × Value)} {st : List Value} {n : Nat} {ty : FieldType} (g : Gd X cc own) (d : Nat) (h : PMk A d m bv M0 M) (hm0 : kd M0 m ≠ 0) (hz : 0 < szI d) (hn : n = szI d) (hL : szL d = 0) (f : FP own idx 12 d ty true) (hty : ty.isReference = true) (hcd : (cds 12)[d]? = some 2) (hin : inInit X) (hc : cs + 1 ≤ (xR X).cells) (hs : sl + n ≤ (xR X).slots) (d1 : decode cc pc = .ok (.newarray .int, 2)) (d2 : decode cc (pc + 2) = .ok (.putfield idx, 3))
    (kk : ∀ A' M', PMk A' (d + 1) m bv M0 M' → Z X M' (cs + 1) (sl + n) (pc + 5) L st) : Z X M cs sl pc L (.int (nI n) :: .ref m :: st) := by
  have hb : ∀ k, k < 68 → szI k ≤ 960 := by decide +kernel
  have hd68 := szI_lt hz
  have hb2 := hb d hd68
  refine z_newI (N := n) g (100 + d) (by omega) (by omega) ac_int (nI_pos (by omega)) (nI_clamp (by omega)) (by omega) hc hs d1 (fun a ha => ?_)
  have hma : m ≠ a := fun z => by have := h.2.1; rw [z, ha] at this; cases this
  refine z_putR g f hty (by rw [kd_al, if_neg hma, h.2.1]) (by decide) hcd (fun _ => hin) d2 ?_
  exact kk _ _ (h.add hm0 ha (Or.inl ⟨hz, hn, rfl⟩) (Or.inr hL))
theorem m_newL {bv : Int32} {X : Cx} {cc : ByteArray} {own : String} {A : Nat → Nat} {m : Nat} {M0 M : Mm} {cs sl pc idx : Nat} {L : List (Nat × Value)} {st : List Value} {n : Nat} {ty : FieldType} (g : Gd X cc own) (d : Nat) (h : PMk A d m bv M0 M) (hm0 : kd M0 m ≠ 0) (hz : 0 < szL d) (hn : n = szL d) (hL : szI d = 0) (f : FP own idx 12 d ty true) (hty : ty.isReference = true) (hcd : (cds 12)[d]? = some 2) (hin : inInit X) (hc : cs + 1 ≤ (xR X).cells) (hs : sl + n ≤ (xR X).slots) (d1 : decode cc pc = .ok (.newarray .long, 2)) (d2 : decode cc (pc + 2) = .ok (.putfield idx, 3))
    (kk : ∀ A' M', PMk A' (d + 1) m bv M0 M' → Z X M' (cs + 1) (sl + n) (pc + 5) L st) : Z X M cs sl pc L (.int (nI n) :: .ref m :: st) := by
  have hb2 : szL d ≤ 100 := by
    unfold szL
    repeat' split
    all_goals omega
  have hd68 := szL_lt hz
  refine z_newL (N := n) g (200 + d) (by omega) (by omega) ac_long (nI_pos (by omega)) (nI_clamp (by omega)) (by omega) hc hs d1 (fun a ha => ?_)
  have hma : m ≠ a := fun z => by have := h.2.1; rw [z, ha] at this; cases this
  refine z_putR g f hty (by rw [kd_al, if_neg hma, h.2.1]) (by decide) hcd (fun _ => hin) d2 ?_
  exact kk _ _ (h.add hm0 ha (Or.inr ⟨hz, hn, rfl⟩) (Or.inl hL))
theorem PMk.bud {bv v : Int32} {A : Nat → Nat} {d m : Nat} {M0 M : Mm} (h : PMk A d m bv M0 M) : PMk A d m v M0 (sI M m 59 v) := by
  obtain ⟨h1, h2, h3, h4, h5, h6⟩ := h
  refine ⟨fun b hb hbm => (h1 b hb hbm).tr (same.sI hbm), h2, fun k => ?_, fun k hk hz => ?_, fun k hk hz => h5 k hk hz, h6⟩
  · rw [fI_sI]
    by_cases e : k = 59
    · rw [if_pos ⟨rfl, e⟩, if_pos e]
    · rw [if_neg (fun z => e z.2), h3, if_neg e, if_neg e]
  · obtain ⟨q1, q2, q3, q4⟩ := h4 k hk hz
    refine ⟨q1, q2, q3, ?_⟩
    rw [← q4]
    funext j
    rw [fI_sI, if_neg (fun z => ?_)]
    rw [z.1, h2] at q2; omega
/-- the state of a new model, its table of letters told up to n -/
def S0n (n : Nat) : Ms := (fun k => if k = 59 then 2 else 0, fun k j => if k = 50 ∧ j < n then nI (j % 27) else 0, fun _ _ => 0)
theorem PMk.RM {A : Nat → Nat} {m : Nat} {M0 M : Mm} (h : PMk A 68 m 2 M0 M) : RM A m (S0n 0) M := by
  obtain ⟨h1, h2, h3, h4, h5, h6⟩ := h
  refine ⟨by rw [h2], fun k hk => ?_, fun k hk => ?_, fun k _ _ => h3 k, fun k hk _ => ?_, fun k hk => ?_⟩
  · have q := h4 k (szI_lt hk) hk; exact ⟨q.1, q.2.1, q.2.2.1⟩
  · have q := h5 k (szL_lt hk) hk; exact ⟨q.1, q.2.1, q.2.2.1⟩
  · rw [(h4 k (szI_lt hk) hk).2.2.2]
    funext j
    exact (if_neg (fun z => absurd z.2 (Nat.not_lt_zero j))).symm
  · rw [(h5 k (szL_lt hk) hk).2.2.2]; rfl
theorem S0n_s (n : Nat) : wA (S0n n) 50 n (nI (n % 27)) = S0n (n + 1) := by
  show ((fun k => if k = 59 then 2 else 0), up2 (fun k j => if k = 50 ∧ j < n then nI (j % 27) else 0) 50 n (nI (n % 27)), fun _ _ => 0) = S0n (n + 1)
  unfold S0n
  congr 2
  funext k j
  unfold up2
  by_cases e : k = 50 ∧ j = n
  · rw [if_pos e, if_pos ⟨e.1, by omega⟩, e.2]
  · rw [if_neg e]
    dsimp only
    by_cases e2 : k = 50 ∧ j < n
    · rw [if_pos e2, if_pos ⟨e2.1, by omega⟩]
    · rw [if_neg e2, if_neg (fun z => e2 ⟨z.1, by have := z.2; have : j ≠ n := fun q => e ⟨z.1, q⟩; omega⟩)]
theorem exo.FM {A : Nat → Nat} {m : Nat} {M0 M M' : Mm} {S : Ms} (hM : RM A m S M) (h : exo M0 M m) (hA : ∀ k, (0 < szI k ∨ 0 < szL k) → kd M0 (A k) = 0) (g : FM A m M M') : exo M0 M' m := by
  intro b hb hbm
  have s1 := h b hb hbm
  have n1 : ∀ k, 0 < szI k → b ≠ A k := fun k hk z => hb (by rw [z]; exact hA k (Or.inl hk))
  have n2 : ∀ k, 0 < szL k → b ≠ A k := fun k hk z => hb (by rw [z]; exact hA k (Or.inr hk))
  exact s1.tr ⟨(g.1 b).symm, (g.2.2.2.1 b hbm n1).symm, (g.2.2.2.2 b n2).symm, (g.2.2.1 b).symm, (g.2.1 b).symm⟩
