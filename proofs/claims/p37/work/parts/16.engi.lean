theorem z_mem {X : Cx} {M M' : Mm} {cs sl pc : Nat} {L : List (Nat × Value)} {st : List Value} (h : ∀ (D : va_G) (cy : Nat → ClassId) (base : Nat) (H : Heap), rl D cy base (xE X).2.2.2.2 M H → rl D cy base (xE X).2.2.2.2 M' H) (kk : Z X M' cs sl pc L st) : Z X M cs sl pc L st := by
  obtain ⟨p, l, e, R, s, m, args, below, meth, c, D, cy, base, eD, nL, Q⟩ := X
  exact fun H locs ls hr hS hl => kk H locs ls (h D cy base H hr) hS hl
def opn (M : Mm) (a e n : Nat) (f : Nat → Option Nat) (mc : Int32) : Mm :=
  (up1 (up1 M.1 e (if M.1 e = 390 then 390 else 300)) a 20,
   up2 (up2 M.2.1 a 0 mc) a 2 (nI (ln M a)), M.2.2.1,
   up2 (up1 M.2.2.2.1 e f) a 1 (some e), up1 M.2.2.2.2 e n)
theorem okc_of {D : va_G} {cy : Nat → ClassId} {eD : Nat} {M : Mm} {ed : Nat → Nat} {a : Nat} {H : Heap}
    (h1 : kd M a % 1000 < 100 → va_at D vwCl (a, .inr (cix (kd M a % 1000), fvs M a 0 (cds (kd M a % 1000)))) H)
    (h2 : 100 ≤ kd M a % 1000 → kd M a % 1000 < 200 → va_at D vwCl (a, .inl (cy 0, ln M a, .inl (fI M a))) H)
    (h3 : 200 ≤ kd M a % 1000 → kd M a % 1000 < 300 → va_at D vwCl (a, .inl (cy 1, ln M a, .inr (.inl (fL M a)))) H)
    (h4 : 300 ≤ kd M a % 1000 → kd M a % 1000 < 390 → va_at D vwCl (a, .inl (cy 2, ln M a, .inr (.inr (.inr (.inr (fR M a)))))) H)
    (h5 : 400 ≤ kd M a % 1000 → ∃ (mc : Int32) (n : Nat) (f : Nat → Option Nat), va_at D vwCl (a, .inr (2, [.int mc, .ref (ed a), .int (nI (ln M a))])) H ∧
    (ed a = eD ∨ va_at D vwCl (ed a, .inl (cy 2, n, .inr (.inr (.inr (.inr f))))) H) ∧ ln M a ≤ n ∧ n ≤ 150 ∧ (∀ i, i < ln M a → f i = fR M a i)) : okc D cy eD M ed a H := ⟨h1, h2, h3, h4, h5⟩
def rowOK (M : Mm) (eD a e n : Nat) (f : Nat → Option Nat) : Prop := ln M a ≤ n ∧ n ≤ 150 ∧ (∀ i, i < ln M a → f i = fR M a i) ∧ e ≠ a ∧ ((e = eD ∧ ln M a = 0 ∧ n = 0 ∧ f = fR M eD ∧ ln M eD = 0) ∨ (e ≠ eD ∧ kd M e = 0))
theorem rl_open {D : va_G} {cy : Nat → ClassId} {base eD : Nat} {M : Mm} {H : Heap} {a : Nat} (h : rl D cy base eD M H) (ha : 400 ≤ kd M a % 1000) :
    ∃ (e n : Nat) (f : Nat → Option Nat) (mc : Int32), rowOK M eD a e n f ∧ rl D cy base eD (opn M a e n f mc) H := by
  have hlt := fun (b : Nat) (hb : kd M b ≠ 0) => rl_lt h hb
  obtain ⟨ed, h1, h2, h3, h4, h5, h6⟩ := h
  have hka : kd M a ≠ 0 := fun z => by rw [z] at ha; simp at ha
  have hEa : eD ≠ a := fun z => by subst z; rw [h3] at ha; omega
  obtain ⟨⟨-, -, -, -, q5⟩, hab⟩ := h1 a hka
  obtain ⟨mc, n, f, g1, g2, g3, g4, g5⟩ := q5 ha
  have hab' : base ≤ a := hab.resolve_right (fun z => by unfold ro at z; omega)
  obtain ⟨n, f, g2, g3, g4, g5, hcase⟩ : ∃ (n : Nat) (f : Nat → Option Nat), (ed a = eD ∨ va_at D vwCl (ed a, .inl (cy 2, n, .inr (.inr (.inr (.inr f))))) H) ∧ ln M a ≤ n ∧ n ≤ 150 ∧ (∀ i, i < ln M a → f i = fR M a i) ∧ ((ed a = eD ∧ ln M a = 0 ∧ n = 0 ∧ f = fR M eD) ∨ (ed a ≠ eD ∧ kd M (ed a) = 0 ∧ base ≤ ed a ∧ ∀ b, 400 ≤ kd M b % 1000 → ed b = ed a → b = a)) := by
    rcases h2 a ha with ⟨y1, y2⟩ | ⟨y1, y2, y3⟩
    · exact ⟨ln M eD, fR M eD, Or.inl y1, by rw [y2, h4]; exact Nat.le_refl _, by rw [h4]; decide, fun i hi => by rw [y2] at hi; omega, Or.inl ⟨y1, y2, h4, rfl⟩⟩
    · exact ⟨n, f, g2, g3, g4, g5, Or.inr ⟨fun z => absurd (show (390 : Nat) = 0 from by rw [z, h3] at y1; exact y1) (by decide), y1, y2, y3⟩⟩
  have hea : ed a ≠ a := by
    intro z
    rcases hcase with ⟨y1, -, -, -⟩ | ⟨-, y2, -⟩
    · exact hEa (y1.symm.trans z)
    · rw [z] at y2; exact hka y2
  refine ⟨ed a, n, f, mc, ⟨g3, g4, g5, hea, hcase.imp (fun z => ⟨z.1, z.2.1, z.2.2.1, z.2.2.2, h4⟩) (fun z => ⟨z.1, z.2.1⟩)⟩, ?_⟩
  have kO : ∀ b, kd (opn M a (ed a) n f mc) b = if b = a then 20 else if b = ed a then (if kd M (ed a) = 390 then 390 else 300) else kd M b := fun b => rfl
  have lO : ∀ b, ln (opn M a (ed a) n f mc) b = if b = ed a then n else ln M b := fun b => rfl
  have iO : ∀ b, b ≠ a → fI (opn M a (ed a) n f mc) b = fI M b := fun b hb => by
    show up2 (up2 M.2.1 a 0 mc) a 2 (nI (ln M a)) b = _
    rw [up2_na _ _ hb, up2_na _ _ hb]; rfl
  have rO : ∀ b, b ≠ a → fR (opn M a (ed a) n f mc) b = if b = ed a then f else fR M b := fun b hb => by
    show up2 (up1 M.2.2.2.1 (ed a) f) a 1 (some (ed a)) b = _
    rw [up2_na _ _ hb]; rfl
  have kE : (if kd M (ed a) = 390 then 390 else 300) = if ed a = eD then 390 else 300 := by
    rcases hcase with ⟨y1, -, -, -⟩ | ⟨y1, y2, -⟩
    · rw [y1, h3, if_pos rfl, if_pos rfl]
    · rw [y2, if_neg y1]; rfl
  refine ⟨ed, fun b hb => ?_, fun b hb => ?_, ?_, ?_, h5, fun b y1 y2 => ?_⟩
  · by_cases e1 : b = a
    · subst e1
      have k1 : kd (opn M b (ed b) n f mc) b = 20 := by rw [kO, if_pos rfl]
      refine ⟨okc_of (fun _ => ?_) (fun y => by rw [k1] at y; omega) (fun y => by rw [k1] at y; omega) (fun y => by rw [k1] at y; omega) (fun y => by rw [k1] at y; omega), Or.inl hab'⟩
      rw [k1]
      have ev : fvs (opn M b (ed b) n f mc) b 0 (cds (20 % 1000)) = [.int mc, .ref (ed b), .int (nI (ln M b))] := by
        show [fv1 _ b 0 0, fv1 _ b 1 2, fv1 _ b 2 0] = _
        have a1 : fI (opn M b (ed b) n f mc) b 0 = mc := by show up2 (up2 M.2.1 b 0 mc) b 2 (nI (ln M b)) b 0 = _; rw [up2_n _ _ (Or.inr (by decide)), up2_s]
        have a2 : fI (opn M b (ed b) n f mc) b 2 = nI (ln M b) := by show up2 (up2 M.2.1 b 0 mc) b 2 (nI (ln M b)) b 2 = _; rw [up2_s]
        have a3 : fR (opn M b (ed b) n f mc) b 1 = some (ed b) := by show up2 (up1 M.2.2.2.1 (ed b) f) b 1 (some (ed b)) b 1 = _; rw [up2_s]
        unfold fv1
        rw [a1, a2, a3]
        rfl
      rw [ev]
      exact g1
    · by_cases e2 : b = ed a
      · subst e2
        have k1 : kd (opn M a (ed a) n f mc) (ed a) = if ed a = eD then 390 else 300 := by rw [kO, if_neg e1, if_pos rfl, kE]
        have k2 : 300 ≤ kd (opn M a (ed a) n f mc) (ed a) % 1000 ∧ kd (opn M a (ed a) n f mc) (ed a) % 1000 < 400 := by rw [k1]; split <;> decide
        refine ⟨okc_of (fun y => by omega) (fun _ y => by omega) (fun _ y => by omega) (fun _ yy => ?_) (fun y => by omega), ?_⟩
        · rw [lO, if_pos rfl, rO _ e1, if_pos rfl]
          exact g2.resolve_left (fun z => by rw [k1, if_pos z] at yy; exact absurd yy (by decide))
        · rcases hcase with ⟨y1, -, -, -⟩ | ⟨y1, -, y3, -⟩
          · exact Or.inr (by rw [k1, if_pos y1]; exact Or.inr (by decide))
          · exact Or.inl y3
      · have k1 : kd (opn M a (ed a) n f mc) b = kd M b := by rw [kO, if_neg e1, if_neg e2]
        rw [k1] at hb
        obtain ⟨o1, o2⟩ := h1 b hb
        refine ⟨okc_to o1 k1 (iO b e1).symm rfl ?_ (by rw [lO, if_neg e2]), by rw [k1]; exact o2⟩
        rw [rO b e1, if_neg e2]
  · have e1 : b ≠ a := fun z => by subst z; rw [kO, if_pos rfl] at hb; omega
    have e2 : b ≠ ed a := fun z => by subst z; rw [kO, if_neg e1, if_pos rfl, kE] at hb; split at hb <;> omega
    have k1 : kd (opn M a (ed a) n f mc) b = kd M b := by rw [kO, if_neg e1, if_neg e2]
    rw [k1] at hb
    rw [lO, if_neg e2]
    rcases h2 b hb with y | ⟨y1, y2, y3⟩
    · exact Or.inl y
    · refine Or.inr ⟨?_, y2, fun c hc e3 => ?_⟩
      · have e4 : ed b ≠ a := fun z => by rw [z] at y1; exact hka y1
        have e5 : ed b ≠ ed a := fun z => e1 (y3 a ha z.symm).symm
        rw [kO, if_neg e4, if_neg e5]; exact y1
      · have e6 : c ≠ a := fun z => by subst z; rw [kO, if_pos rfl] at hc; omega
        have e7 : c ≠ ed a := fun z => by subst z; rw [kO, if_neg e6, if_pos rfl, kE] at hc; split at hc <;> omega
        rw [kO, if_neg e6, if_neg e7] at hc
        exact y3 c hc e3
  · by_cases e1 : eD = ed a
    · rw [kO, if_neg hEa, if_pos e1, kE, if_pos e1.symm]
    · rw [kO, if_neg hEa, if_neg e1]; exact h3
  · by_cases e1 : eD = ed a
    · rw [lO, if_pos e1]
      rcases hcase with ⟨-, -, y, -⟩ | ⟨y, -⟩
      · exact y
      · exact absurd e1.symm y
    · rw [lO, if_neg e1]; exact h4
  · by_cases e1 : b = a
    · rw [kO, if_pos e1] at y1; omega
    · by_cases e2 : b = ed a
      · rw [kO, if_neg e1, if_pos e2, kE] at y1
        by_cases e3 : ed a = eD
        · exact e2.trans e3
        · rw [if_neg e3] at y1; omega
      · rw [kO, if_neg e1, if_neg e2] at y1 y2; exact h6 b y1 y2
theorem rl_close {D : va_G} {cy : Nat → ClassId} {base eD : Nat} {M M' : Mm} {H : Heap} {a e c : Nat} (h : rl D cy base eD M H) (ka : kd M a = 20) (hr : fR M a 1 = some e) (hs : fI M a 2 = nI (ln M' a)) (he : (e = eD ∧ ln M' a = 0) ∨ (kd M e = 300 ∧ ln M' a ≤ ln M e ∧ ln M e ≤ 150)) (hc : 400 ≤ c % 1000)
    (k1 : kd M' a = c) (k2 : e = eD ∨ kd M' e = 0) (k3 : ∀ b, b ≠ a → kd M' b ≠ 0 → kd M' b = kd M b ∧ fI M' b = fI M b ∧ fL M' b = fL M b ∧ fR M' b = fR M b ∧ ln M' b = ln M b) (k4 : kd M' eD ≠ 0) (hf : ∀ i, i < ln M' a → fR M' a i = fR M e i) : rl D cy base eD M' H := by
  have hlt := fun (b : Nat) (hb : kd M b ≠ 0) => rl_lt h hb
  obtain ⟨ed, h1, h2, h3, h4, h5, h6⟩ := h
  have hEa : eD ≠ a := fun z => by subst z; rw [h3] at ka; omega
  have hab : base ≤ a := (h1 a (by rw [ka]; decide)).2.resolve_right (fun z => by unfold ro at z; rw [ka] at z; omega)
  have hoa := (h1 a (by rw [ka]; decide)).1.1 (by rw [ka]; decide)
  rw [ka] at hoa
  have ev : fvs M a 0 (cds (20 % 1000)) = [.int (fI M a 0), .ref e, .int (nI (ln M' a))] := by
    show [fv1 M a 0 0, fv1 M a 1 2, fv1 M a 2 0] = _
    unfold fv1
    rw [hs, hr]
    rfl
  rw [ev] at hoa
  have hke : kd M e ≠ 0 := by
    rcases he with ⟨y, -⟩ | ⟨y, -⟩
    · rw [y, h3]; decide
    · rw [y]; decide
  have hrow : e = eD ∨ va_at D vwCl (e, .inl (cy 2, ln M e, .inr (.inr (.inr (.inr (fR M e)))))) H := by
    rcases he with ⟨y, -⟩ | ⟨y, -⟩
    · exact Or.inl y
    · exact Or.inr ((h1 e hke).1.2.2.2.1 (by rw [y]; decide) (by rw [y]; decide))
  have hlen : ln M' a ≤ ln M e ∧ ln M e ≤ 150 := by
    rcases he with ⟨y, y2⟩ | ⟨-, y⟩
    · rw [y, h4, y2]; exact ⟨Nat.le_refl _, by decide⟩
    · exact y
  have old : ∀ b, b ≠ a → kd M' b ≠ 0 → kd M b ≠ 0 := fun b hb hb2 => by rw [← (k3 b hb hb2).1]; exact hb2
  obtain ⟨ed2, he1, he2⟩ : ∃ ed2 : Nat → Nat, ed2 a = e ∧ ∀ b, b ≠ a → ed2 b = ed b := ⟨up1 ed a e, up1_s _ _ _, fun b hb => up1_n _ _ hb⟩
  refine ⟨ed2, fun b hb => ?_, fun b hb => ?_, by rw [(k3 eD hEa k4).1]; exact h3, by rw [(k3 eD hEa k4).2.2.2.2]; exact h4, h5, fun b y1 y2 => ?_⟩
  · by_cases e1 : b = a
    · subst e1
      refine ⟨okc_of (fun y => by rw [k1] at y; omega) (fun _ y => by rw [k1] at y; omega) (fun _ y => by rw [k1] at y; omega) (fun _ y => by rw [k1] at y; omega) (fun _ => ?_), Or.inl hab⟩
      rw [he1]
      exact ⟨_, _, _, hoa, hrow, hlen.1, hlen.2, fun i hi => (hf i hi).symm⟩
    · obtain ⟨j1, j2, j3, j4, j5⟩ := k3 b e1 hb
      obtain ⟨o1, o2⟩ := h1 b (old b e1 hb)
      refine ⟨?_, by rw [j1]; exact o2⟩
      have o3 := okc_to o1 j1 j2.symm j3.symm j4.symm j5
      obtain ⟨p1, p2, p3, p4, p5⟩ := o3
      refine ⟨p1, p2, p3, p4, fun z => ?_⟩
      rw [he2 b e1]
      exact p5 z
  · by_cases e1 : b = a
    · subst e1
      rw [he1]
      rcases he with ⟨y, y2⟩ | ⟨y, -⟩
      · exact Or.inl ⟨y, y2⟩
      · have hne : e ≠ eD := fun z => by rw [z, h3] at y; omega
        refine Or.inr ⟨k2.resolve_left hne, ?_, fun d hd e2 => ?_⟩
        · exact (h1 e hke).2.resolve_right (fun z => by unfold ro at z; rw [y] at z; omega)
        · by_cases e3 : d = b
          · exact e3
          · rw [he2 d e3] at e2
            have hd0 : kd M' d ≠ 0 := fun z => by rw [z] at hd; simp at hd
            rw [(k3 d e3 hd0).1] at hd
            rcases h2 d hd with ⟨z1, -⟩ | ⟨z1, -⟩
            · exact absurd (e2.symm.trans z1) hne
            · rw [e2] at z1; exact absurd z1 hke
    · have hb0 : kd M' b ≠ 0 := fun z => by rw [z] at hb; simp at hb
      have hbk := (k3 b e1 hb0).1
      rw [hbk] at hb
      rw [he2 b e1, (k3 b e1 hb0).2.2.2.2]
      rcases h2 b hb with y | ⟨y1, y2, y3⟩
      · exact Or.inl y
      · have hba : ed b ≠ a := fun z => by rw [z, ka] at y1; cases y1
        refine Or.inr ⟨?_, y2, fun d hd e2 => ?_⟩
        · by_cases z : kd M' (ed b) = 0
          · exact z
          · exact absurd y1 (old _ hba z)
        · by_cases e3 : d = a
          · subst e3
            rw [he1] at e2
            rw [← e2] at y1
            exact absurd y1 hke
          · rw [he2 d e3] at e2
            have hd0 : kd M' d ≠ 0 := fun z => by rw [z] at hd; simp at hd
            rw [(k3 d e3 hd0).1] at hd
            exact y3 d hd e2
  · by_cases e1 : b = a
    · rw [e1, k1] at y1; rw [e1, k1] at y2; omega
    · have hb0 : kd M' b ≠ 0 := fun z => by rw [z] at y1; simp at y1
      rw [(k3 b e1 hb0).1] at y1 y2
      exact h6 b y1 y2
theorem z_open {X : Cx} {M : Mm} {cs sl pc a : Nat} {L : List (Nat × Value)} {st : List Value} (ha : 400 ≤ kd M a % 1000) (kk : ∀ (e n : Nat) (f : Nat → Option Nat) (mc : Int32), rowOK M (xE X).2.2.2.2 a e n f → kd M (xE X).2.2.2.2 = 390 → Z X (opn M a e n f mc) cs sl pc L st) : Z X M cs sl pc L st := by
  obtain ⟨p, l, e, R, s, m, args, below, meth, c, D, cy, base, eD, nL, Q⟩ := X
  intro H locs ls hr hS hl
  have h3 : kd M eD = 390 := by obtain ⟨ed, -, -, h, -⟩ := hr; exact h
  obtain ⟨e9, n9, f9, mc9, h1, h2⟩ := rl_open hr ha
  exact kk e9 n9 f9 mc9 h1 h3 H locs ls h2 hS hl
theorem z_close {X : Cx} {M M' : Mm} {cs sl pc a e c : Nat} {L : List (Nat × Value)} {st : List Value} (ka : kd M a = 20) (hr : fR M a 1 = some e) (hs : fI M a 2 = nI (ln M' a)) (he : (e = (xE X).2.2.2.2 ∧ ln M' a = 0) ∨ (kd M e = 300 ∧ ln M' a ≤ ln M e ∧ ln M e ≤ 150)) (hc : 400 ≤ c % 1000)
    (k1 : kd M' a = c) (k2 : e = (xE X).2.2.2.2 ∨ kd M' e = 0) (k3 : ∀ b, b ≠ a → kd M' b ≠ 0 → kd M' b = kd M b ∧ fI M' b = fI M b ∧ fL M' b = fL M b ∧ fR M' b = fR M b ∧ ln M' b = ln M b) (k4 : kd M' (xE X).2.2.2.2 ≠ 0) (hf : ∀ i, i < ln M' a → fR M' a i = fR M e i) (kk : Z X M' cs sl pc L st) : Z X M cs sl pc L st :=
  z_mem (fun D cy base H h => rl_close h ka hr hs he hc k1 k2 k3 k4 hf) kk
theorem kd_opn {M : Mm} {a e n : Nat} {f : Nat → Option Nat} {mc : Int32} {b : Nat} : kd (opn M a e n f mc) b = if b = a then 20 else if b = e then (if kd M e = 390 then 390 else 300) else kd M b := rfl
theorem ln_opn {M : Mm} {a e n : Nat} {f : Nat → Option Nat} {mc : Int32} {b : Nat} : ln (opn M a e n f mc) b = if b = e then n else ln M b := rfl
theorem fL_opn {M : Mm} {a e n : Nat} {f : Nat → Option Nat} {mc : Int32} {b : Nat} : fL (opn M a e n f mc) b = fL M b := rfl
theorem fI_opn {M : Mm} {a e n : Nat} {f : Nat → Option Nat} {mc : Int32} {b : Nat} (h : b ≠ a) : fI (opn M a e n f mc) b = fI M b := by
  show up2 (up2 M.2.1 a 0 mc) a 2 (nI (ln M a)) b = _
  rw [up2_na _ _ h, up2_na _ _ h]; rfl
theorem fI_opn0 {M : Mm} {a e n : Nat} {f : Nat → Option Nat} {mc : Int32} : fI (opn M a e n f mc) a 0 = mc := by
  show up2 (up2 M.2.1 a 0 mc) a 2 (nI (ln M a)) a 0 = _
  rw [up2_n _ _ (Or.inr (by decide)), up2_s]
theorem fI_opn2 {M : Mm} {a e n : Nat} {f : Nat → Option Nat} {mc : Int32} : fI (opn M a e n f mc) a 2 = nI (ln M a) := by
  show up2 (up2 M.2.1 a 0 mc) a 2 (nI (ln M a)) a 2 = _
  rw [up2_s]
theorem fR_opn1 {M : Mm} {a e n : Nat} {f : Nat → Option Nat} {mc : Int32} : fR (opn M a e n f mc) a 1 = some e := by
  show up2 (up1 M.2.2.2.1 e f) a 1 (some e) a 1 = _
  rw [up2_s]
theorem fR_opn {M : Mm} {a e n : Nat} {f : Nat → Option Nat} {mc : Int32} {b : Nat} (h : b ≠ a) : fR (opn M a e n f mc) b = if b = e then f else fR M b := by
  show up2 (up1 M.2.2.2.1 e f) a 1 (some e) b = _
  rw [up2_na _ _ h]; rfl
theorem opn_else {M : Mm} {eD a e n : Nat} {f : Nat → Option Nat} {mc : Int32} (r : rowOK M eD a e n f) (h3 : kd M eD = 390) {b : Nat} (hb : b ≠ a) (hk : kd M b ≠ 0) : kd M b = kd (opn M a e n f mc) b ∧ fI M b = fI (opn M a e n f mc) b ∧ fL M b = fL (opn M a e n f mc) b ∧ fR M b = fR (opn M a e n f mc) b ∧ ln M b = ln (opn M a e n f mc) b := by
  obtain ⟨r1, r2, r3, r4, r5⟩ := r
  rw [kd_opn, fI_opn hb, fL_opn, fR_opn hb, ln_opn, if_neg hb]
  by_cases e1 : b = e
  · rcases r5 with ⟨y1, y2, y3, y4, y5⟩ | ⟨-, y⟩
    · rw [if_pos e1, if_pos e1, if_pos e1, if_pos (by rw [y1]; exact h3), e1, y1]
      exact ⟨h3, rfl, rfl, y4.symm, by rw [y3]; exact y5⟩
    · rw [e1] at hk; exact absurd y hk
  · rw [if_neg e1, if_neg e1, if_neg e1]
    exact ⟨rfl, rfl, rfl, rfl, rfl⟩
theorem opn_row {M : Mm} {eD a e n : Nat} {f : Nat → Option Nat} {mc : Int32} (r : rowOK M eD a e n f) (h3 : kd M eD = 390) : ((e = eD ∧ ln M a = 0) ∨ (kd (opn M a e n f mc) e = 300 ∧ ln M a ≤ ln (opn M a e n f mc) e ∧ ln (opn M a e n f mc) e ≤ 150)) ∧ (e = eD ∨ kd M e = 0) ∧ ln (opn M a e n f mc) e = n ∧ fR (opn M a e n f mc) e = f := by
  obtain ⟨r1, r2, r3, r4, r5⟩ := r
  refine ⟨?_, ?_, by rw [ln_opn, if_pos rfl], by rw [fR_opn r4, if_pos rfl]⟩
  · rcases r5 with ⟨y1, y2, -⟩ | ⟨y1, y2⟩
    · exact Or.inl ⟨y1, y2⟩
    · refine Or.inr ?_
      rw [ln_opn, if_pos rfl, kd_opn, if_neg r4, if_pos rfl, y2]
      exact ⟨rfl, r1, r2⟩
  · rcases r5 with ⟨y1, -⟩ | ⟨-, y2⟩
    · exact Or.inl y1
    · exact Or.inr y2
theorem z_shut {X : Cx} {M : Mm} {cs sl pc a e n : Nat} {f : Nat → Option Nat} {mc : Int32} {L : List (Nat × Value)} {st : List Value} (r : rowOK M (xE X).2.2.2.2 a e n f) (h3 : kd M (xE X).2.2.2.2 = 390) (ha : 400 ≤ kd M a % 1000) (kk : Z X M cs sl pc L st) : Z X (opn M a e n f mc) cs sl pc L st := by
  obtain ⟨q1, q2, q3, q4⟩ := opn_row (mc := mc) r h3
  exact z_close (M' := M) (c := kd M a) (by rw [kd_opn, if_pos rfl]) fR_opn1 fI_opn2 q1 ha rfl q2 (fun b hb hk => opn_else r h3 hb hk) (by rw [h3]; decide) (fun i hi => by rw [q4]; exact (r.2.2.1 i hi).symm) kk
