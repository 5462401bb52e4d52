abbrev Mm : Type := (Nat → Nat) × (Nat → Nat → Int32) × (Nat → Nat → Int64) × (Nat → Nat → Option Nat) × (Nat → Nat)
def kd (M : Mm) (a : Nat) : Nat := M.1 a
def fI (M : Mm) (a k : Nat) : Int32 := M.2.1 a k
def fL (M : Mm) (a k : Nat) : Int64 := M.2.2.1 a k
def fR (M : Mm) (a k : Nat) : Option Nat := M.2.2.2.1 a k
def ln (M : Mm) (a : Nat) : Nat := M.2.2.2.2 a
def up1 {α : Type} (f : Nat → α) (a : Nat) (v : α) : Nat → α := fun b => if b = a then v else f b
def up2 {α : Type} (f : Nat → Nat → α) (a k : Nat) (v : α) : Nat → Nat → α := fun b j => if b = a ∧ j = k then v else f b j
def sI (M : Mm) (a k : Nat) (v : Int32) : Mm := (M.1, up2 M.2.1 a k v, M.2.2.1, M.2.2.2.1, M.2.2.2.2)
def sL (M : Mm) (a k : Nat) (v : Int64) : Mm := (M.1, M.2.1, up2 M.2.2.1 a k v, M.2.2.2.1, M.2.2.2.2)
def sR (M : Mm) (a k : Nat) (v : Option Nat) : Mm := (M.1, M.2.1, M.2.2.1, up2 M.2.2.2.1 a k v, M.2.2.2.2)
def sN (M : Mm) (a n : Nat) : Mm := (M.1, M.2.1, M.2.2.1, M.2.2.2.1, up1 M.2.2.2.2 a n)
def sK (M : Mm) (a c : Nat) : Mm := (up1 M.1 a c, M.2)
def al (M : Mm) (a c n : Nat) : Mm := (up1 M.1 a c, up1 M.2.1 a (fun _ => 0), up1 M.2.2.1 a (fun _ => 0), up1 M.2.2.2.1 a (fun _ => none), up1 M.2.2.2.2 a n)
theorem up1_s {α : Type} (f : Nat → α) (a : Nat) (v : α) : up1 f a v a = v := if_pos rfl
theorem up1_n {α : Type} (f : Nat → α) {a b : Nat} (v : α) (h : b ≠ a) : up1 f a v b = f b := if_neg h
theorem up2_s {α : Type} (f : Nat → Nat → α) (a k : Nat) (v : α) : up2 f a k v a k = v := if_pos ⟨rfl, rfl⟩
theorem up2_n {α : Type} (f : Nat → Nat → α) {a k b j : Nat} (v : α) (h : b ≠ a ∨ j ≠ k) : up2 f a k v b j = f b j := if_neg (fun q => h.elim (fun z => z q.1) (fun z => z q.2))
theorem up2_na {α : Type} (f : Nat → Nat → α) {a k b : Nat} (v : α) (h : b ≠ a) : up2 f a k v b = f b := funext fun _ => if_neg (fun q => h q.1)
theorem kd_sI {M : Mm} {a k : Nat} {v : Int32} {b : Nat} : kd (sI M a k v) b = kd M b := rfl
theorem kd_sL {M : Mm} {a k : Nat} {v : Int64} {b : Nat} : kd (sL M a k v) b = kd M b := rfl
theorem kd_sR {M : Mm} {a k : Nat} {v : Option Nat} {b : Nat} : kd (sR M a k v) b = kd M b := rfl
theorem kd_sN {M : Mm} {a n : Nat} {b : Nat} : kd (sN M a n) b = kd M b := rfl
theorem kd_sK {M : Mm} {a c b : Nat} : kd (sK M a c) b = if b = a then c else kd M b := rfl
theorem kd_al {M : Mm} {a c n b : Nat} : kd (al M a c n) b = if b = a then c else kd M b := rfl
theorem fI_sI {M : Mm} {a k : Nat} {v : Int32} {b j : Nat} : fI (sI M a k v) b j = if b = a ∧ j = k then v else fI M b j := rfl
theorem fI_sL {M : Mm} {a k : Nat} {v : Int64} {b j : Nat} : fI (sL M a k v) b j = fI M b j := rfl
theorem fI_sR {M : Mm} {a k : Nat} {v : Option Nat} {b j : Nat} : fI (sR M a k v) b j = fI M b j := rfl
theorem fI_sN {M : Mm} {a n : Nat} {b j : Nat} : fI (sN M a n) b j = fI M b j := rfl
theorem fI_sK {M : Mm} {a c b j : Nat} : fI (sK M a c) b j = fI M b j := rfl
theorem fI_al {M : Mm} {a c n b j : Nat} : fI (al M a c n) b j = if b = a then 0 else fI M b j := by
  unfold fI al up1; dsimp only; split <;> rfl
theorem fL_sI {M : Mm} {a k : Nat} {v : Int32} {b j : Nat} : fL (sI M a k v) b j = fL M b j := rfl
theorem fL_sL {M : Mm} {a k : Nat} {v : Int64} {b j : Nat} : fL (sL M a k v) b j = if b = a ∧ j = k then v else fL M b j := rfl
theorem fL_sR {M : Mm} {a k : Nat} {v : Option Nat} {b j : Nat} : fL (sR M a k v) b j = fL M b j := rfl
theorem fL_sN {M : Mm} {a n : Nat} {b j : Nat} : fL (sN M a n) b j = fL M b j := rfl
theorem fL_sK {M : Mm} {a c b j : Nat} : fL (sK M a c) b j = fL M b j := rfl
theorem fL_al {M : Mm} {a c n b j : Nat} : fL (al M a c n) b j = if b = a then 0 else fL M b j := by
  unfold fL al up1; dsimp only; split <;> rfl
theorem fR_sI {M : Mm} {a k : Nat} {v : Int32} {b j : Nat} : fR (sI M a k v) b j = fR M b j := rfl
theorem fR_sL {M : Mm} {a k : Nat} {v : Int64} {b j : Nat} : fR (sL M a k v) b j = fR M b j := rfl
theorem fR_sR {M : Mm} {a k : Nat} {v : Option Nat} {b j : Nat} : fR (sR M a k v) b j = if b = a ∧ j = k then v else fR M b j := rfl
theorem fR_sN {M : Mm} {a n : Nat} {b j : Nat} : fR (sN M a n) b j = fR M b j := rfl
theorem fR_sK {M : Mm} {a c b j : Nat} : fR (sK M a c) b j = fR M b j := rfl
theorem fR_al {M : Mm} {a c n b j : Nat} : fR (al M a c n) b j = if b = a then none else fR M b j := by
  unfold fR al up1; dsimp only; split <;> rfl
theorem ln_sI {M : Mm} {a k : Nat} {v : Int32} {b : Nat} : ln (sI M a k v) b = ln M b := rfl
theorem ln_sL {M : Mm} {a k : Nat} {v : Int64} {b : Nat} : ln (sL M a k v) b = ln M b := rfl
theorem ln_sR {M : Mm} {a k : Nat} {v : Option Nat} {b : Nat} : ln (sR M a k v) b = ln M b := rfl
theorem ln_sN {M : Mm} {a n b : Nat} : ln (sN M a n) b = if b = a then n else ln M b := rfl
theorem ln_sK {M : Mm} {a c b : Nat} : ln (sK M a c) b = ln M b := rfl
theorem ln_al {M : Mm} {a c n b : Nat} : ln (al M a c n) b = if b = a then n else ln M b := rfl
def fv1 (M : Mm) (a k c : Nat) : Value := if c = 0 then .int (fI M a k) else if c = 1 then .long (fL M a k) else va_rf (fR M a k)
def fvs (M : Mm) (a : Nat) : Nat → List Nat → List Value
  | _, [] => []
  | k, c :: cs => fv1 M a k c :: fvs M a (k + 1) cs
theorem fvs_get (M : Mm) (a : Nat) : ∀ (cs : List Nat) (k j c : Nat), cs[j]? = some c → (fvs M a k cs)[j]? = some (fv1 M a (k + j) c)
  | [], k, j, c, h => by simp at h
  | c0 :: cs, k, 0, c, h => by
    have e : c0 = c := by simpa using h
    subst e; rfl
  | c0 :: cs, k, j + 1, c, h => by
    have h2 : cs[j]? = some c := by simpa using h
    have := fvs_get M a cs (k + 1) j c h2
    rw [show k + (j + 1) = k + 1 + j by omega]
    simpa [fvs] using this
theorem fvs_len (M : Mm) (a : Nat) : ∀ (cs : List Nat) (k : Nat), (fvs M a k cs).length = cs.length
  | [], _ => rfl
  | _ :: cs, k => by simp [fvs, fvs_len M a cs (k + 1)]
theorem fvs_congr {M M' : Mm} {a : Nat} : ∀ (cs : List Nat) (k : Nat), (∀ j c, cs[j]? = some c → fv1 M a (k + j) c = fv1 M' a (k + j) c) → fvs M a k cs = fvs M' a k cs
  | [], _, _ => rfl
  | c0 :: cs, k, h => by
    have h0 := h 0 c0 (by simp)
    have ih := fvs_congr (M := M) (M' := M') (a := a) cs (k + 1) (fun j c hj => by
      have h9 := h (j + 1) c (by simpa using hj)
      rw [show k + 1 + j = k + (j + 1) by omega]
      exact h9)
    simp only [fvs, ih]
    rw [show k + 0 = k by omega] at h0
    rw [h0]
theorem fvs_same {M M' : Mm} {a : Nat} (hi : fI M a = fI M' a) (hl : fL M a = fL M' a) (hr : fR M a = fR M' a) (k : Nat) (cs : List Nat) : fvs M a k cs = fvs M' a k cs :=
  fvs_congr cs k (fun j c _ => by unfold fv1; rw [hi, hl, hr])
theorem fvs_set {M M' : Mm} {a j : Nat} {c : Nat} {v : Value} : ∀ (cs : List Nat) (k : Nat), cs[j]? = some c → fv1 M' a (k + j) c = v → (∀ i d, i ≠ k + j → fv1 M' a i d = fv1 M a i d) → fvs M' a k cs = (fvs M a k cs).set j v := by
  induction j with
  | zero =>
    intro cs k hc hv ho
    cases cs with
    | nil => simp at hc
    | cons c0 cs =>
      have e : c0 = c := by simpa using hc
      subst e
      simp only [fvs, List.set_cons_zero]
      rw [show k + 0 = k by omega] at hv ho
      rw [hv]
      congr 1
      exact fvs_congr cs (k + 1) (fun j d _ => ho _ d (by omega))
  | succ j ih =>
    intro cs k hc hv ho
    cases cs with
    | nil => simp at hc
    | cons c0 cs =>
      simp only [fvs, List.set_cons_succ]
      rw [ho k c0 (by omega)]
      congr 1
      exact ih cs (k + 1) (by simpa using hc) (by rw [show k + 1 + j = k + (j + 1) by omega]; exact hv) (fun i d hi => ho i d (by omega))
def wkE (cy : Nat → ClassId) (eD : Nat) (H : Heap) : Prop := ∃ cell : Cell, H[eD]? = some cell ∧ cell.cls = cy 2 ∧ cell.slots.size = 0 ∧ cell.vm.isStatics = false
theorem wkE.lt {cy : Nat → ClassId} {eD : Nat} {H : Heap} (h : wkE cy eD H) : eD < H.size := by
  obtain ⟨cell, h1, -⟩ := h
  exact (Array.getElem?_eq_some_iff.mp h1).1
theorem wkE.kept {cy : Nat → ClassId} {eD : Nat} {H H1 : Heap} (h : wkE cy eD H) (h1 : H1[eD]? = H[eD]?) : wkE cy eD H1 := by
  obtain ⟨cell, g1, g2⟩ := h
  exact ⟨cell, by rw [h1]; exact g1, g2⟩
def okc (D : va_G) (cy : Nat → ClassId) (eD : Nat) (M : Mm) (ed : Nat → Nat) (a : Nat) (H : Heap) : Prop :=
  (kd M a % 1000 < 100 → va_at D vwCl (a, .inr (cix (kd M a % 1000), fvs M a 0 (cds (kd M a % 1000)))) H) ∧
  (100 ≤ kd M a % 1000 → kd M a % 1000 < 200 → va_at D vwCl (a, .inl (cy 0, ln M a, .inl (fI M a))) H) ∧
  (200 ≤ kd M a % 1000 → kd M a % 1000 < 300 → va_at D vwCl (a, .inl (cy 1, ln M a, .inr (.inl (fL M a)))) H) ∧
  (300 ≤ kd M a % 1000 → kd M a % 1000 < 390 → va_at D vwCl (a, .inl (cy 2, ln M a, .inr (.inr (.inr (.inr (fR M a)))))) H) ∧
  (400 ≤ kd M a % 1000 → ∃ (mc : Int32) (n : Nat) (f : Nat → Option Nat), va_at D vwCl (a, .inr (2, [.int mc, .ref (ed a), .int (nI (ln M a))])) H ∧
    (ed a = eD ∨ va_at D vwCl (ed a, .inl (cy 2, n, .inr (.inr (.inr (.inr f))))) H) ∧ ln M a ≤ n ∧ n ≤ 150 ∧ (∀ i, i < ln M a → f i = fR M a i))
def ro (c : Nat) : Prop := c % 1000 = 190 ∨ c % 1000 = 390
def rl (D : va_G) (cy : Nat → ClassId) (base eD : Nat) (M : Mm) (H : Heap) : Prop := ∃ ed : Nat → Nat,
  (∀ a, kd M a ≠ 0 → okc D cy eD M ed a H ∧ (base ≤ a ∨ ro (kd M a))) ∧
  (∀ a, 400 ≤ kd M a % 1000 → (ed a = eD ∧ ln M a = 0) ∨ (kd M (ed a) = 0 ∧ base ≤ ed a ∧ ∀ b, 400 ≤ kd M b % 1000 → ed b = ed a → b = a)) ∧
  kd M eD = 390 ∧ ln M eD = 0 ∧ wkE cy eD H ∧ ∀ a, 390 ≤ kd M a % 1000 → kd M a % 1000 < 400 → a = eD
theorem okc_kept {D : va_G} {cy : Nat → ClassId} {eD : Nat} {M : Mm} {ed : Nat → Nat} {a : Nat} {H H1 : Heap} (h : okc D cy eD M ed a H) (h1 : H1[a]? = H[a]?) (h2 : 400 ≤ kd M a % 1000 → H1[ed a]? = H[ed a]?) : okc D cy eD M ed a H1 := by
  obtain ⟨q1, q2, q3, q4, q5⟩ := h
  refine ⟨fun z => (q1 z).kept h1, fun z y => (q2 z y).kept h1, fun z y => (q3 z y).kept h1, fun z y => (q4 z y).kept h1, fun z => ?_⟩
  obtain ⟨mc, n, f, g1, g2, g3⟩ := q5 z
  exact ⟨mc, n, f, g1.kept h1, g2.imp id (fun y => y.kept (h2 z)), g3⟩
theorem okc_to {D : va_G} {cy : Nat → ClassId} {eD : Nat} {M M' : Mm} {ed : Nat → Nat} {a : Nat} {H : Heap} (h : okc D cy eD M ed a H) (hk : kd M' a = kd M a) (hi : fI M a = fI M' a) (hl : fL M a = fL M' a) (hr : fR M a = fR M' a) (hn : ln M' a = ln M a) : okc D cy eD M' ed a H := by
  unfold okc at h ⊢
  rw [hk, hn, ← hi, ← hl, ← hr, ← fvs_same hi hl hr 0 (cds (kd M a % 1000))]
  exact h
theorem rl_lt {D : va_G} {cy : Nat → ClassId} {base eD : Nat} {M : Mm} {H : Heap} (h : rl D cy base eD M H) {a : Nat} (hk : kd M a ≠ 0) : a < H.size := by
  obtain ⟨ed, h1, -, -, -, hwk, huq⟩ := h
  obtain ⟨⟨q1, q2, q3, q4, q5⟩, -⟩ := h1 a hk
  by_cases c1 : kd M a % 1000 < 100
  · exact (q1 c1).lt
  by_cases c2 : kd M a % 1000 < 200
  · exact (q2 (by omega) c2).lt
  by_cases c3 : kd M a % 1000 < 300
  · exact (q3 (by omega) c3).lt
  by_cases c4 : kd M a % 1000 < 390
  · exact (q4 (by omega) c4).lt
  by_cases c5 : kd M a % 1000 < 400
  · rw [huq a (by omega) c5]; exact hwk.lt
  obtain ⟨mc, n, f, g1, -⟩ := q5 (by omega)
  exact g1.lt
theorem rl_set {D : va_G} {cy : Nat → ClassId} {base eD : Nat} {M M' : Mm} {H H1 : Heap} {a : Nat} (h : rl D cy base eD M H) (hk : kd M a ≠ 0) (hlt : kd M a % 1000 < 400) (hro : ¬ ro (kd M a)) (oq : ∀ q, q ≠ a → H1[q]? = H[q]?)
    (hc : ∀ ed, okc D cy eD M ed a H → okc D cy eD M' ed a H1) (hk' : ∀ b, kd M' b = kd M b) (hn : ∀ b, ln M' b = ln M b) (ho : ∀ b, b ≠ a → fI M b = fI M' b ∧ fL M b = fL M' b ∧ fR M b = fR M' b) : rl D cy base eD M' H1 := by
  obtain ⟨ed, h1, h2, h3, h4, h5, h6⟩ := h
  have hEa : eD ≠ a := fun y => hro (Or.inr (by rw [← y, h3]))
  refine ⟨ed, fun b hb => ?_, fun b hb => ?_, by rw [hk']; exact h3, by rw [hn]; exact h4, h5.kept (oq eD hEa), fun b y1 y2 => h6 b (by rwa [hk'] at y1) (by rwa [hk'] at y2)⟩
  · rw [hk'] at hb
    obtain ⟨g1, g2⟩ := h1 b hb
    refine ⟨?_, by rw [hk']; exact g2⟩
    by_cases e : b = a
    · subst e; exact hc ed g1
    · have hx : 400 ≤ kd M b % 1000 → ed b ≠ a := by
        intro z y
        rcases h2 b z with ⟨y1, y2⟩ | ⟨y1, -⟩
        · rw [y1] at y
          subst y
          exact hro (Or.inr (by rw [h3]))
        · rw [y] at y1; exact hk y1
      obtain ⟨o1, o2, o3⟩ := ho b e
      exact okc_to (okc_kept g1 (oq b e) (fun z => oq _ (hx z))) (hk' b) o1 o2 o3 (hn b)
  · rw [hk'] at hb
    rcases h2 b hb with ⟨y1, y2⟩ | ⟨y1, y2, y3⟩
    · exact Or.inl ⟨y1, by rw [hn]; exact y2⟩
    · exact Or.inr ⟨by rw [hk']; exact y1, y2, fun c hc e => y3 c (by rwa [hk'] at hc) e⟩
theorem rl_new {D : va_G} {cy : Nat → ClassId} {base eD : Nat} {M : Mm} {H H1 : Heap} {k n : Nat} (h : rl D cy base eD M H) (hk : k % 1000 < 390) (hb : base ≤ H.size) (oq : ∀ q, q < H.size → H1[q]? = H[q]?)
    (hc : ∀ ed, okc D cy eD (al M H.size k n) ed H.size H1) : rl D cy base eD (al M H.size k n) H1 := by
  have hlt := fun (b : Nat) (hb : kd M b ≠ 0) => rl_lt h hb
  obtain ⟨ed, h1, h2, h3, h4, h5, h6⟩ := h
  have hE : eD ≠ H.size := fun e => absurd (hlt eD (by rw [h3]; decide)) (by omega)
  have hedl : ∀ b, 400 ≤ kd M b % 1000 → ed b < H.size := by
    intro b hb4
    obtain ⟨⟨-, -, -, -, q5⟩, -⟩ := h1 b (fun e => by rw [e] at hb4; simp at hb4)
    obtain ⟨mc, n, f, -, g2, -⟩ := q5 hb4
    rcases g2 with g2 | g2
    · rw [g2]; exact h5.lt
    · exact g2.lt
  refine ⟨ed, fun b hb' => ?_, fun b hb' => ?_, by rw [kd_al, if_neg hE]; exact h3, by rw [ln_al, if_neg hE]; exact h4, h5.kept (oq eD h5.lt), fun b y1 y2 => ?_⟩
  · by_cases e : b = H.size
    · subst e
      exact ⟨hc ed, Or.inl hb⟩
    · rw [kd_al, if_neg e] at hb'
      obtain ⟨g1, g2⟩ := h1 b hb'
      refine ⟨okc_to (okc_kept g1 (oq b (hlt b hb')) (fun z => oq _ (hedl b z))) (by rw [kd_al, if_neg e]) ?_ ?_ ?_ (by rw [ln_al, if_neg e]), by rw [kd_al, if_neg e]; exact g2⟩
      · funext j; rw [fI_al, if_neg e]
      · funext j; rw [fL_al, if_neg e]
      · funext j; rw [fR_al, if_neg e]
  · by_cases e : b = H.size
    · subst e
      rw [kd_al, if_pos rfl] at hb'
      omega
    · rw [kd_al, if_neg e] at hb'
      rw [ln_al, if_neg e]
      rcases h2 b hb' with ⟨y1, y2⟩ | ⟨y1, y2, y3⟩
      · exact Or.inl ⟨y1, y2⟩
      · refine Or.inr ⟨by rw [kd_al, if_neg (Nat.ne_of_lt (hedl b hb'))]; exact y1, y2, fun c hc' e2 => ?_⟩
        by_cases e3 : c = H.size
        · subst e3
          rw [kd_al, if_pos rfl] at hc'
          omega
        · rw [kd_al, if_neg e3] at hc'
          exact y3 c hc' e2
  · by_cases e : b = H.size
    · rw [kd_al, if_pos e] at y1; omega
    · rw [kd_al, if_neg e] at y1 y2; exact h6 b y1 y2
theorem rl_sK {D : va_G} {cy : Nat → ClassId} {base eD : Nat} {M : Mm} {H : Heap} {a c : Nat} (h : rl D cy base eD M H) (hk : kd M a ≠ 0) (hro : ¬ ro (kd M a)) (hc0 : c ≠ 0) (hc : c % 1000 = kd M a % 1000) : rl D cy base eD (sK M a c) H := by
  obtain ⟨ed, h1, h2, h3, h4, h5, h6⟩ := h
  have hE : eD ≠ a := fun e => by subst e; exact hro (Or.inr (by rw [h3]))
  have hm : ∀ b, kd (sK M a c) b % 1000 = kd M b % 1000 := by
    intro b
    rw [kd_sK]
    by_cases e : b = a
    · subst e; rw [if_pos rfl]; exact hc
    · rw [if_neg e]
  have hz : ∀ b, kd (sK M a c) b = 0 ↔ kd M b = 0 := by
    intro b
    rw [kd_sK]
    by_cases e : b = a
    · subst e; rw [if_pos rfl]; exact ⟨fun z => absurd z hc0, fun z => absurd z hk⟩
    · rw [if_neg e]
  refine ⟨ed, fun b hb => ?_, fun b hb => ?_, by rw [kd_sK, if_neg hE]; exact h3, h4, h5, fun b y1 y2 => h6 b (by rwa [hm] at y1) (by rwa [hm] at y2)⟩
  · obtain ⟨g1, g2⟩ := h1 b (fun z => hb ((hz b).mpr z))
    refine ⟨?_, ?_⟩
    · unfold okc at g1 ⊢
      rw [hm b, show fvs (sK M a c) b 0 (cds (kd M b % 1000)) = fvs M b 0 (cds (kd M b % 1000)) from fvs_same (M := sK M a c) (M' := M) (a := b) rfl rfl rfl 0 _]
      exact g1
    · rcases g2 with g2 | g2
      · exact Or.inl g2
      · refine Or.inr ?_
        unfold ro at g2 ⊢
        rw [hm b]; exact g2
  · rw [hm] at hb
    rcases h2 b hb with y | ⟨y1, y2, y3⟩
    · exact Or.inl y
    · exact Or.inr ⟨(hz _).mpr y1, y2, fun d hd e => y3 d (by rwa [hm] at hd) e⟩
