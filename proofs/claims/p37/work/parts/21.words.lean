def lv : List Nat → Nat
  | [] => 0
  | x :: r => x + 27 * lv r
def LW (n : Nat) (r : List Nat) : Prop := r.length ≤ n ∧ ∀ x ∈ r, 1 ≤ x ∧ x ≤ 26
theorem LW.tl {n x : Nat} {r : List Nat} (h : LW (n + 1) (x :: r)) : LW n r := ⟨by have := h.1; simp at this; omega, fun y hy => h.2 y (List.mem_cons_of_mem _ hy)⟩
theorem LW.hd {n x : Nat} {r : List Nat} (h : LW n (x :: r)) : 1 ≤ x ∧ x ≤ 26 := h.2 x List.mem_cons_self
theorem LW.mono {n m : Nat} {r : List Nat} (h : LW n r) (hm : n ≤ m) : LW m r := ⟨Nat.le_trans h.1 hm, h.2⟩
theorem LW.rev {n : Nat} {r : List Nat} (h : LW n r) : LW n r.reverse := ⟨by rw [List.length_reverse]; exact h.1, fun x hx => h.2 x (List.mem_reverse.mp hx)⟩
theorem lvv_lt : ∀ (r : List Nat), (∀ x ∈ r, x ≤ 26) → lv r < 27 ^ r.length
  | [], _ => by decide
  | x :: r, h => by
    have h1 := lvv_lt r (fun y hy => h y (List.mem_cons_of_mem _ hy))
    have h2 := h x List.mem_cons_self
    show x + 27 * lv r < 27 ^ (r.length + 1)
    rw [Nat.pow_succ]
    omega
theorem p12 : (27 : Nat) ^ 12 < 2 ^ 63 := by decide
theorem p12v : (27 : Nat) ^ 12 = 150094635296999121 := by decide
theorem LW.lt {n : Nat} {r : List Nat} (h : LW n r) : lv r < 27 ^ n := Nat.lt_of_lt_of_le (lvv_lt r (fun x hx => (h.2 x hx).2)) (Nat.pow_le_pow_right (by decide) h.1)
theorem LW.lt63 {n : Nat} {r : List Nat} (h : LW n r) (hn : n ≤ 12) : lv r < 2 ^ 63 := Nat.lt_trans (Nat.lt_of_lt_of_le h.lt (Nat.pow_le_pow_right (by decide) hn)) p12
theorem lv_mod {x : Nat} {r : List Nat} (h : x ≤ 26) : lv (x :: r) % 27 = x := by show (x + 27 * lv r) % 27 = x; omega
theorem lv_div {x : Nat} {r : List Nat} (h : x ≤ 26) : lv (x :: r) / 27 = lv r := by show (x + 27 * lv r) / 27 = lv r; omega
theorem lv_pos {x : Nat} {r : List Nat} (h : 1 ≤ x) : 0 < lv (x :: r) := by show 0 < x + 27 * lv r; omega
theorem lv_z {n : Nat} {r : List Nat} (h : LW n r) : lv r = 0 ↔ r = [] := by
  cases r with
  | nil => exact ⟨fun _ => rfl, fun _ => rfl⟩
  | cons x r => exact ⟨fun z => absurd z (Nat.ne_of_gt (lv_pos h.hd.1)), fun z => by cases z⟩
theorem lv_inj {n : Nat} : ∀ {r s : List Nat}, LW n r → LW n s → lv r = lv s → r = s := by
  induction n with
  | zero =>
    intro r s hr hs _
    rw [List.length_eq_zero_iff.mp (Nat.le_zero.mp hr.1), List.length_eq_zero_iff.mp (Nat.le_zero.mp hs.1)]
  | succ n ih =>
    intro r s hr hs h
    cases r with
    | nil => exact ((lv_z hs).mp h.symm).symm
    | cons x r =>
      cases s with
      | nil => exact (lv_z hr).mp h
      | cons y s =>
        have h1 := hr.hd
        have h2 := hs.hd
        have e1 : x = y := by rw [← lv_mod (r := r) h1.2, h, lv_mod h2.2]
        have e2 : lv r = lv s := by rw [← lv_div (r := r) h1.2, h, lv_div h2.2]
        rw [e1, ih hr.tl hs.tl e2]
def wN : Nat → Nat → Bool
  | 0, m => decide (m = 0)
  | k + 1, m => if m = 0 then true else if m % 27 = 0 then false else wN k (m / 27)
theorem wN_iff : ∀ (k m : Nat), wN k m = true ↔ ∃ r, LW k r ∧ m = lv r
  | 0, m => by
    unfold wN
    rw [decide_eq_true_iff]
    constructor
    · intro h; exact ⟨[], ⟨Nat.le_refl _, fun x hx => by cases hx⟩, h⟩
    · rintro ⟨r, hr, rfl⟩
      rw [List.length_eq_zero_iff.mp (Nat.le_zero.mp hr.1)]; rfl
  | k + 1, m => by
    unfold wN
    by_cases c1 : m = 0
    · rw [if_pos c1]
      exact ⟨fun _ => ⟨[], ⟨Nat.zero_le _, fun x hx => by cases hx⟩, c1⟩, fun _ => rfl⟩
    · rw [if_neg c1]
      by_cases c2 : m % 27 = 0
      · rw [if_pos c2]
        refine ⟨fun h => (nomatch h), ?_⟩
        rintro ⟨r, hr, rfl⟩
        cases r with
        | nil => exact absurd rfl c1
        | cons x r =>
          rw [lv_mod hr.hd.2] at c2
          have := hr.hd.1
          omega
      · rw [if_neg c2, wN_iff k]
        constructor
        · rintro ⟨r, hr, h⟩
          refine ⟨m % 27 :: r, ⟨by have := hr.1; simp; omega, fun y hy => ?_⟩, ?_⟩
          · rcases List.mem_cons.mp hy with e | e
            · subst e; omega
            · exact hr.2 y e
          · show m = m % 27 + 27 * lv r
            rw [← h]; omega
        · rintro ⟨r, hr, rfl⟩
          cases r with
          | nil => exact absurd rfl c1
          | cons x r => exact ⟨r, hr.tl, lv_div hr.hd.2⟩
def isWd (n : Nat) (w : Int64) : Bool := decide (0 < w) && wN n w.toInt.toNat
theorem lN_of (w : Int64) (h : 0 < w) : ∃ m : Nat, 0 < m ∧ m < 2 ^ 63 ∧ w = lN m ∧ w.toInt.toNat = m := by
  obtain ⟨m, h1, h2⟩ := pk_lOf (x := w) (fun z => by have h3 := Int64.lt_iff_toInt_lt.mp z; have h4 := Int64.lt_iff_toInt_lt.mp h; omega)
  refine ⟨m, ?_, h1, h2, ?_⟩
  · rcases Nat.eq_zero_or_pos m with z | z
    · subst z; subst h2; exact absurd h (by decide)
    · exact z
  · rw [h2, pk_lT h1]; rfl
theorem isWd_of {n : Nat} {w : Int64} (h : isWd n w = true) : ∃ r, LW n r ∧ r ≠ [] ∧ w = lN (lv r) := by
  unfold isWd at h
  rw [Bool.and_eq_true, decide_eq_true_iff] at h
  obtain ⟨m, h1, h2, h3, h4⟩ := lN_of w h.1
  obtain ⟨r, hr, e⟩ := (wN_iff n m).mp (by rw [← h4]; exact h.2)
  exact ⟨r, hr, fun z => by rw [z] at e; change m = 0 at e; omega, by rw [h3, e]⟩
theorem c0_eq {m : Nat} (hm : m < 2 ^ 63) : lg_cmp (lN m) 0 = 0 ↔ m = 0 := (lg_cmp_eq _ _).trans (pk_lEQ (b := 0) hm (by decide))
theorem c0_le {m : Nat} (hm : m < 2 ^ 63) : lg_cmp (lN m) 0 ≤ 0 ↔ m = 0 := (lg_cmp_le _ _).trans ((pk_lLE (b := 0) hm (by decide)).trans Nat.le_zero)
theorem rem27 {m : Nat} (hm : m < 2 ^ 63) : lN m - lN m / 27 * 27 = lN (m % 27) := pk_lRem (b := 27) hm (by decide) (by decide)
theorem div27 {m : Nat} (hm : m < 2 ^ 63) : lN m / 27 = lN (m / 27) := pk_lDiv (b := 27) hm (by decide) (by decide)
theorem mul27 (m : Nat) : lN m * 27 = lN (27 * m) := by rw [show (27 : Int64) = lN 27 from rfl, lN_mul, Nat.mul_comm]
