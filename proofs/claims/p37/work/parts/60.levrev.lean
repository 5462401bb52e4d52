abbrev Ali : Type := List (Option Nat × Option Nat)
def aF (L : Ali) : List Nat := L.filterMap (fun p => p.1)
def aS (L : Ali) : List Nat := L.filterMap (fun p => p.2)
def aC : Ali → Nat
  | [] => 0
  | p :: L => (if p.1 = p.2 then 0 else 1) + aC L
theorem lev_le2 (y : Nat) : ∀ a b : List Nat, lev a (y :: b) ≤ lev a b + 1
  | [], b => Nat.le_refl _
  | x :: a, b => by show min _ (min _ (levR x (lev a) b + 1)) ≤ levR x (lev a) b + 1; omega
theorem ali_le : ∀ L : Ali, lev (aF L) (aS L) ≤ aC L
  | [] => Nat.le_refl _
  | (none, none) :: L => by
    have h := ali_le L
    show lev (aF L) (aS L) ≤ (if (none : Option Nat) = none then 0 else 1) + aC L
    rw [if_pos rfl]; omega
  | (some x, none) :: L => by
    have h := ali_le L
    have h2 := lev_le1 x (aF L) (aS L)
    show lev (x :: aF L) (aS L) ≤ (if some x = none then 0 else 1) + aC L
    rw [if_neg (by simp)]; omega
  | (none, some y) :: L => by
    have h := ali_le L
    have h2 := lev_le2 y (aF L) (aS L)
    show lev (aF L) (y :: aS L) ≤ (if none = some y then 0 else 1) + aC L
    rw [if_neg (by simp)]; omega
  | (some x, some y) :: L => by
    have h := ali_le L
    show min (lev (aF L) (aS L) + (if x = y then 0 else 1)) _ ≤ (if some x = some y then 0 else 1) + aC L
    by_cases e : x = y
    · rw [if_pos e, if_pos (by rw [e])]; omega
    · rw [if_neg e, if_neg (by simpa using e)]; omega
theorem ali_ex : ∀ a b : List Nat, ∃ L : Ali, aF L = a ∧ aS L = b ∧ aC L = lev a b
  | [], [] => ⟨[], rfl, rfl, rfl⟩
  | [], y :: b => by
    obtain ⟨L, h1, h2, h3⟩ := ali_ex [] b
    refine ⟨(none, some y) :: L, h1, by show y :: aS L = _; rw [h2], ?_⟩
    show (if (none : Option Nat) = some y then 0 else 1) + aC L = b.length + 1
    rw [if_neg (by simp), h3]
    show 1 + b.length = _
    omega
  | x :: a, [] => by
    obtain ⟨L, h1, h2, h3⟩ := ali_ex a []
    refine ⟨(some x, none) :: L, by show x :: aF L = _; rw [h1], h2, ?_⟩
    show (if some x = none then 0 else 1) + aC L = lev a [] + 1
    rw [if_neg (by simp), h3]; omega
  | x :: a, y :: b => by
    obtain ⟨L1, p1, p2, p3⟩ := ali_ex a b
    obtain ⟨L2, q1, q2, q3⟩ := ali_ex a (y :: b)
    obtain ⟨L3, r1, r2, r3⟩ := ali_ex (x :: a) b
    have hd : lev (x :: a) (y :: b) = min (lev a b + (if x = y then 0 else 1)) (min (lev a (y :: b) + 1) (lev (x :: a) b + 1)) := rfl
    have hc : lev (x :: a) (y :: b) = lev a b + (if x = y then 0 else 1) ∨ lev (x :: a) (y :: b) = lev a (y :: b) + 1 ∨ lev (x :: a) (y :: b) = lev (x :: a) b + 1 := by rw [hd]; omega
    rcases hc with e | e | e
    · refine ⟨(some x, some y) :: L1, by show x :: aF L1 = _; rw [p1], by show y :: aS L1 = _; rw [p2], ?_⟩
      show (if some x = some y then 0 else 1) + aC L1 = _
      rw [e, p3]
      by_cases e2 : x = y
      · rw [if_pos e2, if_pos (by rw [e2])]; omega
      · rw [if_neg e2, if_neg (by simpa using e2)]; omega
    · refine ⟨(some x, none) :: L2, by show x :: aF L2 = _; rw [q1], q2, ?_⟩
      show (if some x = none then 0 else 1) + aC L2 = _
      rw [if_neg (by simp), e, q3]; omega
    · refine ⟨(none, some y) :: L3, r1, by show y :: aS L3 = _; rw [r2], ?_⟩
      show (if (none : Option Nat) = some y then 0 else 1) + aC L3 = _
      rw [if_neg (by simp), e, r3]; omega
theorem aC_app : ∀ L K : Ali, aC (L ++ K) = aC L + aC K
  | [], K => (Nat.zero_add _).symm
  | p :: L, K => by show _ + aC (L ++ K) = _ + aC L + aC K; rw [aC_app L K]; omega
theorem aC_rev : ∀ L : Ali, aC L.reverse = aC L
  | [] => rfl
  | p :: L => by rw [List.reverse_cons, aC_app, aC_rev L]; show aC L + (_ + 0) = _ + aC L; omega
theorem lev_rev1 (a b : List Nat) : lev a b ≤ lev a.reverse b.reverse := by
  obtain ⟨L, h1, h2, h3⟩ := ali_ex a.reverse b.reverse
  have h4 := ali_le L.reverse
  rw [aC_rev, h3] at h4
  unfold aF at h1 h4
  unfold aS at h2 h4
  rw [List.filterMap_reverse, List.filterMap_reverse, h1, h2, List.reverse_reverse, List.reverse_reverse] at h4
  exact h4
theorem lev_rev (a b : List Nat) : lev a.reverse b.reverse = lev a b := by
  refine Nat.le_antisymm ?_ (lev_rev1 a b)
  have h := lev_rev1 a.reverse b.reverse
  rw [List.reverse_reverse, List.reverse_reverse] at h
  exact h
theorem tk_app (u v : List Nat) : (u.take 12 ++ v).take 12 = (u ++ v).take 12 := by
  rcases Nat.lt_or_ge u.length 12 with z | z
  · rw [List.take_of_length_le (l := u) (by omega)]
  · rw [List.take_append_of_le_length (by rw [List.length_take]; omega), List.take_append_of_le_length z, List.take_take]
    congr 1
def one1 (l : Nat) : List Nat := if l = 0 then [] else [l]
theorem wl_tk {t : List Nat} (h : t.length ≤ 12) (l : Nat) : wl t l = ((t.reverse ++ one1 l).take 12).reverse := by
  unfold wl one1
  by_cases c : l = 0
  · rw [if_pos (Or.inl c), if_pos c, List.append_nil, List.take_of_length_le (by rw [List.length_reverse]; exact h), List.reverse_reverse]
  · rw [if_neg c]
    by_cases c2 : t.length = 12
    · rw [if_pos (Or.inr c2), List.take_append_of_le_length (by rw [List.length_reverse]; omega), List.take_of_length_le (by rw [List.length_reverse]; omega), List.reverse_reverse]
    · rw [if_neg (fun z => z.elim c c2), List.take_of_length_le (by rw [List.length_append, List.length_reverse]; simp; omega), List.reverse_append, List.reverse_reverse]; rfl
theorem wl_len {t : List Nat} (h : t.length ≤ 12) (l : Nat) : (wl t l).length ≤ 12 := by
  rw [wl_tk h, List.length_reverse, List.length_take]; omega
theorem chst_tk {a b c : Nat} (hbc : b = 0 → c = 0) {t : List Nat} (h : t.length ≤ 12) {x : Nat} (hx : x ≠ 0) : chst a b c t x = ((t.reverse ++ sub1 a b c x).take 12).reverse := by
  unfold chst sub1
  by_cases e : x = a
  · rw [if_pos e, if_pos e, wl_tk (wl_len h b), wl_tk h, List.reverse_reverse, tk_app, List.append_assoc]
    congr 3
    unfold one1
    by_cases hb : b = 0
    · rw [if_pos hb, if_pos (hbc hb), if_neg (show ¬ 0 < b by omega)]; rfl
    · rw [if_neg hb, if_pos (show 0 < b by omega)]
      by_cases hc : c = 0
      · rw [if_pos hc, if_neg (show ¬ 0 < c by omega)]; rfl
      · rw [if_neg hc, if_pos (show 0 < c by omega)]; rfl
  · rw [if_neg e, if_neg e, wl_tk h]
    unfold one1
    rw [if_neg hx]
theorem fold_tk {a b c : Nat} (hbc : b = 0 → c = 0) : ∀ (s t : List Nat), t.length ≤ 12 → (∀ x ∈ s, x ≠ 0) → s.foldl (chst a b c) t = ((t.reverse ++ s.flatMap (sub1 a b c)).take 12).reverse
  | [], t, h, _ => by
    show t = _
    rw [List.flatMap_nil, List.append_nil, List.take_of_length_le (by rw [List.length_reverse]; exact h), List.reverse_reverse]
  | x :: s, t, h, hs => by
    have h1 := chst_tk (a := a) hbc h (hs x List.mem_cons_self)
    have h2 : (chst a b c t x).length ≤ 12 := by rw [h1, List.length_reverse, List.length_take]; omega
    show s.foldl (chst a b c) (chst a b c t x) = _
    rw [fold_tk hbc s _ h2 (fun y hy => hs y (List.mem_cons_of_mem _ hy)), h1, List.reverse_reverse, tk_app, List.flatMap_cons, List.append_assoc]
theorem chg_apl {a b c : Nat} (hbc : b = 0 → c = 0) {r : List Nat} (hr : LW 12 r) : chg a b c r = (apl a b c r.reverse).reverse := by
  unfold chg apl
  rw [fold_tk hbc r.reverse [] (by decide) (fun x hx => by have := hr.2 x (List.mem_reverse.mp hx); omega)]
  rfl
