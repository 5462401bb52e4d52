def levR (x : Nat) (f : List Nat → Nat) : List Nat → Nat
  | [] => f [] + 1
  | y :: b => min (f b + (if x = y then 0 else 1)) (min (f (y :: b) + 1) (levR x f b + 1))
def lev : List Nat → List Nat → Nat
  | [] => fun b => b.length
  | x :: a => levR x (lev a)
theorem lev_nil : ∀ a : List Nat, lev a [] = a.length
  | [] => rfl
  | x :: a => by show lev a [] + 1 = _; rw [lev_nil a]; rfl
theorem lev_le1 (x : Nat) (a b : List Nat) : lev (x :: a) b ≤ lev a b + 1 := by
  cases b with
  | nil => exact Nat.le_refl _
  | cons y b => show min _ (min (lev a (y :: b) + 1) _) ≤ _; omega
theorem lev_le : ∀ a b : List Nat, lev a b ≤ a.length + b.length
  | [], b => by show b.length ≤ _; simp
  | x :: a, b => by
    have := lev_le1 x a b
    have := lev_le a b
    simp only [List.length_cons]; omega
def lvD (u r : List Nat) (n i : Nat) : Nat := lev (u.take n).reverse (r.drop (r.length - i))
theorem lvD_0 (u r : List Nat) {i : Nat} (h : i ≤ r.length) : lvD u r 0 i = i := by
  unfold lvD
  show (r.drop (r.length - i)).length = i
  rw [List.length_drop]; omega
theorem lvD_n0 (u r : List Nat) {n : Nat} (h : n ≤ u.length) : lvD u r n 0 = n := by
  unfold lvD
  rw [Nat.sub_zero, List.drop_length, lev_nil, List.length_reverse, List.length_take]; omega
theorem lvD_le (u r : List Nat) {n i : Nat} : lvD u r n i ≤ n + r.length := by
  unfold lvD
  have h := lev_le (u.take n).reverse (r.drop (r.length - i))
  rw [List.length_reverse, List.length_take, List.length_drop] at h
  omega
theorem lvD_s {u r : List Nat} {n i x y : Nat} (hx : u[n]? = some x) (hi : i + 1 ≤ r.length) (hy : r[r.length - (i + 1)]? = some y) :
    lvD u r (n + 1) (i + 1) = min (lvD u r n i + (if x = y then 0 else 1)) (min (lvD u r n (i + 1) + 1) (lvD u r (n + 1) i + 1)) := by
  have e1 : (u.take (n + 1)).reverse = x :: (u.take n).reverse := by rw [List.take_succ, hx]; simp
  have e2 : r.drop (r.length - (i + 1)) = y :: r.drop (r.length - i) := by
    have hlt : r.length - (i + 1) < r.length := by omega
    rw [List.drop_eq_getElem_cons hlt]
    rw [List.getElem?_eq_getElem hlt] at hy
    cases hy
    rw [show r.length - (i + 1) + 1 = r.length - i by omega]
  unfold lvD
  rw [e1, e2]
  rfl
theorem lvD_all {u r : List Nat} : lvD u r u.length r.length = lev u.reverse r := by
  unfold lvD
  rw [List.take_length, Nat.sub_self, List.drop_zero]
