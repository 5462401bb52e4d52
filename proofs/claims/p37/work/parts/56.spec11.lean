def sgL (S : Ms) : Nat → Ms
  | 0 => S
  | k + 1 => wL (sgL S k) 56 (ca S 57 k) (sneA S (ca S 57 k) 0)
theorem sgL_f (S : Ms) : ∀ k, eqF S (sgL S k) ∧ gi (sgL S k) = gi S ∧ gA (sgL S k) = gA S
  | 0 => ⟨⟨rfl, rfl, rfl, rfl, ⟨rfl, rfl, rfl, rfl, rfl⟩, ⟨rfl, rfl, rfl, rfl, rfl, rfl⟩, rfl, rfl, rfl, rfl⟩, rfl, rfl⟩
  | k + 1 => by
    obtain ⟨h1, h2, h3⟩ := sgL_f S k
    exact ⟨h1, h2, h3⟩
def osL (S : Ms) (many : Nat) : Nat → Ms
  | 0 => S
  | k + 1 => wA (osL S many k) 57 k (gA S 57 (k + many))
theorem osL_f (S : Ms) (many : Nat) : ∀ k, gi (osL S many k) = gi S ∧ (∀ j, k ≤ j → gA (osL S many k) 57 j = gA S 57 j)
  | 0 => ⟨rfl, fun _ _ => rfl⟩
  | k + 1 => by
    obtain ⟨h1, h2⟩ := osL_f S many k
    refine ⟨h1, fun j hj => ?_⟩
    rw [osL, gA_wA, if_pos rfl]
    unfold pu
    rw [if_neg (by omega)]
    exact h2 j (by omega)
def manyA (S : Ms) : Nat := if cn S 58 ≤ cn S 59 then cn S 58 else cn S 59
def psA (S : Ms) : Ms := wi (osL (wi (sgL S (manyA S)) 58 (gi S 58 - nI (manyA S))) (manyA S) (cn S 58 - manyA S)) 1 (gi S 1 + 1)
def psN (S : Ms) : Nat → Ms
  | 0 => S
  | n + 1 => psA (psN S n)
def cPass (S : Ms) (d : Int32) : Int32 := if (!inB d 1 400) = true then 1 else if ¬ gi S 1 + d ≤ 9999 then 2 else 0
def sPass (S : Ms) (d : Int32) : Ms := psN (wi S 0 0) d.toNatClampNeg
def vPass (S : Ms) (d : Int32) : Int32 := gi (psN (wi S 0 0) d.toNatClampNeg) 1
