theorem m4 (a : Nat) : (4 : Int32) * nI a = nI (4 * a) := pk_mul 4 a
