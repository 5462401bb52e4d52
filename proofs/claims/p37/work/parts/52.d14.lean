theorem nI_p0 (a : Nat) : nI a + 0 = nI a := nI_add a 0
