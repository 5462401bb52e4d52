def NamOK (S : Ms) : Prop := gi S 17 = nI (cn S 17) ∧ cn S 17 ≤ 100 ∧ ∀ n, n < cn S 17 → LW 12 (wr (gL S 20 n)) ∧ gL S 20 n = lN (lv (wr (gL S 20 n)))
def ExOK (S : Ms) : Prop := gi S 31 = nI (cn S 31) ∧ cn S 31 ≤ 40
def OkF (S : Ms) : Prop := NamOK S ∧ LawOK S ∧ ExOK S
