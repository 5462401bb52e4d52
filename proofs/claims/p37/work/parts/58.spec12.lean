def S0n (n : Nat) : Ms := (fun k => if k = 59 then 2 else 0, fun k j => if k = 50 ∧ j < n then nI (j % 27) else 0, fun _ _ => 0)
