theorem z_iinc1 {X : Cx} {cc : ByteArray} {own : String} {M : Mm} {cs sl pc : Nat} {L : List (Nat × Value)} {st : List Value} (g : Gd X cc own) {i : Nat} {x : Int32} (d : decode cc pc = .ok (.iinc i 1, 3)) (h : lkp L i = some (.int x)) (hn : i < xN X) (kk : Z X M cs sl (pc + 3) (st1 L i (.int (x + 1))) st) : Z X M cs sl pc L st := z_iinc g d h rfl hn kk
theorem z_iincm {X : Cx} {cc : ByteArray} {own : String} {M : Mm} {cs sl pc : Nat} {L : List (Nat × Value)} {st : List Value} (g : Gd X cc own) {i : Nat} {x : Int32} (d : decode cc pc = .ok (.iinc i (-1), 3)) (h : lkp L i = some (.int x)) (hn : i < xN X) (kk : Z X M cs sl (pc + 3) (st1 L i (.int (x + (-1)))) st) : Z X M cs sl pc L st := z_iinc g d h rfl hn kk
theorem z_iinc6 {X : Cx} {cc : ByteArray} {own : String} {M : Mm} {cs sl pc : Nat} {L : List (Nat × Value)} {st : List Value} (g : Gd X cc own) {i : Nat} {x : Int32} (d : decode cc pc = .ok (.iinc i 6, 3)) (h : lkp L i = some (.int x)) (hn : i < xN X) (kk : Z X M cs sl (pc + 3) (st1 L i (.int (x + 6))) st) : Z X M cs sl pc L st := z_iinc g d h rfl hn kk
theorem z_ialdk {X : Cx} {cc : ByteArray} {own : String} {M : Mm} {cs sl pc : Nat} {L : List (Nat × Value)} {st : List Value} (g : Gd X cc own) {a k : Nat} {i : Int32} (hk : kd M a % 1000 = k) (hc : 100 ≤ k ∧ k < 200) (hin : vp_in i (ln M a)) (d : decode cc pc = .ok (.iaload, 1)) (kk : Z X M cs sl (pc + 1) L (.int (fI M a i.toNatClampNeg) :: st)) : Z X M cs sl pc L (.int i :: .ref a :: st) := z_iald g (by omega) (by omega) hin d kk
theorem z_iastk {X : Cx} {cc : ByteArray} {own : String} {M : Mm} {cs sl pc : Nat} {L : List (Nat × Value)} {st : List Value} (g : Gd X cc own) {a k : Nat} {i x : Int32} (hk : kd M a % 1000 = k) (hc : 100 ≤ k ∧ k < 190) (hin : vp_in i (ln M a)) (d : decode cc pc = .ok (.iastore, 1)) (kk : Z X (sI M a i.toNatClampNeg x) cs sl (pc + 1) L st) : Z X M cs sl pc L (.int x :: .int i :: .ref a :: st) := z_iast g (by omega) (by omega) hin d kk
theorem z_alenIk {X : Cx} {cc : ByteArray} {own : String} {M : Mm} {cs sl pc : Nat} {L : List (Nat × Value)} {st : List Value} (g : Gd X cc own) {a k : Nat} (hk : kd M a % 1000 = k) (hc : 100 ≤ k ∧ k < 200) (d : decode cc pc = .ok (.arraylength, 1)) (kk : Z X M cs sl (pc + 1) L (.int (nI (ln M a)) :: st)) : Z X M cs sl pc L (.ref a :: st) := z_alenI g (by omega) (by omega) d kk
def b2i (b : Bool) : Int32 := if b then 1 else 0
theorem b2i_t : b2i true = 1 := rfl
theorem b2i_f : b2i false = 0 := rfl
theorem nar_b (b : Bool) : narrow .boolean (.int (b2i b)) = .int (b2i b) := by cases b <;> first | rfl | decide
theorem b2i_01 (b : Bool) : b2i b = 0 ∨ b2i b = 1 := by cases b <;> first | exact Or.inl rfl | exact Or.inr rfl
theorem b2i_0 {b : Bool} : b2i b = 0 ↔ b = false := by cases b <;> decide
theorem b2i_n0 {b : Bool} : ¬ b2i b = 0 ↔ b = true := by cases b <;> decide
def ansI (v : Int32) (M : Mm) : Option Value → Mm → Prop := fun r M' => r = some (.int v) ∧ M = M'
def ansL (v : Int64) (M : Mm) : Option Value → Mm → Prop := fun r M' => r = some (.long v) ∧ M = M'
def ansR (v : Nat) (M : Mm) : Option Value → Mm → Prop := fun r M' => r = some (.ref v) ∧ M = M'
def ansV (M : Mm) : Option Value → Mm → Prop := fun r M' => r = none ∧ M = M'
