/-- the fields of a kind of objects: 0 a whole number, 1 a long, 2 a reference -/
def cds (b : Nat) : List Nat := match b with
  | 1 => [2, 2, 2]
  | 2 => [0, 0, 0]
  | 3 => [0, 0, 0]
  | 4 => [0, 0, 2, 2, 2, 2, 2, 0, 0, 0, 0, 0, 0, 0, 1]
  | 5 => [2]
  | 6 => [0, 0, 0, 0, 0, 0]
  | 7 => [0, 1, 0, 0, 0, 0]
  | 8 => [2, 0, 1, 0, 0, 0, 0, 0, 0, 2]
  | 9 => [1, 0, 0]
  | 10 => [2]
  | 11 => [2, 2, 2, 2, 2, 2, 2, 2, 2, 2, 0, 0, 0, 0]
  | 51 => [2, 2, 2]
  | 52 => [0, 0, 0]
  | 53 => [0, 0, 0]
  | 54 => [0, 0, 2, 2, 2, 2, 2, 0, 0, 0, 0, 0, 0, 0, 1]
  | 55 => [2]
  | 56 => [0, 0, 0, 0, 0, 0]
  | 57 => [0, 1, 0, 0, 0, 0]
  | 58 => [2, 0, 1, 0, 0, 0, 0, 0, 0, 2]
  | 59 => [1, 0, 0]
  | 60 => [2]
  | 61 => [2, 2, 2, 2, 2, 2, 2, 2, 2, 2, 0, 0, 0, 0]
  | 20 => [0, 2, 0]
  | _ => []
def cix (b : Nat) : Nat := if b = 20 then 2 else if 50 < b then b - 48 else b + 2
/-- the field that the class 'own' names by its entry idx: the k-th of the objects of kind b -/
def FL (own : String) (idx b k : Nat) : Prop := ∃ (C : String) (T : u_T) (N : Nat) (ref : String), vwCl[cix b]? = some (C, T, N) ∧ (∀ w ∈ u_ws C T N, w ∈ lw_tbl) ∧ k < N ∧
  (ref = (T k).1 ∨ Cond.sameField ref (T k).1 (T k).2.1 (T k).2.2.1 ∈ lw_tbl) ∧
  (Cond.fieldLink own idx ref (T k).2.1 (T k).2.2.1 ∈ lw_tbl ∨ ∃ host, Cond.fieldLinkNest own idx ref (T k).2.1 (T k).2.2.1 host ∈ lw_tbl)
/-- .. written: its type; a final one by its class's own constructor alone -/
def FP (own : String) (idx b k : Nat) (ty : FieldType) (fin : Bool) : Prop := ∃ (C : String) (T : u_T) (N : Nat) (ref : String) (ty0 : Nat → FieldType), vwCl[cix b]? = some (C, T, N) ∧ (∀ w ∈ u_ws C T N, w ∈ lw_tbl) ∧ k < N ∧
  (ref = (T k).1 ∨ Cond.sameField ref (T k).1 (T k).2.1 (T k).2.2.1 ∈ lw_tbl) ∧
  (Cond.fieldLink own idx ref (T k).2.1 (T k).2.2.1 ∈ lw_tbl ∨ ((T k).2.2.2 = false ∧ ∃ host, Cond.fieldLinkNest own idx ref (T k).2.1 (T k).2.2.1 host ∈ lw_tbl)) ∧
  (∀ k, k < N → parseFieldDescriptor (T k).2.2.1 = some (ty0 k)) ∧ (∀ a, a < N → ∀ b, b < N → a ≠ b → (T a).2.1 ≠ (T b).2.1) ∧ parseFieldDescriptor (T k).2.2.1 = some ty ∧ (T k).2.2.2 = fin ∧ (fin = true → (T k).1 = own)
/-- the class that 'own' names by its entry idx for new: the objects of kind b -/
def NW (own : String) (idx b : Nat) : Prop := ∃ (C : String) (T : u_T) (N : Nat) (ty : Nat → FieldType), vwCl[cix b]? = some (C, T, N) ∧ (∀ w ∈ u_ws C T N, w ∈ lw_tbl) ∧ (∀ k, k < N → parseFieldDescriptor (T k).2.2.1 = some (ty k)) ∧ N = (cds b).length ∧
  (∀ k t, (cds b)[k]? = some t → defaultValue (ty k) = if t = 0 then .int 0 else if t = 1 then .long 0 else .null) ∧ Cond.classLink own idx C ∈ lw_tbl ∧ Cond.instantiable C N ∈ lw_tbl ∧ Cond.initialized C ∈ lw_tbl
/-! calls: what the tables say of one -/
def CS (own : String) (idx : Nat) (y : MethodName) (cc : ByteArray) (n : Nat) (ret : Option FieldType) (np : Nat) : Prop :=
  (Cond.methodLink own idx y ∈ lw_tbl ∨ ∃ host, Cond.methodLinkNest own idx y host ∈ lw_tbl) ∧ Cond.static y ∈ lw_tbl ∧ Cond.code y cc n ret ∈ lw_tbl ∧ Cond.initialized y.cls ∈ lw_tbl ∧ (y.cls ≠ "java/lang/invoke/MethodHandle" ∧ y.cls ≠ "java/lang/invoke/VarHandle") ∧ (parseMethodDescriptor y.desc).map (fun d => d.parameters.length) = some np
def CV (own : String) (idx : Nat) (y : MethodName) (cc : ByteArray) (n : Nat) (ret : Option FieldType) (np b : Nat) : Prop :=
  (Cond.methodLink own idx y ∈ lw_tbl ∨ ∃ host, Cond.methodLinkNest own idx y host ∈ lw_tbl) ∧ Cond.instanceMethod y ∈ lw_tbl ∧ Cond.selects y.cls y y ∈ lw_tbl ∧ Cond.code y cc n ret ∈ lw_tbl ∧ Cond.initialized y.cls ∈ lw_tbl ∧ (y.cls ≠ "java/lang/invoke/MethodHandle" ∧ y.cls ≠ "java/lang/invoke/VarHandle") ∧ (parseMethodDescriptor y.desc).map (fun d => d.parameters.length) = some np ∧ (∃ (T : u_T) (N : Nat), vwCl[cix b]? = some (y.cls, T, N))
def CI (own : String) (idx : Nat) (y : MethodName) (cc : ByteArray) (n : Nat) (np : Nat) : Prop :=
  (Cond.methodLink own idx y ∈ lw_tbl ∨ ∃ host, Cond.methodLinkNest own idx y host ∈ lw_tbl) ∧ Cond.instanceMethod y ∈ lw_tbl ∧ Cond.code y cc n none ∈ lw_tbl ∧ Cond.initialized y.cls ∈ lw_tbl ∧ (y.cls ≠ "java/lang/invoke/MethodHandle" ∧ y.cls ≠ "java/lang/invoke/VarHandle") ∧ (parseMethodDescriptor y.desc).map (fun d => d.parameters.length) = some np ∧ y.name = "<init>"
