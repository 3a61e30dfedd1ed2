/-! ===== links: what an instruction's number means ===== -/
/-- a field of a class of ours: class ci, its place k -/
def kF (Nf : List (String × Nat × String × String × String)) (own : String) (idx ci k : Nat) : Prop :=
  ∃ (C : String) (T : u_T) (N : Nat), vwCl[ci]? = some (C, T, N) ∧ k < N ∧ (∀ w ∈ u_ws C T N, w ∈ Gw) ∧ (Cond.fieldLink own idx (T k).1 (T k).2.1 (T k).2.2.1 ∈ Gw ∨ (own, idx, (T k).1, (T k).2.1, (T k).2.2.1) ∈ Nf)
/-- a field that may be written: not final, its type ty -/
def kW (ci k : Nat) (ty : FieldType) : Prop :=
  ∃ (C : String) (T : u_T) (N : Nat) (ty0 : Nat → FieldType), vwCl[ci]? = some (C, T, N) ∧ (∀ j, j < N → parseFieldDescriptor (T j).2.2.1 = some (ty0 j)) ∧ (∀ a, a < N → ∀ b, b < N → a ≠ b → (T a).2.1 ≠ (T b).2.1) ∧ (T k).2.2.2 = false ∧ parseFieldDescriptor (T k).2.2.1 = some ty
/-- a final field, of the class own, written in its constructor -/
def kX (own : String) (ci k : Nat) (ty : FieldType) : Prop :=
  ∃ (C : String) (T : u_T) (N : Nat) (ty0 : Nat → FieldType), vwCl[ci]? = some (C, T, N) ∧ (∀ j, j < N → parseFieldDescriptor (T j).2.2.1 = some (ty0 j)) ∧ (∀ a, a < N → ∀ b, b < N → a ≠ b → (T a).2.1 ≠ (T b).2.1) ∧ (T k).2.2.2 = true ∧ (T k).1 = own ∧ parseFieldDescriptor (T k).2.2.1 = some ty
/-- a method: its code among the words, its class, its parameters' number -/
def kY (y : MethodName) (bytes : ByteArray) (maxL : Nat) (ret : Option FieldType) (np : Nat) : Prop :=
  Cond.code y bytes maxL ret ∈ Gw ∧ Cond.initialized y.cls ∈ Gw ∧ y.cls ≠ "java/lang/invoke/MethodHandle" ∧ y.cls ≠ "java/lang/invoke/VarHandle" ∧ (parseMethodDescriptor y.desc).map (fun d => d.parameters.length) = some np ∧ maxL ≤ 21 ∧ plainName y.cls = true
/-- an instance method of class ci -/
def kN (y : MethodName) (ci : Nat) : Prop := Cond.instanceMethod y ∈ Gw ∧ Cond.selects y.cls y y ∈ Gw ∧ ∃ (T : u_T) (N : Nat), vwCl[ci]? = some (y.cls, T, N)
/-- a call's link -/
def kM (Nm : List (String × Nat × MethodName)) (own : String) (idx : Nat) (y : MethodName) : Prop := Cond.methodLink own idx y ∈ Gw ∨ (own, idx, y) ∈ Nm
